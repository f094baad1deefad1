theorem zw_2063 : (Jvm.Cond.methodLink "OrreryBoxModel$Painter" (194 : Nat) ({ cls := "OrreryBoxModel$Painter", name := "seen", desc := "(I)Z" } : Jvm.MethodName)) ∈ gw := gw_t 2063 (by decide +kernel) rfl
theorem zw_2065 : (Jvm.Cond.instanceMethod ({ cls := "OrreryBoxModel$Painter", name := "seen", desc := "(I)Z" } : Jvm.MethodName)) ∈ gw := gw_t 2065 (by decide +kernel) rfl
theorem zv_97 : (Jvm.Cond.selects "OrreryBoxModel$Painter" (⟨"OrreryBoxModel$Painter", "seen", "(I)Z"⟩ : MethodName) ⟨"OrreryBoxModel$Painter", "seen", "(I)Z"⟩) ∈ gw := gw_s 97 (by decide +kernel) rfl
theorem zs_MPainter_194 : zwV "OrreryBoxModel$Painter" 194 "OrreryBoxModel$Painter" zy_MPainter_seen zb_MPainter_seen 3 (some .boolean) := ⟨zw_2063, zw_2065, zv_97, zw_17, zc_MPainter_seen⟩
theorem zw_2067 : (Jvm.Cond.methodLink "OrreryBoxModel$Painter" (197 : Nat) ({ cls := "OrreryBoxModel$Painter", name := "toMatrix", desc := "(I)V" } : Jvm.MethodName)) ∈ gw := gw_t 2067 (by decide +kernel) rfl
theorem zw_2069 : (Jvm.Cond.instanceMethod ({ cls := "OrreryBoxModel$Painter", name := "toMatrix", desc := "(I)V" } : Jvm.MethodName)) ∈ gw := gw_t 2069 (by decide +kernel) rfl
theorem zv_98 : (Jvm.Cond.selects "OrreryBoxModel$Painter" (⟨"OrreryBoxModel$Painter", "toMatrix", "(I)V"⟩ : MethodName) ⟨"OrreryBoxModel$Painter", "toMatrix", "(I)V"⟩) ∈ gw := gw_s 98 (by decide +kernel) rfl
theorem zs_MPainter_197 : zwV "OrreryBoxModel$Painter" 197 "OrreryBoxModel$Painter" zy_MPainter_toMatrix zb_MPainter_toMatrix 3 none := ⟨zw_2067, zw_2069, zv_98, zw_17, zc_MPainter_toMatrix⟩
theorem zw_2076 : (Jvm.Cond.methodLink "OrreryBoxModel$Painter" (200 : Nat) ({ cls := "OrreryBoxModel$Painter", name := "ahead", desc := "(II)Z" } : Jvm.MethodName)) ∈ gw := gw_t 2076 (by decide +kernel) rfl
theorem zw_2078 : (Jvm.Cond.instanceMethod ({ cls := "OrreryBoxModel$Painter", name := "ahead", desc := "(II)Z" } : Jvm.MethodName)) ∈ gw := gw_t 2078 (by decide +kernel) rfl
theorem zv_100 : (Jvm.Cond.selects "OrreryBoxModel$Painter" (⟨"OrreryBoxModel$Painter", "ahead", "(II)Z"⟩ : MethodName) ⟨"OrreryBoxModel$Painter", "ahead", "(II)Z"⟩) ∈ gw := gw_s 100 (by decide +kernel) rfl
theorem zs_MPainter_200 : zwV "OrreryBoxModel$Painter" 200 "OrreryBoxModel$Painter" zy_MPainter_ahead zb_MPainter_ahead 3 (some .boolean) := ⟨zw_2076, zw_2078, zv_100, zw_17, zc_MPainter_ahead⟩
def L_MPainter_goOver_48 (sh : zSh) (fuel : Nat) (v0 : Nat) (v1 : Int32) (v2 : Int32) (v3 : Int32) (mm : zMem) : Option (Nat × Int32 × Int32 × Int32 × zMem) := match fuel with
  | 0 => none
  | fu + 1 => (if v3 ≤ 0 then some (v0, v1, v2, v3, mm) else zoS (sh v0) 13 (fun le33 => Option.bind (mm.2.2 v0 22) (fun a34 => zoL (v3 - 1) (fun i35 => zoS (sh a34) 100 (fun le37 => if (i35 : Int32) < 0 ∨ le37 ≤ (i35 : Int32).toNatClampNeg then none else zoS (sh v0) 13 (fun le40 => zoL (mm.1 a34 (i35 : Int32).toNatClampNeg) (fun x41 => Option.bind (F_MPainter_ahead sh mm v0 v2 x41) (fun p42 => (if p42.1 = 0 then some (v0, v1, v2, v3, p42.2) else zoS (sh v0) 13 (fun le45 => Option.bind ((p42.2).2.2 v0 22) (fun a46 => zoS (sh v0) 13 (fun le48 => Option.bind ((p42.2).2.2 v0 22) (fun a49 => zoL (v3 - 1) (fun i50 => zoS (sh a49) 100 (fun le52 => if (i50 : Int32) < 0 ∨ le52 ≤ (i50 : Int32).toNatClampNeg then none else zoL ((p42.2).1 a49 (i50 : Int32).toNatClampNeg) (fun x54 => zoS (sh a46) 100 (fun le56 => if (v3 : Int32) < 0 ∨ le56 ≤ (v3 : Int32).toNatClampNeg then none else zoL (mI (p42.2) a46 (v3 : Int32).toNatClampNeg x54) (fun mm58 => L_MPainter_goOver_48 sh fu v0 v1 v2 (v3 + (-1)) mm58))))))))))))))))))
set_option maxHeartbeats 4000000 in
set_option maxRecDepth 100000 in
theorem lp_MPainter_goOver_48 {p : Program} {l : Launch} {e : Env} {s : State} {m : MethodId} {args : Array Value} {below : List Frame} {meth : Method} {c : Code} {D : va_G} {tA : Nat → ClassId} {b n : Nat} {post : Option Value → zV → Nat → Prop} {sh : zSh} (F : zF p s m args meth c zb_MPainter_goOver 4 "OrreryBoxModel$Painter" D tA b) : ∀ (fuel : Nat) (v0 : Nat) (v1 : Int32) (v2 : Int32) (v3 : Int32) (mm : zMem) (r : Nat × Int32 × Int32 × Int32 × zMem), L_MPainter_goOver_48 sh fuel v0 v1 v2 v3 mm = some r → (Z p l e { frames := 10, cells := 0, slots := 0, locals := 268 } s m args below meth c D b 4 (MQ below (zQ D b post) args s 0 0 (fun q => b ≤ q)) (zW tA b sh r.2.2.2.2) n 0 0 88 [(0, .ref (b + (r.1))), (1, .int (r.2.1)), (2, .int (r.2.2.1)), (3, .int (r.2.2.2.1))] []) → Z p l e { frames := 10, cells := 0, slots := 0, locals := 268 } s m args below meth c D b 4 (MQ below (zQ D b post) args s 0 0 (fun q => b ≤ q)) (zW tA b sh mm) n 0 0 48 [(0, .ref (b + v0)), (1, .int v1), (2, .int v2), (3, .int v3)] [] := by
  intro fuel
  induction fuel with
  | zero =>
    intro v0 v1 v2 v3 mm r h
    cases h
  | succ fu ih =>
    intro v0 v1 v2 v3 mm r h hx0
    rw [L_MPainter_goOver_48] at h
    refine zr_pcn 48 rfl ?_
    refine zr_iload_n F zd_MPainter_goOver_48 rfl ?_
    refine zr_if_le F 88 zd_MPainter_goOver_49 (by decide) (fun hb31 => ?_) (fun hb31 => ?_)
    ·
      replace h := (if_pos hb31).symm.trans h
      obtain rfl := Option.some.inj h
      refine zr_loc (L' := [(0, .ref (b + v0)), (1, .int v1), (2, .int v2), (3, .int v3)]) ⟨rfl, rfl, rfl, rfl, trivial⟩ ?_
      exact hx0 
    ·
      replace h := (if_neg hb31).symm.trans h
      refine zr_aload_n F zd_MPainter_goOver_52 rfl ?_
      refine zr_iload_n F zd_MPainter_goOver_53 rfl ?_
      refine zr_aload_n F zd_MPainter_goOver_54 rfl ?_
      obtain ⟨le33, hs32, h⟩ := zoS_s h
      obtain ⟨a34, ea34, h⟩ := zoB_s h
      refine zr_get F 13 22 zd_MPainter_goOver_55 (zW_o hs32 (by decide)) rfl (by decide) zw_1602 rfl (by rfl) ?_
      refine zr_tor ea34 ?_
      refine zr_iload_n F zd_MPainter_goOver_58 rfl ?_
      refine zr_iconstv (v := 1) F zd_MPainter_goOver_59 (by decide) ?_
      refine zr_pcn 60 rfl ?_
      refine zr_isub F zd_MPainter_goOver_60 ?_
      obtain ⟨i35, ei35, h⟩ := zoL_s h
      rw [← ei35]
      obtain ⟨le37, hs36, h⟩ := zoS_s h
      obtain ⟨hi38, h⟩ := zoI_s h
      refine zr_iald F zd_MPainter_goOver_61 (zW_a0 hs36) hi38 ?_
      obtain ⟨le40, hs39, h⟩ := zoS_s h
      obtain ⟨x41, ex41, h⟩ := zoL_s h
      rw [← ex41]
      obtain ⟨p42, ep42, h⟩ := zoB_s h
      refine zr_callV1 F (k_MPainter_ahead l D tA b sh _ ep42) zd_MPainter_goOver_62 (zW_o hs39 (by decide)) rfl zs_MPainter_200 rfl zq_MPainter_ahead rfl rfl ⟨(Nat.le_of_ble_eq_true rfl), (Nat.le_of_ble_eq_true rfl)⟩ (Nat.le_of_ble_eq_true rfl) ⟨(Nat.le_of_ble_eq_true rfl), (Nat.le_of_ble_eq_true rfl)⟩ ?_
      refine zr_if_eq F 88 zd_MPainter_goOver_65 (by decide) (fun hb43 => ?_) (fun hb43 => ?_)
      ·
        replace h := (if_pos hb43).symm.trans h
        obtain rfl := Option.some.inj h
        refine zr_loc (L' := [(0, .ref (b + v0)), (1, .int v1), (2, .int v2), (3, .int v3)]) ⟨rfl, rfl, rfl, rfl, trivial⟩ ?_
        exact hx0 
      ·
        replace h := (if_neg hb43).symm.trans h
        refine zr_aload_n F zd_MPainter_goOver_68 rfl ?_
        obtain ⟨le45, hs44, h⟩ := zoS_s h
        obtain ⟨a46, ea46, h⟩ := zoB_s h
        refine zr_get F 13 22 zd_MPainter_goOver_69 (zW_o hs44 (by decide)) rfl (by decide) zw_1602 rfl (by rfl) ?_
        refine zr_tor ea46 ?_
        refine zr_iload_n F zd_MPainter_goOver_72 rfl ?_
        refine zr_aload_n F zd_MPainter_goOver_73 rfl ?_
        refine zr_pcn 74 rfl ?_
        obtain ⟨le48, hs47, h⟩ := zoS_s h
        obtain ⟨a49, ea49, h⟩ := zoB_s h
        refine zr_get F 13 22 zd_MPainter_goOver_74 (zW_o hs47 (by decide)) rfl (by decide) zw_1602 rfl (by rfl) ?_
        refine zr_tor ea49 ?_
        refine zr_iload_n F zd_MPainter_goOver_77 rfl ?_
        refine zr_iconstv (v := 1) F zd_MPainter_goOver_78 (by decide) ?_
        refine zr_isub F zd_MPainter_goOver_79 ?_
        obtain ⟨i50, ei50, h⟩ := zoL_s h
        rw [← ei50]
        obtain ⟨le52, hs51, h⟩ := zoS_s h
        obtain ⟨hi53, h⟩ := zoI_s h
        refine zr_iald F zd_MPainter_goOver_80 (zW_a0 hs51) hi53 ?_
        obtain ⟨x54, ex54, h⟩ := zoL_s h
        rw [← ex54]
        obtain ⟨le56, hs55, h⟩ := zoS_s h
        obtain ⟨hi57, h⟩ := zoI_s h
        refine zr_iast F zd_MPainter_goOver_81 (zW_a0 hs55) hi57 ?_
        obtain ⟨mm58, emm58, h⟩ := zoL_s h
        refine zr_norm (zW tA b sh mm58) _ (by rw [emm58]; exact zW_s0 hs55) rfl ?_
        refine zr_iinc (v := (v3 + (-1))) F zd_MPainter_goOver_82 rfl rfl (by decide) ?_
        refine zr_goto F 48 zd_MPainter_goOver_85 (by decide) ?_
        refine zr_loc (L' := [(0, .ref (b + v0)), (1, .int v1), (2, .int v2), (3, .int (v3 + (-1)))]) ⟨rfl, rfl, rfl, rfl, trivial⟩ ?_
        exact ih _ _ _ _ _ _ h hx0
def L_MPainter_goOver_9 (sh : zSh) (fuel : Nat) (v0 : Nat) (v1 : Int32) (v2 : Int32) (mm : zMem) : Option (Nat × Int32 × Int32 × zMem) := match fuel with
  | 0 => none
  | fu + 1 => zoS (sh v0) 13 (fun le5 => Option.bind (mm.2.2 v0 5) (fun a6 => zoS (sh a6) 15 (fun le8 => (if (mm.1 a6 3) ≤ v2 then some (v0, v1, v2, mm) else zoS (sh v0) 13 (fun le11 => Option.bind (F_MPainter_seen sh mm v0 v2) (fun p12 => (if p12.1 = 0 then L_MPainter_goOver_9 sh fu v0 v1 (v2 + 1) (p12.2) else zoS (sh v0) 13 (fun le15 => Option.bind (F_MPainter_toMatrix sh (p12.2) v0 v2) (fun p16 => zoS (sh v0) 13 (fun le18 => Option.bind (p16.2.2 v0 21) (fun a19 => zoS (sh v0) 13 (fun le21 => Option.bind (p16.2.2 v0 16) (fun a22 => zoS (sh a22) 102 (fun le24 => if (11 : Int32) < 0 ∨ le24 ≤ (11 : Int32).toNatClampNeg then none else zoL (p16.2.1 a22 (11 : Int32).toNatClampNeg) (fun x26 => zoS (sh a19) 102 (fun le28 => if (v2 : Int32) < 0 ∨ le28 ≤ (v2 : Int32).toNatClampNeg then none else zoL (mL p16 a19 (v2 : Int32).toNatClampNeg x26) (fun mm30 => Option.bind (L_MPainter_goOver_48 sh zfuel v0 v1 v2 v1 mm30) (fun q59 => zoS (sh (q59.1)) 13 (fun le61 => Option.bind ((q59.2.2.2.2).2.2 (q59.1) 22) (fun a62 => zoS (sh a62) 100 (fun le64 => if (q59.2.2.2.1 : Int32) < 0 ∨ le64 ≤ (q59.2.2.2.1 : Int32).toNatClampNeg then none else zoL (mI (q59.2.2.2.2) a62 (q59.2.2.2.1 : Int32).toNatClampNeg (q59.2.2.1)) (fun mm66 => L_MPainter_goOver_9 sh fu (q59.1) (q59.2.1 + 1) (q59.2.2.1 + 1) mm66))))))))))))))))))))))
set_option maxHeartbeats 4000000 in
set_option maxRecDepth 100000 in
theorem lp_MPainter_goOver_9 {p : Program} {l : Launch} {e : Env} {s : State} {m : MethodId} {args : Array Value} {below : List Frame} {meth : Method} {c : Code} {D : va_G} {tA : Nat → ClassId} {b n : Nat} {post : Option Value → zV → Nat → Prop} {sh : zSh} (F : zF p s m args meth c zb_MPainter_goOver 4 "OrreryBoxModel$Painter" D tA b) : ∀ (fuel : Nat) (v0 : Nat) (v1 : Int32) (v2 : Int32) (mm : zMem) (r : Nat × Int32 × Int32 × zMem), L_MPainter_goOver_9 sh fuel v0 v1 v2 mm = some r → (Z p l e { frames := 10, cells := 0, slots := 0, locals := 268 } s m args below meth c D b 4 (MQ below (zQ D b post) args s 0 0 (fun q => b ≤ q)) (zW tA b sh r.2.2.2) n 0 0 104 [(0, .ref (b + (r.1))), (1, .int (r.2.1)), (2, .int (r.2.2.1))] []) → Z p l e { frames := 10, cells := 0, slots := 0, locals := 268 } s m args below meth c D b 4 (MQ below (zQ D b post) args s 0 0 (fun q => b ≤ q)) (zW tA b sh mm) n 0 0 9 [(0, .ref (b + v0)), (1, .int v1), (2, .int v2)] [] := by
  intro fuel
  induction fuel with
  | zero =>
    intro v0 v1 v2 mm r h
    cases h
  | succ fu ih =>
    intro v0 v1 v2 mm r h hx0
    rw [L_MPainter_goOver_9] at h
    refine zr_pcn 9 rfl ?_
    refine zr_iload_n F zd_MPainter_goOver_9 rfl ?_
    refine zr_aload_n F zd_MPainter_goOver_10 rfl ?_
    obtain ⟨le5, hs4, h⟩ := zoS_s h
    obtain ⟨a6, ea6, h⟩ := zoB_s h
    refine zr_get F 13 5 zd_MPainter_goOver_11 (zW_o hs4 (by decide)) rfl (by decide) zw_1581 rfl (by rfl) ?_
    refine zr_tor ea6 ?_
    obtain ⟨le8, hs7, h⟩ := zoS_s h
    refine zr_get F 15 3 zd_MPainter_goOver_14 (zW_o hs7 (by decide)) rfl (by decide) zw_1327 rfl (by rfl) ?_
    refine zr_icmp_ge F 104 zd_MPainter_goOver_17 (by decide) (fun hb9 => ?_) (fun hb9 => ?_)
    ·
      replace h := (if_pos hb9).symm.trans h
      obtain rfl := Option.some.inj h
      refine zr_loc (L' := [(0, .ref (b + v0)), (1, .int v1), (2, .int v2)]) ⟨rfl, rfl, rfl, trivial⟩ ?_
      exact hx0 
    ·
      replace h := (if_neg hb9).symm.trans h
      refine zr_aload_n F zd_MPainter_goOver_20 rfl ?_
      refine zr_iload_n F zd_MPainter_goOver_21 rfl ?_
      obtain ⟨le11, hs10, h⟩ := zoS_s h
      obtain ⟨p12, ep12, h⟩ := zoB_s h
      refine zr_callV1 F (k_MPainter_seen l D tA b sh _ ep12) zd_MPainter_goOver_22 (zW_o hs10 (by decide)) rfl zs_MPainter_194 rfl zq_MPainter_seen rfl rfl ⟨(Nat.le_of_ble_eq_true rfl), (Nat.le_of_ble_eq_true rfl)⟩ (Nat.le_of_ble_eq_true rfl) ⟨(Nat.le_of_ble_eq_true rfl), (Nat.le_of_ble_eq_true rfl)⟩ ?_
      refine zr_pcn 25 rfl ?_
      refine zr_if_eq F 98 zd_MPainter_goOver_25 (by decide) (fun hb13 => ?_) (fun hb13 => ?_)
      ·
        replace h := (if_pos hb13).symm.trans h
        refine zr_iinc (v := (v2 + 1)) F zd_MPainter_goOver_98 rfl rfl (by decide) ?_
        refine zr_goto F 9 zd_MPainter_goOver_101 (by decide) ?_
        refine zr_loc (L' := [(0, .ref (b + v0)), (1, .int v1), (2, .int (v2 + 1))]) ⟨rfl, rfl, rfl, trivial⟩ ?_
        exact ih _ _ _ _ _ h hx0
      ·
        replace h := (if_neg hb13).symm.trans h
        refine zr_aload_n F zd_MPainter_goOver_28 rfl ?_
        refine zr_iload_n F zd_MPainter_goOver_29 rfl ?_
        obtain ⟨le15, hs14, h⟩ := zoS_s h
        obtain ⟨p16, ep16, h⟩ := zoB_s h
        refine zr_callV0 F (k_MPainter_toMatrix l D tA b sh _ ep16) zd_MPainter_goOver_30 (zW_o hs14 (by decide)) rfl zs_MPainter_197 rfl zq_MPainter_toMatrix rfl rfl ⟨(Nat.le_of_ble_eq_true rfl), (Nat.le_of_ble_eq_true rfl)⟩ (Nat.le_of_ble_eq_true rfl) ⟨(Nat.le_of_ble_eq_true rfl), (Nat.le_of_ble_eq_true rfl)⟩ ?_
        refine zr_aload_n F zd_MPainter_goOver_33 rfl ?_
        obtain ⟨le18, hs17, h⟩ := zoS_s h
        obtain ⟨a19, ea19, h⟩ := zoB_s h
        refine zr_get F 13 21 zd_MPainter_goOver_34 (zW_o hs17 (by decide)) rfl (by decide) zw_1601 rfl (by rfl) ?_
        refine zr_tor ea19 ?_
        refine zr_pcn 37 rfl ?_
        refine zr_iload_n F zd_MPainter_goOver_37 rfl ?_
        refine zr_aload_n F zd_MPainter_goOver_38 rfl ?_
        obtain ⟨le21, hs20, h⟩ := zoS_s h
        obtain ⟨a22, ea22, h⟩ := zoB_s h
        refine zr_get F 13 16 zd_MPainter_goOver_39 (zW_o hs20 (by decide)) rfl (by decide) zw_1596 rfl (by rfl) ?_
        refine zr_tor ea22 ?_
        refine zr_bipushv (v := 11) F zd_MPainter_goOver_42 (by decide) ?_
        obtain ⟨le24, hs23, h⟩ := zoS_s h
        obtain ⟨hi25, h⟩ := zoI_s h
        refine zr_lald F zd_MPainter_goOver_44 (zW_a2 hs23) hi25 ?_
        obtain ⟨x26, ex26, h⟩ := zoL_s h
        rw [← ex26]
        obtain ⟨le28, hs27, h⟩ := zoS_s h
        obtain ⟨hi29, h⟩ := zoI_s h
        refine zr_last F zd_MPainter_goOver_45 (zW_a2 hs27) hi29 ?_
        obtain ⟨mm30, emm30, h⟩ := zoL_s h
        refine zr_norm (zW tA b sh mm30) _ (by rw [emm30]; exact zW_s2 hs27) rfl ?_
        refine zr_iload_n F zd_MPainter_goOver_46 rfl ?_
        refine zr_istore_n F zd_MPainter_goOver_47 (by decide) ?_
        obtain ⟨q59, eq59, h⟩ := zoB_s h
        refine zr_loc (L' := [(0, .ref (b + v0)), (1, .int v1), (2, .int v2), (3, .int v1)]) ⟨rfl, rfl, rfl, rfl, trivial⟩ ?_
        refine lp_MPainter_goOver_48 F _ _ _ _ _ _ _ eq59 ?_
        ·
          refine zr_pcn 88 rfl ?_
          refine zr_aload_n F zd_MPainter_goOver_88 rfl ?_
          obtain ⟨le61, hs60, h⟩ := zoS_s h
          obtain ⟨a62, ea62, h⟩ := zoB_s h
          refine zr_get F 13 22 zd_MPainter_goOver_89 (zW_o hs60 (by decide)) rfl (by decide) zw_1602 rfl (by rfl) ?_
          refine zr_tor ea62 ?_
          refine zr_iload_n F zd_MPainter_goOver_92 rfl ?_
          refine zr_iload_n F zd_MPainter_goOver_93 rfl ?_
          obtain ⟨le64, hs63, h⟩ := zoS_s h
          obtain ⟨hi65, h⟩ := zoI_s h
          refine zr_iast F zd_MPainter_goOver_94 (zW_a0 hs63) hi65 ?_
          obtain ⟨mm66, emm66, h⟩ := zoL_s h
          refine zr_norm (zW tA b sh mm66) _ (by rw [emm66]; exact zW_s0 hs63) rfl ?_
          refine zr_iinc (v := (q59.2.1 + 1)) F zd_MPainter_goOver_95 rfl rfl (by decide) ?_
          refine zr_iinc (v := (q59.2.2.1 + 1)) F zd_MPainter_goOver_98 rfl rfl (by decide) ?_
          refine zr_loc (L' := [(0, .ref (b + (q59.1))), (1, .int (q59.2.1 + 1)), (2, .int (q59.2.2.1 + 1))]) ⟨rfl, rfl, rfl, trivial⟩ ?_
          refine zr_goto F 9 zd_MPainter_goOver_101 (by decide) ?_
          refine zr_loc (L' := [(0, .ref (b + (q59.1))), (1, .int (q59.2.1 + 1)), (2, .int (q59.2.2.1 + 1))]) ⟨rfl, rfl, rfl, trivial⟩ ?_
          exact ih _ _ _ _ _ h hx0
theorem zw_1359 : (Jvm.Cond.fieldLink "OrreryBoxModel$Painter" (204 : Nat) "OrreryBoxModel$Scene" "faces" "[I") ∈ gw := gw_t 1359 (by decide +kernel) rfl
theorem zw_2088 : (Jvm.Cond.methodLink "OrreryBoxModel$Painter" (207 : Nat) ({ cls := "OrreryBoxModel$Painter", name := "goOverFace", desc := "(II)V" } : Jvm.MethodName)) ∈ gw := gw_t 2088 (by decide +kernel) rfl
theorem zw_2090 : (Jvm.Cond.instanceMethod ({ cls := "OrreryBoxModel$Painter", name := "goOverFace", desc := "(II)V" } : Jvm.MethodName)) ∈ gw := gw_t 2090 (by decide +kernel) rfl
theorem zv_103 : (Jvm.Cond.selects "OrreryBoxModel$Painter" (⟨"OrreryBoxModel$Painter", "goOverFace", "(II)V"⟩ : MethodName) ⟨"OrreryBoxModel$Painter", "goOverFace", "(II)V"⟩) ∈ gw := gw_s 103 (by decide +kernel) rfl
theorem zs_MPainter_207 : zwV "OrreryBoxModel$Painter" 207 "OrreryBoxModel$Painter" zy_MPainter_goOverFace zb_MPainter_goOverFace 7 none := ⟨zw_2088, zw_2090, zv_103, zw_17, zc_MPainter_goOverFace⟩
def L_MPainter_goOver_123 (sh : zSh) (fuel : Nat) (v0 : Nat) (v1 : Int32) (v2 : Int32) (v3 : Int32) (mm : zMem) : Option (Nat × Int32 × Int32 × Int32 × zMem) := match fuel with
  | 0 => none
  | fu + 1 => zoS (sh v0) 13 (fun le80 => Option.bind (mm.2.2 v0 5) (fun a81 => zoS (sh a81) 15 (fun le83 => Option.bind (mm.2.2 a81 14) (fun a84 => zoS (sh v0) 13 (fun le86 => Option.bind (mm.2.2 v0 5) (fun a87 => zoS (sh a87) 15 (fun le89 => Option.bind (mm.2.2 a87 20) (fun a90 => zoS (sh v0) 13 (fun le92 => Option.bind (mm.2.2 v0 22) (fun a93 => zoS (sh a93) 100 (fun le95 => if (v2 : Int32) < 0 ∨ le95 ≤ (v2 : Int32).toNatClampNeg then none else zoL (mm.1 a93 (v2 : Int32).toNatClampNeg) (fun i97 => zoS (sh a90) 100 (fun le99 => if (i97 : Int32) < 0 ∨ le99 ≤ (i97 : Int32).toNatClampNeg then none else zoL (mm.1 a90 (i97 : Int32).toNatClampNeg) (fun i101 => zoS (sh a84) 100 (fun le103 => if (i101 : Int32) < 0 ∨ le103 ≤ (i101 : Int32).toNatClampNeg then none else (if (mm.1 a84 (i101 : Int32).toNatClampNeg) ≤ v3 then some (v0, v1, v2, v3, mm) else zoS (sh v0) 13 (fun le107 => Option.bind (mm.2.2 v0 22) (fun a108 => zoS (sh a108) 100 (fun le110 => if (v2 : Int32) < 0 ∨ le110 ≤ (v2 : Int32).toNatClampNeg then none else zoS (sh v0) 13 (fun le113 => zoL (mm.1 a108 (v2 : Int32).toNatClampNeg) (fun x114 => Option.bind (F_MPainter_goOverFace sh mm v0 x114 v3) (fun p115 => L_MPainter_goOver_123 sh fu v0 v1 v2 (v3 + 1) p115))))))))))))))))))))))
set_option maxHeartbeats 4000000 in
set_option maxRecDepth 100000 in
theorem lp_MPainter_goOver_123 {p : Program} {l : Launch} {e : Env} {s : State} {m : MethodId} {args : Array Value} {below : List Frame} {meth : Method} {c : Code} {D : va_G} {tA : Nat → ClassId} {b n : Nat} {post : Option Value → zV → Nat → Prop} {sh : zSh} (F : zF p s m args meth c zb_MPainter_goOver 4 "OrreryBoxModel$Painter" D tA b) : ∀ (fuel : Nat) (v0 : Nat) (v1 : Int32) (v2 : Int32) (v3 : Int32) (mm : zMem) (r : Nat × Int32 × Int32 × Int32 × zMem), L_MPainter_goOver_123 sh fuel v0 v1 v2 v3 mm = some r → (Z p l e { frames := 10, cells := 0, slots := 0, locals := 268 } s m args below meth c D b 4 (MQ below (zQ D b post) args s 0 0 (fun q => b ≤ q)) (zW tA b sh r.2.2.2.2) n 0 0 166 [(0, .ref (b + (r.1))), (1, .int (r.2.1)), (2, .int (r.2.2.1)), (3, .int (r.2.2.2.1))] []) → Z p l e { frames := 10, cells := 0, slots := 0, locals := 268 } s m args below meth c D b 4 (MQ below (zQ D b post) args s 0 0 (fun q => b ≤ q)) (zW tA b sh mm) n 0 0 123 [(0, .ref (b + v0)), (1, .int v1), (2, .int v2), (3, .int v3)] [] := by
  intro fuel
  induction fuel with
  | zero =>
    intro v0 v1 v2 v3 mm r h
    cases h
  | succ fu ih =>
    intro v0 v1 v2 v3 mm r h hx0
    rw [L_MPainter_goOver_123] at h
    refine zr_iload_n F zd_MPainter_goOver_123 rfl ?_
    refine zr_aload_n F zd_MPainter_goOver_124 rfl ?_
    obtain ⟨le80, hs79, h⟩ := zoS_s h
    obtain ⟨a81, ea81, h⟩ := zoB_s h
    refine zr_get F 13 5 zd_MPainter_goOver_125 (zW_o hs79 (by decide)) rfl (by decide) zw_1581 rfl (by rfl) ?_
    refine zr_tor ea81 ?_
    refine zr_pcn 128 rfl ?_
    obtain ⟨le83, hs82, h⟩ := zoS_s h
    obtain ⟨a84, ea84, h⟩ := zoB_s h
    refine zr_get F 15 14 zd_MPainter_goOver_128 (zW_o hs82 (by decide)) rfl (by decide) zw_1359 rfl (by rfl) ?_
    refine zr_tor ea84 ?_
    refine zr_aload_n F zd_MPainter_goOver_131 rfl ?_
    obtain ⟨le86, hs85, h⟩ := zoS_s h
    obtain ⟨a87, ea87, h⟩ := zoB_s h
    refine zr_get F 13 5 zd_MPainter_goOver_132 (zW_o hs85 (by decide)) rfl (by decide) zw_1581 rfl (by rfl) ?_
    refine zr_tor ea87 ?_
    obtain ⟨le89, hs88, h⟩ := zoS_s h
    obtain ⟨a90, ea90, h⟩ := zoB_s h
    refine zr_get F 15 20 zd_MPainter_goOver_135 (zW_o hs88 (by decide)) rfl (by decide) zw_1377 rfl (by rfl) ?_
    refine zr_tor ea90 ?_
    refine zr_aload_n F zd_MPainter_goOver_138 rfl ?_
    obtain ⟨le92, hs91, h⟩ := zoS_s h
    obtain ⟨a93, ea93, h⟩ := zoB_s h
    refine zr_get F 13 22 zd_MPainter_goOver_139 (zW_o hs91 (by decide)) rfl (by decide) zw_1602 rfl (by rfl) ?_
    refine zr_tor ea93 ?_
    refine zr_iload_n F zd_MPainter_goOver_142 rfl ?_
    obtain ⟨le95, hs94, h⟩ := zoS_s h
    obtain ⟨hi96, h⟩ := zoI_s h
    refine zr_iald F zd_MPainter_goOver_143 (zW_a0 hs94) hi96 ?_
    refine zr_pcn 144 rfl ?_
    obtain ⟨i97, ei97, h⟩ := zoL_s h
    rw [← ei97]
    obtain ⟨le99, hs98, h⟩ := zoS_s h
    obtain ⟨hi100, h⟩ := zoI_s h
    refine zr_iald F zd_MPainter_goOver_144 (zW_a0 hs98) hi100 ?_
    obtain ⟨i101, ei101, h⟩ := zoL_s h
    rw [← ei101]
    obtain ⟨le103, hs102, h⟩ := zoS_s h
    obtain ⟨hi104, h⟩ := zoI_s h
    refine zr_iald F zd_MPainter_goOver_145 (zW_a0 hs102) hi104 ?_
    refine zr_icmp_ge F 166 zd_MPainter_goOver_146 (by decide) (fun hb105 => ?_) (fun hb105 => ?_)
    ·
      replace h := (if_pos hb105).symm.trans h
      obtain rfl := Option.some.inj h
      refine zr_loc (L' := [(0, .ref (b + v0)), (1, .int v1), (2, .int v2), (3, .int v3)]) ⟨rfl, rfl, rfl, rfl, trivial⟩ ?_
      exact hx0 
    ·
      replace h := (if_neg hb105).symm.trans h
      refine zr_aload_n F zd_MPainter_goOver_149 rfl ?_
      refine zr_aload_n F zd_MPainter_goOver_150 rfl ?_
      obtain ⟨le107, hs106, h⟩ := zoS_s h
      obtain ⟨a108, ea108, h⟩ := zoB_s h
      refine zr_get F 13 22 zd_MPainter_goOver_151 (zW_o hs106 (by decide)) rfl (by decide) zw_1602 rfl (by rfl) ?_
      refine zr_tor ea108 ?_
      refine zr_iload_n F zd_MPainter_goOver_154 rfl ?_
      obtain ⟨le110, hs109, h⟩ := zoS_s h
      obtain ⟨hi111, h⟩ := zoI_s h
      refine zr_iald F zd_MPainter_goOver_155 (zW_a0 hs109) hi111 ?_
      refine zr_pcn 156 rfl ?_
      refine zr_iload_n F zd_MPainter_goOver_156 rfl ?_
      obtain ⟨le113, hs112, h⟩ := zoS_s h
      obtain ⟨x114, ex114, h⟩ := zoL_s h
      rw [← ex114]
      obtain ⟨p115, ep115, h⟩ := zoB_s h
      refine zr_callV0 F (k_MPainter_goOverFace l D tA b sh _ ep115) zd_MPainter_goOver_157 (zW_o hs112 (by decide)) rfl zs_MPainter_207 rfl zq_MPainter_goOverFace rfl rfl ⟨(Nat.le_of_ble_eq_true rfl), (Nat.le_of_ble_eq_true rfl)⟩ (Nat.le_of_ble_eq_true rfl) ⟨(Nat.le_of_ble_eq_true rfl), (Nat.le_of_ble_eq_true rfl)⟩ ?_
      refine zr_iinc (v := (v3 + 1)) F zd_MPainter_goOver_160 rfl rfl (by decide) ?_
      refine zr_goto F 123 zd_MPainter_goOver_163 (by decide) ?_
      refine zr_loc (L' := [(0, .ref (b + v0)), (1, .int v1), (2, .int v2), (3, .int (v3 + 1))]) ⟨rfl, rfl, rfl, rfl, trivial⟩ ?_
      exact ih _ _ _ _ _ _ h hx0
def L_MPainter_goOver_106 (sh : zSh) (fuel : Nat) (v0 : Nat) (v1 : Int32) (v2 : Int32) (mm : zMem) : Option (Nat × Int32 × Int32 × zMem) := match fuel with
  | 0 => none
  | fu + 1 => (if v1 ≤ v2 then some (v0, v1, v2, mm) else zoS (sh v0) 13 (fun le70 => Option.bind (mm.2.2 v0 22) (fun a71 => zoS (sh a71) 100 (fun le73 => if (v2 : Int32) < 0 ∨ le73 ≤ (v2 : Int32).toNatClampNeg then none else zoS (sh v0) 13 (fun le76 => zoL (mm.1 a71 (v2 : Int32).toNatClampNeg) (fun x77 => Option.bind (F_MPainter_toMatrix sh mm v0 x77) (fun p78 => Option.bind (L_MPainter_goOver_123 sh zfuel v0 v1 v2 0 p78) (fun q116 => L_MPainter_goOver_106 sh fu (q116.1) (q116.2.1) (q116.2.2.1 + 1) (q116.2.2.2.2)))))))))
set_option maxHeartbeats 4000000 in
set_option maxRecDepth 100000 in
theorem lp_MPainter_goOver_106 {p : Program} {l : Launch} {e : Env} {s : State} {m : MethodId} {args : Array Value} {below : List Frame} {meth : Method} {c : Code} {D : va_G} {tA : Nat → ClassId} {b n : Nat} {post : Option Value → zV → Nat → Prop} {sh : zSh} (F : zF p s m args meth c zb_MPainter_goOver 4 "OrreryBoxModel$Painter" D tA b) : ∀ (fuel : Nat) (v0 : Nat) (v1 : Int32) (v2 : Int32) (mm : zMem) (r : Nat × Int32 × Int32 × zMem), L_MPainter_goOver_106 sh fuel v0 v1 v2 mm = some r → (Z p l e { frames := 10, cells := 0, slots := 0, locals := 268 } s m args below meth c D b 4 (MQ below (zQ D b post) args s 0 0 (fun q => b ≤ q)) (zW tA b sh r.2.2.2) n 0 0 172 [(0, .ref (b + (r.1))), (1, .int (r.2.1)), (2, .int (r.2.2.1))] []) → Z p l e { frames := 10, cells := 0, slots := 0, locals := 268 } s m args below meth c D b 4 (MQ below (zQ D b post) args s 0 0 (fun q => b ≤ q)) (zW tA b sh mm) n 0 0 106 [(0, .ref (b + v0)), (1, .int v1), (2, .int v2)] [] := by
  intro fuel
  induction fuel with
  | zero =>
    intro v0 v1 v2 mm r h
    cases h
  | succ fu ih =>
    intro v0 v1 v2 mm r h hx0
    rw [L_MPainter_goOver_106] at h
    refine zr_iload_n F zd_MPainter_goOver_106 rfl ?_
    refine zr_iload_n F zd_MPainter_goOver_107 rfl ?_
    refine zr_icmp_ge F 172 zd_MPainter_goOver_108 (by decide) (fun hb68 => ?_) (fun hb68 => ?_)
    ·
      replace h := (if_pos hb68).symm.trans h
      obtain rfl := Option.some.inj h
      refine zr_loc (L' := [(0, .ref (b + v0)), (1, .int v1), (2, .int v2)]) ⟨rfl, rfl, rfl, trivial⟩ ?_
      exact hx0 
    ·
      replace h := (if_neg hb68).symm.trans h
      refine zr_aload_n F zd_MPainter_goOver_111 rfl ?_
      refine zr_aload_n F zd_MPainter_goOver_112 rfl ?_
      obtain ⟨le70, hs69, h⟩ := zoS_s h
      obtain ⟨a71, ea71, h⟩ := zoB_s h
      refine zr_get F 13 22 zd_MPainter_goOver_113 (zW_o hs69 (by decide)) rfl (by decide) zw_1602 rfl (by rfl) ?_
      refine zr_tor ea71 ?_
      refine zr_pcn 116 rfl ?_
      refine zr_iload_n F zd_MPainter_goOver_116 rfl ?_
      obtain ⟨le73, hs72, h⟩ := zoS_s h
      obtain ⟨hi74, h⟩ := zoI_s h
      refine zr_iald F zd_MPainter_goOver_117 (zW_a0 hs72) hi74 ?_
      obtain ⟨le76, hs75, h⟩ := zoS_s h
      obtain ⟨x77, ex77, h⟩ := zoL_s h
      rw [← ex77]
      obtain ⟨p78, ep78, h⟩ := zoB_s h
      refine zr_callV0 F (k_MPainter_toMatrix l D tA b sh _ ep78) zd_MPainter_goOver_118 (zW_o hs75 (by decide)) rfl zs_MPainter_197 rfl zq_MPainter_toMatrix rfl rfl ⟨(Nat.le_of_ble_eq_true rfl), (Nat.le_of_ble_eq_true rfl)⟩ (Nat.le_of_ble_eq_true rfl) ⟨(Nat.le_of_ble_eq_true rfl), (Nat.le_of_ble_eq_true rfl)⟩ ?_
      refine zr_iconstv (v := 0) F zd_MPainter_goOver_121 (by decide) ?_
      refine zr_istore_n F zd_MPainter_goOver_122 (by decide) ?_
      obtain ⟨q116, eq116, h⟩ := zoB_s h
      refine zr_loc (L' := [(0, .ref (b + v0)), (1, .int v1), (2, .int v2), (3, .int 0)]) ⟨rfl, rfl, rfl, rfl, trivial⟩ ?_
      refine lp_MPainter_goOver_123 F _ _ _ _ _ _ _ eq116 ?_
      ·
        refine zr_iinc (v := (q116.2.2.1 + 1)) F zd_MPainter_goOver_166 rfl rfl (by decide) ?_
        refine zr_goto F 106 zd_MPainter_goOver_169 (by decide) ?_
        refine zr_loc (L' := [(0, .ref (b + (q116.1))), (1, .int (q116.2.1)), (2, .int (q116.2.2.1 + 1))]) ⟨rfl, rfl, rfl, trivial⟩ ?_
        exact ih _ _ _ _ _ h hx0
def F_MPainter_goOver (sh : zSh) (mm : zMem) (o : Nat) : Option zMem := zoS (sh o) 13 (fun le2 => zoL (mI mm o 0 0) (fun mm3 => Option.bind (L_MPainter_goOver_9 sh zfuel o 0 0 mm3) (fun q67 => Option.bind (L_MPainter_goOver_106 sh zfuel (q67.1) (q67.2.1) 0 (q67.2.2.2)) (fun q117 => some (q117.2.2.2)))))
set_option maxHeartbeats 4000000 in
set_option maxRecDepth 100000 in
theorem k_MPainter_goOver (l : Launch) (D : va_G) (tA : Nat → ClassId) (b : Nat) (sh : zSh) (n : Nat) {mm : zMem} {o : Nat} {r : zMem} (h : F_MPainter_goOver sh mm o = some r) : zM l D tA b zy_MPainter_goOver zb_MPainter_goOver 4 none 10 268 0 0 [.ref (b + o)] (zW tA b sh mm) n (zE none (zW tA b sh r) n) := by
  unfold F_MPainter_goOver at h
  refine zM_of (own := "OrreryBoxModel$Painter") (plainFor_of_name (by decide)) rfl (Nat.le_of_ble_eq_true rfl) (fun p e s m below meth c F hr hin hH => ?_)
  refine zr_iconstv (v := 0) F zd_MPainter_goOver_0 (by decide) ?_
  refine zr_istore_n F zd_MPainter_goOver_1 (by decide) ?_
  refine zr_aload_n F zd_MPainter_goOver_2 rfl ?_
  refine zr_iconstv (v := 0) F zd_MPainter_goOver_3 (by decide) ?_
  obtain ⟨le2, hs1, h⟩ := zoS_s h
  refine zr_put F 13 0 zd_MPainter_goOver_4 (zW_o hs1 (by decide)) rfl (by decide) zw_1576 rfl rfl rfl rfl (by exact (Nat.le_of_ble_eq_true rfl)) ?_
  obtain ⟨mm3, emm3, h⟩ := zoL_s h
  refine zr_norm (zW tA b sh mm3) _ (by rw [emm3]; exact zW_pI (v := 0) hs1 (by decide) (zf_I_13_0 b _ _ _)) rfl ?_
  refine zr_iconstv (v := 0) F zd_MPainter_goOver_7 (by decide) ?_
  refine zr_istore_n F zd_MPainter_goOver_8 (by decide) ?_
  obtain ⟨q67, eq67, h⟩ := zoB_s h
  refine zr_loc (L' := [(0, .ref (b + o)), (1, .int 0), (2, .int 0)]) ⟨rfl, rfl, rfl, trivial⟩ ?_
  refine lp_MPainter_goOver_9 F _ _ _ _ _ _ eq67 ?_
  ·
    refine zr_pcn 104 rfl ?_
    refine zr_iconstv (v := 0) F zd_MPainter_goOver_104 (by decide) ?_
    refine zr_istore_n F zd_MPainter_goOver_105 (by decide) ?_
    refine zr_loc (L' := [(0, .ref (b + (q67.1))), (1, .int (q67.2.1)), (2, .int 0)]) ⟨rfl, rfl, rfl, trivial⟩ ?_
    obtain ⟨q117, eq117, h⟩ := zoB_s h
    refine zr_loc (L' := [(0, .ref (b + (q67.1))), (1, .int (q67.2.1)), (2, .int 0)]) ⟨rfl, rfl, rfl, trivial⟩ ?_
    refine lp_MPainter_goOver_106 F _ _ _ _ _ _ eq117 ?_
    ·
      obtain rfl := Option.some.inj h
      exact zr_vret F hr zd_MPainter_goOver_172 (Nat.le_of_ble_eq_true rfl) (Nat.le_of_ble_eq_true rfl) ⟨rfl, rfl, rfl⟩
abbrev zb_MPainter_paint : ByteArray := prog_16_method_35_code
def zy_MPainter_paint : MethodName := ⟨"OrreryBoxModel$Painter", "paint", "(LOrreryBoxModel$Scene;IIII)V"⟩
theorem zc_MPainter_paint : Cond.code zy_MPainter_paint zb_MPainter_paint 6 none ∈ gw := gw_t 2058 (by decide +kernel) rfl
theorem zq_MPainter_paint : zy_MPainter_paint.cls ≠ "java/lang/invoke/MethodHandle" ∧ zy_MPainter_paint.cls ≠ "java/lang/invoke/VarHandle" ∧ (parseMethodDescriptor zy_MPainter_paint.desc).map (fun d => d.parameters.length) = some 5 := by decide +kernel
theorem zd_MPainter_paint_0 : decode zb_MPainter_paint 0 = .ok (.aload_n 0, 1) := by decide +kernel
theorem zd_MPainter_paint_1 : decode zb_MPainter_paint 1 = .ok (.aload_n 1, 1) := by decide +kernel
theorem zd_MPainter_paint_2 : decode zb_MPainter_paint 2 = .ok (.putfield 129, 3) := by decide +kernel
theorem zd_MPainter_paint_5 : decode zb_MPainter_paint 5 = .ok (.aload_n 0, 1) := by decide +kernel
theorem zd_MPainter_paint_6 : decode zb_MPainter_paint 6 = .ok (.iconst 1, 1) := by decide +kernel
theorem zd_MPainter_paint_7 : decode zb_MPainter_paint 7 = .ok (.putfield 289, 3) := by decide +kernel
theorem zd_MPainter_paint_10 : decode zb_MPainter_paint 10 = .ok (.aload_n 0, 1) := by decide +kernel
theorem zd_MPainter_paint_11 : decode zb_MPainter_paint 11 = .ok (.iload_n 2, 1) := by decide +kernel
theorem zd_MPainter_paint_12 : decode zb_MPainter_paint 12 = .ok (.putfield 271, 3) := by decide +kernel
theorem zd_MPainter_paint_15 : decode zb_MPainter_paint 15 = .ok (.aload_n 0, 1) := by decide +kernel
theorem zd_MPainter_paint_16 : decode zb_MPainter_paint 16 = .ok (.iload_n 3, 1) := by decide +kernel
theorem zd_MPainter_paint_17 : decode zb_MPainter_paint 17 = .ok (.putfield 265, 3) := by decide +kernel
theorem zd_MPainter_paint_20 : decode zb_MPainter_paint 20 = .ok (.aload_n 0, 1) := by decide +kernel
theorem zd_MPainter_paint_21 : decode zb_MPainter_paint 21 = .ok (.iload 4, 2) := by decide +kernel
theorem zd_MPainter_paint_23 : decode zb_MPainter_paint 23 = .ok (.putfield 274, 3) := by decide +kernel
theorem zd_MPainter_paint_26 : decode zb_MPainter_paint 26 = .ok (.aload_n 0, 1) := by decide +kernel
theorem zd_MPainter_paint_27 : decode zb_MPainter_paint 27 = .ok (.iload 5, 2) := by decide +kernel
theorem zd_MPainter_paint_29 : decode zb_MPainter_paint 29 = .ok (.putfield 268, 3) := by decide +kernel
theorem zd_MPainter_paint_32 : decode zb_MPainter_paint 32 = .ok (.aload_n 0, 1) := by decide +kernel
theorem zd_MPainter_paint_33 : decode zb_MPainter_paint 33 = .ok (.invokevirtual 346, 3) := by decide +kernel
theorem zd_MPainter_paint_36 : decode zb_MPainter_paint 36 = .ok (.return_, 1) := by decide +kernel
theorem zf_I_13_10 (b : Nat) (m : zMem) (k : Nat) (v : Int32) : (zfl b 13 m k).set 10 (.int v) = zfl b 13 (mI m k 10 v) k := by simp [zfl, mI, upd, vp_updL]
theorem zf_I_13_6 (b : Nat) (m : zMem) (k : Nat) (v : Int32) : (zfl b 13 m k).set 6 (.int v) = zfl b 13 (mI m k 6 v) k := by simp [zfl, mI, upd, vp_updL]
theorem zf_I_13_7 (b : Nat) (m : zMem) (k : Nat) (v : Int32) : (zfl b 13 m k).set 7 (.int v) = zfl b 13 (mI m k 7 v) k := by simp [zfl, mI, upd, vp_updL]
theorem zf_I_13_8 (b : Nat) (m : zMem) (k : Nat) (v : Int32) : (zfl b 13 m k).set 8 (.int v) = zfl b 13 (mI m k 8 v) k := by simp [zfl, mI, upd, vp_updL]
theorem zf_I_13_9 (b : Nat) (m : zMem) (k : Nat) (v : Int32) : (zfl b 13 m k).set 9 (.int v) = zfl b 13 (mI m k 9 v) k := by simp [zfl, mI, upd, vp_updL]
def F_MPainter_paint (sh : zSh) (mm : zMem) (o : Nat) (x0_ : Nat) (x1_ : Int32) (x2_ : Int32) (x3_ : Int32) (x4_ : Int32) : Option zMem := zoS (sh o) 13 (fun le2 => zoL (mR mm o 5 (some x0_)) (fun mm3 => zoS (sh o) 13 (fun le5 => zoL (mI mm3 o 10 1) (fun mm6 => zoS (sh o) 13 (fun le8 => zoL (mI mm6 o 6 x1_) (fun mm9 => zoS (sh o) 13 (fun le11 => zoL (mI mm9 o 7 x2_) (fun mm12 => zoS (sh o) 13 (fun le14 => zoL (mI mm12 o 8 x3_) (fun mm15 => zoS (sh o) 13 (fun le17 => zoL (mI mm15 o 9 x4_) (fun mm18 => zoS (sh o) 13 (fun le20 => Option.bind (F_MPainter_goOver sh mm18 o) (fun p21 => some p21))))))))))))))
set_option maxHeartbeats 4000000 in
set_option maxRecDepth 100000 in
theorem k_MPainter_paint (l : Launch) (D : va_G) (tA : Nat → ClassId) (b : Nat) (sh : zSh) (n : Nat) {mm : zMem} {o : Nat} {x0_ : Nat} {x1_ : Int32} {x2_ : Int32} {x3_ : Int32} {x4_ : Int32} {r : zMem} (h : F_MPainter_paint sh mm o x0_ x1_ x2_ x3_ x4_ = some r) : zM l D tA b zy_MPainter_paint zb_MPainter_paint 6 none 11 291 0 0 [.ref (b + o), .ref (b + x0_), .int x1_, .int x2_, .int x3_, .int x4_] (zW tA b sh mm) n (zE none (zW tA b sh r) n) := by
  unfold F_MPainter_paint at h
  refine zM_of (own := "OrreryBoxModel$Painter") (plainFor_of_name (by decide)) rfl (Nat.le_of_ble_eq_true rfl) (fun p e s m below meth c F hr hin hH => ?_)
  refine zr_aload_n F zd_MPainter_paint_0 rfl ?_
  refine zr_aload_n F zd_MPainter_paint_1 rfl ?_
  obtain ⟨le2, hs1, h⟩ := zoS_s h
  refine zr_put F 13 5 zd_MPainter_paint_2 (zW_o hs1 (by decide)) rfl (by decide) zw_1581 rfl rfl rfl rfl (by exact (Nat.le_of_ble_eq_true rfl)) ?_
  obtain ⟨mm3, emm3, h⟩ := zoL_s h
  refine zr_norm (zW tA b sh mm3) _ (by rw [emm3]; exact zW_pR (v := (some x0_)) hs1 (by decide) (zf_R_13_5 b _ _ _)) rfl ?_
  refine zr_aload_n F zd_MPainter_paint_5 rfl ?_
  refine zr_iconstv (v := 1) F zd_MPainter_paint_6 (by decide) ?_
  obtain ⟨le5, hs4, h⟩ := zoS_s h
  refine zr_put F 13 10 zd_MPainter_paint_7 (zW_o hs4 (by decide)) rfl (by decide) zw_1587 rfl rfl rfl rfl (by exact (Nat.le_of_ble_eq_true rfl)) ?_
  obtain ⟨mm6, emm6, h⟩ := zoL_s h
  refine zr_norm (zW tA b sh mm6) _ (by rw [emm6]; exact zW_pI (v := 1) hs4 (by decide) (zf_I_13_10 b _ _ _)) rfl ?_
  refine zr_aload_n F zd_MPainter_paint_10 rfl ?_
  refine zr_pcn 11 rfl ?_
  refine zr_iload_n F zd_MPainter_paint_11 rfl ?_
  obtain ⟨le8, hs7, h⟩ := zoS_s h
  refine zr_put F 13 6 zd_MPainter_paint_12 (zW_o hs7 (by decide)) rfl (by decide) zw_1583 rfl rfl rfl rfl (by exact (Nat.le_of_ble_eq_true rfl)) ?_
  obtain ⟨mm9, emm9, h⟩ := zoL_s h
  refine zr_norm (zW tA b sh mm9) _ (by rw [emm9]; exact zW_pI (v := x1_) hs7 (by decide) (zf_I_13_6 b _ _ _)) rfl ?_
  refine zr_aload_n F zd_MPainter_paint_15 rfl ?_
  refine zr_iload_n F zd_MPainter_paint_16 rfl ?_
  obtain ⟨le11, hs10, h⟩ := zoS_s h
  refine zr_put F 13 7 zd_MPainter_paint_17 (zW_o hs10 (by decide)) rfl (by decide) zw_1584 rfl rfl rfl rfl (by exact (Nat.le_of_ble_eq_true rfl)) ?_
  obtain ⟨mm12, emm12, h⟩ := zoL_s h
  refine zr_norm (zW tA b sh mm12) _ (by rw [emm12]; exact zW_pI (v := x2_) hs10 (by decide) (zf_I_13_7 b _ _ _)) rfl ?_
  refine zr_aload_n F zd_MPainter_paint_20 rfl ?_
  refine zr_iload F zd_MPainter_paint_21 rfl ?_
  obtain ⟨le14, hs13, h⟩ := zoS_s h
  refine zr_put F 13 8 zd_MPainter_paint_23 (zW_o hs13 (by decide)) rfl (by decide) zw_1585 rfl rfl rfl rfl (by exact (Nat.le_of_ble_eq_true rfl)) ?_
  obtain ⟨mm15, emm15, h⟩ := zoL_s h
  refine zr_norm (zW tA b sh mm15) _ (by rw [emm15]; exact zW_pI (v := x3_) hs13 (by decide) (zf_I_13_8 b _ _ _)) rfl ?_
  refine zr_pcn 26 rfl ?_
  refine zr_aload_n F zd_MPainter_paint_26 rfl ?_
  refine zr_iload F zd_MPainter_paint_27 rfl ?_
  obtain ⟨le17, hs16, h⟩ := zoS_s h
  refine zr_put F 13 9 zd_MPainter_paint_29 (zW_o hs16 (by decide)) rfl (by decide) zw_1586 rfl rfl rfl rfl (by exact (Nat.le_of_ble_eq_true rfl)) ?_
  obtain ⟨mm18, emm18, h⟩ := zoL_s h
  refine zr_norm (zW tA b sh mm18) _ (by rw [emm18]; exact zW_pI (v := x4_) hs16 (by decide) (zf_I_13_9 b _ _ _)) rfl ?_
  refine zr_aload_n F zd_MPainter_paint_32 rfl ?_
  obtain ⟨le20, hs19, h⟩ := zoS_s h
  obtain ⟨p21, ep21, h⟩ := zoB_s h
  refine zr_callV0 F (k_MPainter_goOver l D tA b sh _ ep21) zd_MPainter_paint_33 (zW_o hs19 (by decide)) rfl zs_MPainter_346 rfl zq_MPainter_goOver rfl rfl ⟨(Nat.le_of_ble_eq_true rfl), (Nat.le_of_ble_eq_true rfl)⟩ (Nat.le_of_ble_eq_true rfl) ⟨(Nat.le_of_ble_eq_true rfl), (Nat.le_of_ble_eq_true rfl)⟩ ?_
  obtain rfl := Option.some.inj h
  exact zr_vret F hr zd_MPainter_paint_36 (Nat.le_of_ble_eq_true rfl) (Nat.le_of_ble_eq_true rfl) ⟨rfl, rfl, rfl⟩
def F_MPainter_pick (sh : zSh) (mm : zMem) (o : Nat) (x0_ : Nat) (x1_ : Int32) (x2_ : Int32) : Option zMem := zoS (sh o) 13 (fun le2 => zoL (mR mm o 5 (some x0_)) (fun mm3 => zoS (sh o) 13 (fun le5 => zoL (mI mm3 o 10 0) (fun mm6 => zoS (sh o) 13 (fun le8 => zoL (mI mm6 o 6 x1_) (fun mm9 => zoS (sh o) 13 (fun le11 => zoL (mI mm9 o 7 x2_) (fun mm12 => zoL (x1_ + 1) (fun x13 => zoS (sh o) 13 (fun le15 => zoL (mI mm12 o 8 x13) (fun mm16 => zoL (x2_ + 1) (fun x17 => zoS (sh o) 13 (fun le19 => zoL (mI mm16 o 9 x17) (fun mm20 => zoS (sh o) 13 (fun le22 => zoL (mI mm20 o 11 (-1)) (fun mm23 => zoS (sh o) 13 (fun le25 => zoL (mI mm23 o 12 (-1)) (fun mm26 => zoS (sh o) 13 (fun le28 => zoL (mL mm26 o 13 0) (fun mm29 => zoS (sh o) 13 (fun le31 => Option.bind (F_MPainter_goOver sh mm29 o) (fun p32 => some p32))))))))))))))))))))))
set_option maxHeartbeats 4000000 in
set_option maxRecDepth 100000 in
theorem k_MPainter_pick (l : Launch) (D : va_G) (tA : Nat → ClassId) (b : Nat) (sh : zSh) (n : Nat) {mm : zMem} {o : Nat} {x0_ : Nat} {x1_ : Int32} {x2_ : Int32} {r : zMem} (h : F_MPainter_pick sh mm o x0_ x1_ x2_ = some r) : zM l D tA b zy_MPainter_pick zb_MPainter_pick 4 none 11 291 0 0 [.ref (b + o), .ref (b + x0_), .int x1_, .int x2_] (zW tA b sh mm) n (zE none (zW tA b sh r) n) := by
  unfold F_MPainter_pick at h
  refine zM_of (own := "OrreryBoxModel$Painter") (plainFor_of_name (by decide)) rfl (Nat.le_of_ble_eq_true rfl) (fun p e s m below meth c F hr hin hH => ?_)
  refine zr_aload_n F zd_MPainter_pick_0 rfl ?_
  refine zr_aload_n F zd_MPainter_pick_1 rfl ?_
  obtain ⟨le2, hs1, h⟩ := zoS_s h
  refine zr_put F 13 5 zd_MPainter_pick_2 (zW_o hs1 (by decide)) rfl (by decide) zw_1581 rfl rfl rfl rfl (by exact (Nat.le_of_ble_eq_true rfl)) ?_
  obtain ⟨mm3, emm3, h⟩ := zoL_s h
  refine zr_norm (zW tA b sh mm3) _ (by rw [emm3]; exact zW_pR (v := (some x0_)) hs1 (by decide) (zf_R_13_5 b _ _ _)) rfl ?_
  refine zr_aload_n F zd_MPainter_pick_5 rfl ?_
  refine zr_iconstv (v := 0) F zd_MPainter_pick_6 (by decide) ?_
  obtain ⟨le5, hs4, h⟩ := zoS_s h
  refine zr_put F 13 10 zd_MPainter_pick_7 (zW_o hs4 (by decide)) rfl (by decide) zw_1587 rfl rfl rfl rfl (by exact (Nat.le_of_ble_eq_true rfl)) ?_
  obtain ⟨mm6, emm6, h⟩ := zoL_s h
  refine zr_norm (zW tA b sh mm6) _ (by rw [emm6]; exact zW_pI (v := 0) hs4 (by decide) (zf_I_13_10 b _ _ _)) rfl ?_
  refine zr_aload_n F zd_MPainter_pick_10 rfl ?_
  refine zr_pcn 11 rfl ?_
  refine zr_iload_n F zd_MPainter_pick_11 rfl ?_
  obtain ⟨le8, hs7, h⟩ := zoS_s h
  refine zr_put F 13 6 zd_MPainter_pick_12 (zW_o hs7 (by decide)) rfl (by decide) zw_1583 rfl rfl rfl rfl (by exact (Nat.le_of_ble_eq_true rfl)) ?_
  obtain ⟨mm9, emm9, h⟩ := zoL_s h
  refine zr_norm (zW tA b sh mm9) _ (by rw [emm9]; exact zW_pI (v := x1_) hs7 (by decide) (zf_I_13_6 b _ _ _)) rfl ?_
  refine zr_aload_n F zd_MPainter_pick_15 rfl ?_
  refine zr_iload_n F zd_MPainter_pick_16 rfl ?_
  obtain ⟨le11, hs10, h⟩ := zoS_s h
  refine zr_put F 13 7 zd_MPainter_pick_17 (zW_o hs10 (by decide)) rfl (by decide) zw_1584 rfl rfl rfl rfl (by exact (Nat.le_of_ble_eq_true rfl)) ?_
  obtain ⟨mm12, emm12, h⟩ := zoL_s h
  refine zr_norm (zW tA b sh mm12) _ (by rw [emm12]; exact zW_pI (v := x2_) hs10 (by decide) (zf_I_13_7 b _ _ _)) rfl ?_
  refine zr_aload_n F zd_MPainter_pick_20 rfl ?_
  refine zr_iload_n F zd_MPainter_pick_21 rfl ?_
  refine zr_iconstv (v := 1) F zd_MPainter_pick_22 (by decide) ?_
  refine zr_pcn 23 rfl ?_
  refine zr_iadd F zd_MPainter_pick_23 ?_
  obtain ⟨x13, ex13, h⟩ := zoL_s h
  rw [← ex13]
  obtain ⟨le15, hs14, h⟩ := zoS_s h
  refine zr_put F 13 8 zd_MPainter_pick_24 (zW_o hs14 (by decide)) rfl (by decide) zw_1585 rfl rfl rfl rfl (by exact (Nat.le_of_ble_eq_true rfl)) ?_
  obtain ⟨mm16, emm16, h⟩ := zoL_s h
  refine zr_norm (zW tA b sh mm16) _ (by rw [emm16]; exact zW_pI (v := x13) hs14 (by decide) (zf_I_13_8 b _ _ _)) rfl ?_
  refine zr_aload_n F zd_MPainter_pick_27 rfl ?_
  refine zr_iload_n F zd_MPainter_pick_28 rfl ?_
  refine zr_iconstv (v := 1) F zd_MPainter_pick_29 (by decide) ?_
  refine zr_iadd F zd_MPainter_pick_30 ?_
  obtain ⟨x17, ex17, h⟩ := zoL_s h
  rw [← ex17]
  obtain ⟨le19, hs18, h⟩ := zoS_s h
  refine zr_put F 13 9 zd_MPainter_pick_31 (zW_o hs18 (by decide)) rfl (by decide) zw_1586 rfl rfl rfl rfl (by exact (Nat.le_of_ble_eq_true rfl)) ?_
  obtain ⟨mm20, emm20, h⟩ := zoL_s h
  refine zr_norm (zW tA b sh mm20) _ (by rw [emm20]; exact zW_pI (v := x17) hs18 (by decide) (zf_I_13_9 b _ _ _)) rfl ?_
  refine zr_aload_n F zd_MPainter_pick_34 rfl ?_
  refine zr_pcn 35 rfl ?_
  refine zr_iconstv (v := (-1)) F zd_MPainter_pick_35 (by decide) ?_
  obtain ⟨le22, hs21, h⟩ := zoS_s h
  refine zr_put F 13 11 zd_MPainter_pick_36 (zW_o hs21 (by decide)) rfl (by decide) zw_1589 rfl rfl rfl rfl (by exact (Nat.le_of_ble_eq_true rfl)) ?_
  obtain ⟨mm23, emm23, h⟩ := zoL_s h
  refine zr_norm (zW tA b sh mm23) _ (by rw [emm23]; exact zW_pI (v := (-1)) hs21 (by decide) (zf_I_13_11 b _ _ _)) rfl ?_
  refine zr_aload_n F zd_MPainter_pick_39 rfl ?_
  refine zr_iconstv (v := (-1)) F zd_MPainter_pick_40 (by decide) ?_
  obtain ⟨le25, hs24, h⟩ := zoS_s h
  refine zr_put F 13 12 zd_MPainter_pick_41 (zW_o hs24 (by decide)) rfl (by decide) zw_1591 rfl rfl rfl rfl (by exact (Nat.le_of_ble_eq_true rfl)) ?_
  obtain ⟨mm26, emm26, h⟩ := zoL_s h
  refine zr_norm (zW tA b sh mm26) _ (by rw [emm26]; exact zW_pI (v := (-1)) hs24 (by decide) (zf_I_13_12 b _ _ _)) rfl ?_
  refine zr_aload_n F zd_MPainter_pick_44 rfl ?_
  refine zr_lconstv (v := 0) F zd_MPainter_pick_45 (by decide) ?_
  obtain ⟨le28, hs27, h⟩ := zoS_s h
  refine zr_put F 13 13 zd_MPainter_pick_46 (zW_o hs27 (by decide)) rfl (by decide) zw_1592 rfl rfl rfl rfl (by exact (Nat.le_of_ble_eq_true rfl)) ?_
  obtain ⟨mm29, emm29, h⟩ := zoL_s h
  refine zr_norm (zW tA b sh mm29) _ (by rw [emm29]; exact zW_pL (v := 0) hs27 (by decide) (zf_L_13_13 b _ _ _)) rfl ?_
  refine zr_pcn 49 rfl ?_
  refine zr_aload_n F zd_MPainter_pick_49 rfl ?_
  obtain ⟨le31, hs30, h⟩ := zoS_s h
  obtain ⟨p32, ep32, h⟩ := zoB_s h
  refine zr_callV0 F (k_MPainter_goOver l D tA b sh _ ep32) zd_MPainter_pick_50 (zW_o hs30 (by decide)) rfl zs_MPainter_346 rfl zq_MPainter_goOver rfl rfl ⟨(Nat.le_of_ble_eq_true rfl), (Nat.le_of_ble_eq_true rfl)⟩ (Nat.le_of_ble_eq_true rfl) ⟨(Nat.le_of_ble_eq_true rfl), (Nat.le_of_ble_eq_true rfl)⟩ ?_
  obtain rfl := Option.some.inj h
  exact zr_vret F hr zd_MPainter_pick_53 (Nat.le_of_ble_eq_true rfl) (Nat.le_of_ble_eq_true rfl) ⟨rfl, rfl, rfl⟩
theorem zf_R_0_5 (b : Nat) (m : zMem) (k : Nat) (v : Option Nat) : (zfl b 0 m k).set 5 (zrf b v) = zfl b 0 (mR m k 5 v) k := by simp [zfl, mR, upd, vp_updL]
def F_OB_load (sh : zSh) (mm : zMem) (o : Nat) : Option (Int32 × zMem) := zoS (sh o) 0 (fun le2 => zoL (mm.1 o 3) (fun x3 => zoS (sh o) 0 (fun le5 => zoL (mI mm o 3 0) (fun mm6 => zoS (sh o) 0 (fun le8 => Option.bind (F_OB_freeScene sh mm6 o) (fun p9 => zoS (sh o) 0 (fun le11 => Option.bind ((p9.2).2.2 o 6) (fun a12 => zoS (sh o) 0 (fun le14 => Option.bind ((p9.2).2.2 o 2) (fun a15 => zoS (sh a12) 7 (fun le17 => Option.bind (F_XReader_read sh (p9.2) a12 a15 x3 (p9.1)) (fun p18 => zoS (sh o) 0 (fun le20 => zoL (mR p18 o 5 (some (p9.1))) (fun mm21 => zoS (sh o) 0 (fun le23 => Option.bind (mm21.2.2 o 5) (fun a24 => zoS (sh a24) 8 (fun le26 => Option.bind (mm21.2.2 a24 0) (fun a27 => zoS (sh a27) 100 (fun le29 => if (3 : Int32) < 0 ∨ le29 ≤ (3 : Int32).toNatClampNeg then none else some ((mm21.1 a27 (3 : Int32).toNatClampNeg), mm21))))))))))))))))))))
set_option maxHeartbeats 4000000 in
set_option maxRecDepth 100000 in
theorem k_OB_load (l : Launch) (D : va_G) (tA : Nat → ClassId) (b : Nat) (sh : zSh) (n : Nat) {mm : zMem} {o : Nat} {r : (Int32 × zMem)} (h : F_OB_load sh mm o = some r) : zM l D tA b zy_OB_load zb_OB_load 3 (some .int) 10 230 0 0 [.ref (b + o)] (zW tA b sh mm) n (zE (some (.int (r.1))) (zW tA b sh r.2) n) := by
  unfold F_OB_load at h
  refine zM_of (own := "OrreryBox") (plainFor_of_name (by decide)) rfl (Nat.le_of_ble_eq_true rfl) (fun p e s m below meth c F hr hin hH => ?_)
  refine zr_aload_n F zd_OB_load_0 rfl ?_
  obtain ⟨le2, hs1, h⟩ := zoS_s h
  refine zr_get F 0 3 zd_OB_load_1 (zW_o hs1 (by decide)) rfl (by decide) zw_491 rfl (by rfl) ?_
  obtain ⟨x3, ex3, h⟩ := zoL_s h
  rw [← ex3]
  refine zr_istore_n F zd_OB_load_4 (by decide) ?_
  refine zr_aload_n F zd_OB_load_5 rfl ?_
  refine zr_iconstv (v := 0) F zd_OB_load_6 (by decide) ?_
  obtain ⟨le5, hs4, h⟩ := zoS_s h
  refine zr_put F 0 3 zd_OB_load_7 (zW_o hs4 (by decide)) rfl (by decide) zw_491 rfl rfl rfl rfl (by exact (Nat.le_of_ble_eq_true rfl)) ?_
  obtain ⟨mm6, emm6, h⟩ := zoL_s h
  refine zr_norm (zW tA b sh mm6) _ (by rw [emm6]; exact zW_pI (v := 0) hs4 (by decide) (zf_I_0_3 b _ _ _)) rfl ?_
  refine zr_aload_n F zd_OB_load_10 rfl ?_
  refine zr_pcn 11 rfl ?_
  obtain ⟨le8, hs7, h⟩ := zoS_s h
  obtain ⟨p9, ep9, h⟩ := zoB_s h
  refine zr_callV1 F (k_OB_freeScene l D tA b sh _ ep9) zd_OB_load_11 (zW_o hs7 (by decide)) rfl zs_OB_76 rfl zq_OB_freeScene rfl rfl ⟨(Nat.le_of_ble_eq_true rfl), (Nat.le_of_ble_eq_true rfl)⟩ (Nat.le_of_ble_eq_true rfl) ⟨(Nat.le_of_ble_eq_true rfl), (Nat.le_of_ble_eq_true rfl)⟩ ?_
  refine zr_astore_n F zd_OB_load_14 (by decide) ?_
  refine zr_aload_n F zd_OB_load_15 rfl ?_
  obtain ⟨le11, hs10, h⟩ := zoS_s h
  obtain ⟨a12, ea12, h⟩ := zoB_s h
  refine zr_get F 0 6 zd_OB_load_16 (zW_o hs10 (by decide)) rfl (by decide) zw_494 rfl (by rfl) ?_
  refine zr_tor ea12 ?_
  refine zr_aload_n F zd_OB_load_19 rfl ?_
  obtain ⟨le14, hs13, h⟩ := zoS_s h
  obtain ⟨a15, ea15, h⟩ := zoB_s h
  refine zr_get F 0 2 zd_OB_load_20 (zW_o hs13 (by decide)) rfl (by decide) zw_490 rfl (by rfl) ?_
  refine zr_tor ea15 ?_
  refine zr_iload_n F zd_OB_load_23 rfl ?_
  refine zr_aload_n F zd_OB_load_24 rfl ?_
  refine zr_pcn 25 rfl ?_
  obtain ⟨le17, hs16, h⟩ := zoS_s h
  obtain ⟨p18, ep18, h⟩ := zoB_s h
  refine zr_callV0 F (k_XReader_read l D tA b sh _ ep18) zd_OB_load_25 (zW_o hs16 (by decide)) rfl zs_OB_80 rfl zq_XReader_read rfl rfl ⟨(Nat.le_of_ble_eq_true rfl), (Nat.le_of_ble_eq_true rfl)⟩ (Nat.le_of_ble_eq_true rfl) ⟨(Nat.le_of_ble_eq_true rfl), (Nat.le_of_ble_eq_true rfl)⟩ ?_
  refine zr_aload_n F zd_OB_load_28 rfl ?_
  refine zr_aload_n F zd_OB_load_29 rfl ?_
  obtain ⟨le20, hs19, h⟩ := zoS_s h
  refine zr_put F 0 5 zd_OB_load_30 (zW_o hs19 (by decide)) rfl (by decide) zw_493 rfl rfl rfl rfl (by exact (Nat.le_of_ble_eq_true rfl)) ?_
  obtain ⟨mm21, emm21, h⟩ := zoL_s h
  refine zr_norm (zW tA b sh mm21) _ (by rw [emm21]; exact zW_pR (v := (some (p9.1))) hs19 (by decide) (zf_R_0_5 b _ _ _)) rfl ?_
  refine zr_aload_n F zd_OB_load_33 rfl ?_
  obtain ⟨le23, hs22, h⟩ := zoS_s h
  obtain ⟨a24, ea24, h⟩ := zoB_s h
  refine zr_get F 0 5 zd_OB_load_34 (zW_o hs22 (by decide)) rfl (by decide) zw_493 rfl (by rfl) ?_
  refine zr_tor ea24 ?_
  obtain ⟨le26, hs25, h⟩ := zoS_s h
  obtain ⟨a27, ea27, h⟩ := zoB_s h
  refine zr_get F 8 0 zd_OB_load_37 (zW_o hs25 (by decide)) rfl (by decide) zw_283 rfl (by rfl) ?_
  refine zr_tor ea27 ?_
  refine zr_iconstv (v := 3) F zd_OB_load_40 (by decide) ?_
  refine zr_pcn 41 rfl ?_
  obtain ⟨le29, hs28, h⟩ := zoS_s h
  obtain ⟨hi30, h⟩ := zoI_s h
  refine zr_iald F zd_OB_load_41 (zW_a0 hs28) hi30 ?_
  obtain rfl := Option.some.inj h
  exact zr_iret F hr zd_OB_load_42 (Nat.le_of_ble_eq_true rfl) (Nat.le_of_ble_eq_true rfl) ⟨rfl, rfl, rfl⟩
def T_OB_load (sh : zSh) (mm : zMem) (o : Nat) : Option zMem := zoS (sh o) 0 (fun le2 => zoL (mm.1 o 3) (fun x3 => zoS (sh o) 0 (fun le5 => zoL (mI mm o 3 0) (fun mm6 => zoS (sh o) 0 (fun le8 => Option.bind (F_OB_freeScene sh mm6 o) (fun p9 => zoS (sh o) 0 (fun le11 => Option.bind ((p9.2).2.2 o 6) (fun a12 => zoS (sh o) 0 (fun le14 => Option.bind ((p9.2).2.2 o 2) (fun a15 => zoS (sh a12) 7 (fun le17 => zoX (F_XReader_read sh (p9.2) a12 a15 x3 (p9.1)) (T_XReader_read sh (p9.2) a12 a15 x3 (p9.1)) (fun p18 => zoS (sh o) 0 (fun le20 => zoL (mR p18 o 5 (some (p9.1))) (fun mm21 => zoS (sh o) 0 (fun le23 => Option.bind (mm21.2.2 o 5) (fun a24 => zoS (sh a24) 8 (fun le26 => Option.bind (mm21.2.2 a24 0) (fun a27 => zoS (sh a27) 100 (fun le29 => if (3 : Int32) < 0 ∨ le29 ≤ (3 : Int32).toNatClampNeg then none else none)))))))))))))))))))
set_option maxHeartbeats 4000000 in
set_option maxRecDepth 100000 in
theorem kT_OB_load (l : Launch) (D : va_G) (tA : Nat → ClassId) (b : Nat) (sh : zSh) (n : Nat) (hl : l.stackTraces = false) {mm : zMem} {o : Nat} {r : zMem} (h : T_OB_load sh mm o = some r) : zMT l D tA b zy_OB_load zb_OB_load 3 (some .int) 12 238 1 6 [.ref (b + o)] (zW tA b sh mm) n "java/lang/IllegalArgumentException" (zW tA b sh r) (n + 1) := by
  unfold T_OB_load at h
  refine zMT_of (own := "OrreryBox") (plainFor_of_name (by decide)) rfl (Nat.le_of_ble_eq_true rfl) (fun p e s m below meth c F hno hH => ?_)
  refine zr_aload_n F zd_OB_load_0 rfl ?_
  obtain ⟨le2, hs1, h⟩ := zoS_s h
  refine zr_get F 0 3 zd_OB_load_1 (zW_o hs1 (by decide)) rfl (by decide) zw_491 rfl (by rfl) ?_
  obtain ⟨x3, ex3, h⟩ := zoL_s h
  rw [← ex3]
  refine zr_istore_n F zd_OB_load_4 (by decide) ?_
  refine zr_aload_n F zd_OB_load_5 rfl ?_
  refine zr_iconstv (v := 0) F zd_OB_load_6 (by decide) ?_
  obtain ⟨le5, hs4, h⟩ := zoS_s h
  refine zr_put F 0 3 zd_OB_load_7 (zW_o hs4 (by decide)) rfl (by decide) zw_491 rfl rfl rfl rfl (by exact (Nat.le_of_ble_eq_true rfl)) ?_
  obtain ⟨mm6, emm6, h⟩ := zoL_s h
  refine zr_norm (zW tA b sh mm6) _ (by rw [emm6]; exact zW_pI (v := 0) hs4 (by decide) (zf_I_0_3 b _ _ _)) rfl ?_
  refine zr_aload_n F zd_OB_load_10 rfl ?_
  refine zr_pcn 11 rfl ?_
  obtain ⟨le8, hs7, h⟩ := zoS_s h
  obtain ⟨p9, ep9, h⟩ := zoB_s h
  refine zr_callV1 F (k_OB_freeScene l D tA b sh _ ep9) zd_OB_load_11 (zW_o hs7 (by decide)) rfl zs_OB_76 rfl zq_OB_freeScene rfl rfl ⟨(Nat.le_of_ble_eq_true rfl), (Nat.le_of_ble_eq_true rfl)⟩ (Nat.le_of_ble_eq_true rfl) ⟨(Nat.le_of_ble_eq_true rfl), (Nat.le_of_ble_eq_true rfl)⟩ ?_
  refine zr_astore_n F zd_OB_load_14 (by decide) ?_
  refine zr_aload_n F zd_OB_load_15 rfl ?_
  obtain ⟨le11, hs10, h⟩ := zoS_s h
  obtain ⟨a12, ea12, h⟩ := zoB_s h
  refine zr_get F 0 6 zd_OB_load_16 (zW_o hs10 (by decide)) rfl (by decide) zw_494 rfl (by rfl) ?_
  refine zr_tor ea12 ?_
  refine zr_aload_n F zd_OB_load_19 rfl ?_
  obtain ⟨le14, hs13, h⟩ := zoS_s h
  obtain ⟨a15, ea15, h⟩ := zoB_s h
  refine zr_get F 0 2 zd_OB_load_20 (zW_o hs13 (by decide)) rfl (by decide) zw_490 rfl (by rfl) ?_
  refine zr_tor ea15 ?_
  refine zr_iload_n F zd_OB_load_23 rfl ?_
  refine zr_aload_n F zd_OB_load_24 rfl ?_
  refine zr_pcn 25 rfl ?_
  obtain ⟨le17, hs16, h⟩ := zoS_s h
  cases ep18 : F_XReader_read sh (p9.2) a12 a15 x3 (p9.1) with
  | none =>
    rw [ep18] at h
    dsimp only [zoX] at h
    exact zr_thrV F hno (kT_XReader_read l D tA b sh _ hl h) zd_OB_load_25 (zW_o hs16 (by decide)) rfl zs_OB_80 rfl zq_XReader_read rfl rfl ⟨(Nat.le_of_ble_eq_true rfl), (Nat.le_of_ble_eq_true rfl)⟩ (Nat.le_of_ble_eq_true rfl) ⟨(Nat.le_of_ble_eq_true rfl), (Nat.le_of_ble_eq_true rfl)⟩ ⟨(Nat.le_of_ble_eq_true rfl), (Nat.le_of_ble_eq_true rfl)⟩
  | some p18 =>
    rw [ep18] at h
    dsimp only [zoX] at h
    refine zr_callV0 F (k_XReader_read l D tA b sh _ ep18) zd_OB_load_25 (zW_o hs16 (by decide)) rfl zs_OB_80 rfl zq_XReader_read rfl rfl ⟨(Nat.le_of_ble_eq_true rfl), (Nat.le_of_ble_eq_true rfl)⟩ (Nat.le_of_ble_eq_true rfl) ⟨(Nat.le_of_ble_eq_true rfl), (Nat.le_of_ble_eq_true rfl)⟩ ?_
    refine zr_aload_n F zd_OB_load_28 rfl ?_
    refine zr_aload_n F zd_OB_load_29 rfl ?_
    obtain ⟨le20, hs19, h⟩ := zoS_s h
    refine zr_put F 0 5 zd_OB_load_30 (zW_o hs19 (by decide)) rfl (by decide) zw_493 rfl rfl rfl rfl (by exact (Nat.le_of_ble_eq_true rfl)) ?_
    obtain ⟨mm21, emm21, h⟩ := zoL_s h
    refine zr_norm (zW tA b sh mm21) _ (by rw [emm21]; exact zW_pR (v := (some (p9.1))) hs19 (by decide) (zf_R_0_5 b _ _ _)) rfl ?_
    refine zr_aload_n F zd_OB_load_33 rfl ?_
    obtain ⟨le23, hs22, h⟩ := zoS_s h
    obtain ⟨a24, ea24, h⟩ := zoB_s h
    refine zr_get F 0 5 zd_OB_load_34 (zW_o hs22 (by decide)) rfl (by decide) zw_493 rfl (by rfl) ?_
    refine zr_tor ea24 ?_
    obtain ⟨le26, hs25, h⟩ := zoS_s h
    obtain ⟨a27, ea27, h⟩ := zoB_s h
    refine zr_get F 8 0 zd_OB_load_37 (zW_o hs25 (by decide)) rfl (by decide) zw_283 rfl (by rfl) ?_
    refine zr_tor ea27 ?_
    refine zr_iconstv (v := 3) F zd_OB_load_40 (by decide) ?_
    refine zr_pcn 41 rfl ?_
    obtain ⟨le29, hs28, h⟩ := zoS_s h
    obtain ⟨hi30, h⟩ := zoI_s h
    refine zr_iald F zd_OB_load_41 (zW_a0 hs28) hi30 ?_
    cases h
theorem zw_776 : (Jvm.Cond.methodLink "OrreryBox" (185 : Nat) ({ cls := "OrreryBox$Picture", name := "drawTile", desc := "(I)V" } : Jvm.MethodName)) ∈ gw := gw_t 776 (by decide +kernel) rfl
theorem zw_777 : (Jvm.Cond.instanceMethod ({ cls := "OrreryBox$Picture", name := "drawTile", desc := "(I)V" } : Jvm.MethodName)) ∈ gw := gw_t 777 (by decide +kernel) rfl
theorem zw_778 : (Jvm.Cond.selects "OrreryBox$Picture" ({ cls := "OrreryBox$Picture", name := "drawTile", desc := "(I)V" } : Jvm.MethodName) ({ cls := "OrreryBox$Picture", name := "drawTile", desc := "(I)V" } : Jvm.MethodName)) ∈ gw := gw_t 778 (by decide +kernel) rfl
theorem zs_OB_185 : zwV "OrreryBox" 185 "OrreryBox$Picture" zy_XPicture_drawTile zb_XPicture_drawTile 3 none := ⟨zw_776, zw_777, zw_778, zw_12, zc_XPicture_drawTile⟩
def F_OB_tile (sh : zSh) (mm : zMem) (o : Nat) (x0_ : Int32) : Option (Int32 × zMem) := zoS (sh o) 0 (fun le2 => Option.bind (mm.2.2 o 8) (fun a3 => zoS (sh a3) 5 (fun le5 => Option.bind (F_XPicture_lacks sh mm a3 x0_) (fun p6 => (if p6.1 = 0 then some (0, p6.2) else zoS (sh o) 0 (fun le9 => Option.bind ((p6.2).2.2 o 8) (fun a10 => zoS (sh a10) 5 (fun le12 => Option.bind (F_XPicture_drawTile sh (p6.2) a10 x0_) (fun p13 => some (1, p13))))))))))
set_option maxHeartbeats 4000000 in
set_option maxRecDepth 100000 in
theorem k_OB_tile (l : Launch) (D : va_G) (tA : Nat → ClassId) (b : Nat) (sh : zSh) (n : Nat) {mm : zMem} {o : Nat} {x0_ : Int32} {r : (Int32 × zMem)} (h : F_OB_tile sh mm o x0_ = some r) : zM l D tA b zy_OB_tile zb_OB_tile 2 (some .boolean) 6 169 0 0 [.ref (b + o), .int x0_] (zW tA b sh mm) n (zE (some (.int (r.1))) (zW tA b sh r.2) n) := by
  unfold F_OB_tile at h
  refine zM_of (own := "OrreryBox") (plainFor_of_name (by decide)) rfl (Nat.le_of_ble_eq_true rfl) (fun p e s m below meth c F hr hin hH => ?_)
  refine zr_aload_n F zd_OB_tile_0 rfl ?_
  obtain ⟨le2, hs1, h⟩ := zoS_s h
  obtain ⟨a3, ea3, h⟩ := zoB_s h
  refine zr_get F 0 8 zd_OB_tile_1 (zW_o hs1 (by decide)) rfl (by decide) zw_496 rfl (by rfl) ?_
  refine zr_tor ea3 ?_
  refine zr_iload_n F zd_OB_tile_4 rfl ?_
  obtain ⟨le5, hs4, h⟩ := zoS_s h
  obtain ⟨p6, ep6, h⟩ := zoB_s h
  refine zr_callV1 F (k_XPicture_lacks l D tA b sh _ ep6) zd_OB_tile_5 (zW_o hs4 (by decide)) rfl zs_OB_182 rfl zq_XPicture_lacks rfl rfl ⟨(Nat.le_of_ble_eq_true rfl), (Nat.le_of_ble_eq_true rfl)⟩ (Nat.le_of_ble_eq_true rfl) ⟨(Nat.le_of_ble_eq_true rfl), (Nat.le_of_ble_eq_true rfl)⟩ ?_
  refine zr_if_ne F 13 zd_OB_tile_8 (by decide) (fun hb7 => ?_) (fun hb7 => ?_)
  ·
    replace h := (if_neg hb7).symm.trans h
    refine zr_aload_n F zd_OB_tile_13 rfl ?_
    obtain ⟨le9, hs8, h⟩ := zoS_s h
    obtain ⟨a10, ea10, h⟩ := zoB_s h
    refine zr_get F 0 8 zd_OB_tile_14 (zW_o hs8 (by decide)) rfl (by decide) zw_496 rfl (by rfl) ?_
    refine zr_tor ea10 ?_
    refine zr_pcn 17 rfl ?_
    refine zr_iload_n F zd_OB_tile_17 rfl ?_
    obtain ⟨le12, hs11, h⟩ := zoS_s h
    obtain ⟨p13, ep13, h⟩ := zoB_s h
    refine zr_callV0 F (k_XPicture_drawTile l D tA b sh _ ep13) zd_OB_tile_18 (zW_o hs11 (by decide)) rfl zs_OB_185 rfl zq_XPicture_drawTile rfl rfl ⟨(Nat.le_of_ble_eq_true rfl), (Nat.le_of_ble_eq_true rfl)⟩ (Nat.le_of_ble_eq_true rfl) ⟨(Nat.le_of_ble_eq_true rfl), (Nat.le_of_ble_eq_true rfl)⟩ ?_
    refine zr_iconstv (v := 1) F zd_OB_tile_21 (by decide) ?_
    obtain rfl := Option.some.inj h
    exact zr_zret F hr rfl zd_OB_tile_22 (Nat.le_of_ble_eq_true rfl) (Nat.le_of_ble_eq_true rfl) ⟨rfl, rfl, rfl⟩
  ·
    replace h := (if_pos hb7).symm.trans h
    refine zr_iconstv (v := 0) F zd_OB_tile_11 (by decide) ?_
    obtain rfl := Option.some.inj h
    exact zr_zret F hr rfl zd_OB_tile_12 (Nat.le_of_ble_eq_true rfl) (Nat.le_of_ble_eq_true rfl) ⟨rfl, rfl, rfl⟩
