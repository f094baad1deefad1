theorem zw_291 : (Jvm.Cond.fieldLink "OrreryBox$Sight" (143 : Nat) "OrreryBox$Scene" "materials" "[[I") ∈ gw := gw_t 291 (by decide +kernel) rfl
theorem zw_746 : (Jvm.Cond.methodLink "OrreryBox$Sight" (146 : Nat) ({ cls := "OrreryBox$Sight", name := "materialNumber", desc := "()I" } : Jvm.MethodName)) ∈ gw := gw_t 746 (by decide +kernel) rfl
theorem zw_747 : (Jvm.Cond.instanceMethod ({ cls := "OrreryBox$Sight", name := "materialNumber", desc := "()I" } : Jvm.MethodName)) ∈ gw := gw_t 747 (by decide +kernel) rfl
theorem zw_748 : (Jvm.Cond.selects "OrreryBox$Sight" ({ cls := "OrreryBox$Sight", name := "materialNumber", desc := "()I" } : Jvm.MethodName) ({ cls := "OrreryBox$Sight", name := "materialNumber", desc := "()I" } : Jvm.MethodName)) ∈ gw := gw_t 748 (by decide +kernel) rfl
theorem zs_XSight_146 : zwV "OrreryBox$Sight" 146 "OrreryBox$Sight" zy_XSight_materialNumber zb_XSight_materialNumber 1 (some .int) := ⟨zw_746, zw_747, zw_748, zw_10, zc_XSight_materialNumber⟩
theorem zw_750 : (Jvm.Cond.methodLink "OrreryBox$Sight" (150 : Nat) ({ cls := "OrreryBox$Piece", name := "take", desc := "([IIZ)Z" } : Jvm.MethodName)) ∈ gw := gw_t 750 (by decide +kernel) rfl
theorem zw_751 : (Jvm.Cond.instanceMethod ({ cls := "OrreryBox$Piece", name := "take", desc := "([IIZ)Z" } : Jvm.MethodName)) ∈ gw := gw_t 751 (by decide +kernel) rfl
theorem zw_752 : (Jvm.Cond.selects "OrreryBox$Piece" ({ cls := "OrreryBox$Piece", name := "take", desc := "([IIZ)Z" } : Jvm.MethodName) ({ cls := "OrreryBox$Piece", name := "take", desc := "([IIZ)Z" } : Jvm.MethodName)) ∈ gw := gw_t 752 (by decide +kernel) rfl
theorem zs_XSight_150 : zwV "OrreryBox$Sight" 150 "OrreryBox$Piece" zy_XPiece_take zb_XPiece_take 4 (some .boolean) := ⟨zw_750, zw_751, zw_752, zw_11, zc_XPiece_take⟩
def L_XSight_nextPiece_2 (sh : zSh) (fuel : Nat) (v0 : Nat) (v1 : Int32) (mm : zMem) : Option (Nat × Int32 × Nat × Int32 × zMem) := match fuel with
  | 0 => none
  | fu + 1 => (if 147456 ≤ v1 then some (1, (0 : Int32), v0, v1, mm) else zoS (sh v0) 9 (fun le3 => zoL ((mm.1 v0 4) + 1) (fun x4 => zoS (sh v0) 9 (fun le6 => zoL (mI mm v0 4 x4) (fun mm7 => zoS (sh v0) 9 (fun le9 => zoS (sh v0) 9 (fun le11 => (if ((mm7.1 v0 4) + 1) < (mm7.1 v0 3) then zoS (sh v0) 9 (fun le14 => Option.bind (mm7.2.2 v0 0) (fun a15 => zoS (sh v0) 9 (fun le17 => Option.bind (mm7.2.2 v0 2) (fun a18 => zoS (sh v0) 9 (fun le20 => zoS (sh v0) 9 (fun le22 => Option.bind (mm7.2.2 v0 7) (fun a23 => zoS (sh a23) 8 (fun le25 => Option.bind (mm7.2.2 a23 2) (fun a26 => zoS (sh v0) 9 (fun le28 => Option.bind (F_XSight_materialNumber sh mm7 v0) (fun p29 => zoR (sh a26) (fun t33 le31 => if (p29.1 : Int32) < 0 ∨ le31 ≤ (p29.1 : Int32).toNatClampNeg then none else Option.bind ((p29.2).2.2 a26 (p29.1 : Int32).toNatClampNeg) (fun a34 => zoS (sh a34) 100 (fun le36 => if (5 : Int32) < 0 ∨ le36 ≤ (5 : Int32).toNatClampNeg then none else (if ((p29.2).1 a34 (5 : Int32).toNatClampNeg) = 1 then zoS (sh a15) 6 (fun le44 => Option.bind (F_XPiece_take sh (p29.2) a15 a18 (mm7.1 v0 4) 1) (fun p45 => (if p45.1 = 0 then L_XSight_nextPiece_2 sh fu v0 (v1 + 1) (p45.2) else some (0, 1, (0 : Nat), (0 : Int32), p45.2)))) else zoS (sh a15) 6 (fun le40 => Option.bind (F_XPiece_take sh (p29.2) a15 a18 (mm7.1 v0 4) 0) (fun p41 => (if p41.1 = 0 then L_XSight_nextPiece_2 sh fu v0 (v1 + 1) (p41.2) else some (0, 1, (0 : Nat), (0 : Int32), p41.2))))))))))))))))))) else zoS (sh v0) 9 (fun le48 => Option.bind (F_XSight_nextFace sh mm7 v0) (fun p49 => (if p49.1 = 0 then some (0, 0, (0 : Nat), (0 : Int32), p49.2) else zoS (sh v0) 9 (fun le52 => zoL (mI (p49.2) v0 4 1) (fun mm53 => zoS (sh v0) 9 (fun le55 => Option.bind (mm53.2.2 v0 0) (fun a56 => zoS (sh v0) 9 (fun le58 => Option.bind (mm53.2.2 v0 2) (fun a59 => zoS (sh v0) 9 (fun le61 => zoS (sh v0) 9 (fun le63 => Option.bind (mm53.2.2 v0 7) (fun a64 => zoS (sh a64) 8 (fun le66 => Option.bind (mm53.2.2 a64 2) (fun a67 => zoS (sh v0) 9 (fun le69 => Option.bind (F_XSight_materialNumber sh mm53 v0) (fun p70 => zoR (sh a67) (fun t74 le72 => if (p70.1 : Int32) < 0 ∨ le72 ≤ (p70.1 : Int32).toNatClampNeg then none else Option.bind ((p70.2).2.2 a67 (p70.1 : Int32).toNatClampNeg) (fun a75 => zoS (sh a75) 100 (fun le77 => if (5 : Int32) < 0 ∨ le77 ≤ (5 : Int32).toNatClampNeg then none else (if ((p70.2).1 a75 (5 : Int32).toNatClampNeg) = 1 then zoS (sh a56) 6 (fun le85 => Option.bind (F_XPiece_take sh (p70.2) a56 a59 (mm53.1 v0 4) 1) (fun p86 => (if p86.1 = 0 then L_XSight_nextPiece_2 sh fu v0 (v1 + 1) (p86.2) else some (0, 1, (0 : Nat), (0 : Int32), p86.2)))) else zoS (sh a56) 6 (fun le81 => Option.bind (F_XPiece_take sh (p70.2) a56 a59 (mm53.1 v0 4) 0) (fun p82 => (if p82.1 = 0 then L_XSight_nextPiece_2 sh fu v0 (v1 + 1) (p82.2) else some (0, 1, (0 : Nat), (0 : Int32), p82.2))))))))))))))))))))))))))))))))
set_option maxHeartbeats 4000000 in
set_option maxRecDepth 100000 in
theorem lp_XSight_nextPiece_2 {p : Program} {l : Launch} {e : Env} {s : State} {m : MethodId} {args : Array Value} {below : List Frame} {meth : Method} {c : Code} {D : va_G} {tA : Nat → ClassId} {b n : Nat} {post : Option Value → zV → Nat → Prop} {sh : zSh} (F : zF p s m args meth c zb_XSight_nextPiece 2 "OrreryBox$Sight" D tA b) (hr : meth.sig.returnType = (some .boolean)) : ∀ (fuel : Nat) (v0 : Nat) (v1 : Int32) (mm : zMem) (r : Nat × Int32 × Nat × Int32 × zMem), L_XSight_nextPiece_2 sh fuel v0 v1 mm = some r → (r.1 = 1 → Z p l e { frames := 5, cells := 0, slots := 0, locals := 134 } s m args below meth c D b 2 (MQ below (zQ D b post) args s 0 0 (fun q => b ≤ q)) (zW tA b sh r.2.2.2.2) n 0 0 94 [(0, .ref (b + (r.2.2.1))), (1, .int (r.2.2.2.1))] []) → (r.1 = 0 → post (some (.int r.2.1)) (zW tA b sh r.2.2.2.2) n) → Z p l e { frames := 5, cells := 0, slots := 0, locals := 134 } s m args below meth c D b 2 (MQ below (zQ D b post) args s 0 0 (fun q => b ≤ q)) (zW tA b sh mm) n 0 0 2 [(0, .ref (b + v0)), (1, .int v1)] [] := by
  intro fuel
  induction fuel with
  | zero =>
    intro v0 v1 mm r h
    cases h
  | succ fu ih =>
    intro v0 v1 mm r h hx0 hp
    rw [L_XSight_nextPiece_2] at h
    refine zr_iload_n F zd_XSight_nextPiece_2 rfl ?_
    refine zr_ldc F zd_XSight_nextPiece_3 zw_701 ?_
    refine zr_icmp_ge F 94 zd_XSight_nextPiece_5 (by decide) (fun hb1 => ?_) (fun hb1 => ?_)
    ·
      replace h := (if_pos hb1).symm.trans h
      obtain rfl := Option.some.inj h
      refine zr_loc (L' := [(0, .ref (b + v0)), (1, .int v1)]) ⟨rfl, rfl, trivial⟩ ?_
      exact hx0 rfl
    ·
      replace h := (if_neg hb1).symm.trans h
      refine zr_aload_n F zd_XSight_nextPiece_8 rfl ?_
      refine zr_dup F zd_XSight_nextPiece_9 rfl ?_
      refine zr_pcn 10 rfl ?_
      obtain ⟨le3, hs2, h⟩ := zoS_s h
      refine zr_get F 9 4 zd_XSight_nextPiece_10 (zW_o hs2 (by decide)) rfl (by decide) zw_377 rfl (by rfl) ?_
      refine zr_iconstv (v := 1) F zd_XSight_nextPiece_13 (by decide) ?_
      refine zr_iadd F zd_XSight_nextPiece_14 ?_
      obtain ⟨x4, ex4, h⟩ := zoL_s h
      rw [← ex4]
      obtain ⟨le6, hs5, h⟩ := zoS_s h
      refine zr_put F 9 4 zd_XSight_nextPiece_15 (zW_o hs5 (by decide)) rfl (by decide) zw_377 rfl rfl rfl rfl (by exact (Nat.le_of_ble_eq_true rfl)) ?_
      obtain ⟨mm7, emm7, h⟩ := zoL_s h
      refine zr_norm (zW tA b sh mm7) _ (by rw [emm7]; exact zW_pI (v := x4) hs5 (by decide) (zf_I_9_4 b _ _ _)) rfl ?_
      refine zr_aload_n F zd_XSight_nextPiece_18 rfl ?_
      obtain ⟨le9, hs8, h⟩ := zoS_s h
      refine zr_get F 9 4 zd_XSight_nextPiece_19 (zW_o hs8 (by decide)) rfl (by decide) zw_377 rfl (by rfl) ?_
      refine zr_iconstv (v := 1) F zd_XSight_nextPiece_22 (by decide) ?_
      refine zr_iadd F zd_XSight_nextPiece_23 ?_
      refine zr_pcn 24 rfl ?_
      refine zr_aload_n F zd_XSight_nextPiece_24 rfl ?_
      obtain ⟨le11, hs10, h⟩ := zoS_s h
      refine zr_get F 9 3 zd_XSight_nextPiece_25 (zW_o hs10 (by decide)) rfl (by decide) zw_376 rfl (by rfl) ?_
      refine zr_icmp_lt F 45 zd_XSight_nextPiece_28 (by decide) (fun hb12 => ?_) (fun hb12 => ?_)
      ·
        replace h := (if_pos hb12).symm.trans h
        refine zr_aload_n F zd_XSight_nextPiece_45 rfl ?_
        obtain ⟨le14, hs13, h⟩ := zoS_s h
        obtain ⟨a15, ea15, h⟩ := zoB_s h
        refine zr_get F 9 0 zd_XSight_nextPiece_46 (zW_o hs13 (by decide)) rfl (by decide) zw_371 rfl (by rfl) ?_
        refine zr_tor ea15 ?_
        refine zr_aload_n F zd_XSight_nextPiece_49 rfl ?_
        obtain ⟨le17, hs16, h⟩ := zoS_s h
        obtain ⟨a18, ea18, h⟩ := zoB_s h
        refine zr_get F 9 2 zd_XSight_nextPiece_50 (zW_o hs16 (by decide)) rfl (by decide) zw_375 rfl (by rfl) ?_
        refine zr_tor ea18 ?_
        refine zr_aload_n F zd_XSight_nextPiece_53 rfl ?_
        refine zr_pcn 54 rfl ?_
        obtain ⟨le20, hs19, h⟩ := zoS_s h
        refine zr_get F 9 4 zd_XSight_nextPiece_54 (zW_o hs19 (by decide)) rfl (by decide) zw_377 rfl (by rfl) ?_
        refine zr_aload_n F zd_XSight_nextPiece_57 rfl ?_
        obtain ⟨le22, hs21, h⟩ := zoS_s h
        obtain ⟨a23, ea23, h⟩ := zoB_s h
        refine zr_get F 9 7 zd_XSight_nextPiece_58 (zW_o hs21 (by decide)) rfl (by decide) zw_380 rfl (by rfl) ?_
        refine zr_tor ea23 ?_
        obtain ⟨le25, hs24, h⟩ := zoS_s h
        obtain ⟨a26, ea26, h⟩ := zoB_s h
        refine zr_get F 8 2 zd_XSight_nextPiece_61 (zW_o hs24 (by decide)) rfl (by decide) zw_291 rfl (by rfl) ?_
        refine zr_tor ea26 ?_
        refine zr_aload_n F zd_XSight_nextPiece_64 rfl ?_
        obtain ⟨le28, hs27, h⟩ := zoS_s h
        obtain ⟨p29, ep29, h⟩ := zoB_s h
        refine zr_callV1 F (k_XSight_materialNumber l D tA b sh _ ep29) zd_XSight_nextPiece_65 (zW_o hs27 (by decide)) rfl zs_XSight_146 rfl zq_XSight_materialNumber rfl rfl ⟨(Nat.le_of_ble_eq_true rfl), (Nat.le_of_ble_eq_true rfl)⟩ (Nat.le_of_ble_eq_true rfl) ⟨(Nat.le_of_ble_eq_true rfl), (Nat.le_of_ble_eq_true rfl)⟩ ?_
        obtain ⟨t33, le31, hs30, h⟩ := zoR_s h
        obtain ⟨hi32, h⟩ := zoI_s h
        obtain ⟨a34, ea34, h⟩ := zoB_s h
        refine zr_aaldW F zd_XSight_nextPiece_68 hs30 hi32 ea34 ?_
        refine zr_iconstv (v := 5) F zd_XSight_nextPiece_69 (by decide) ?_
        refine zr_pcn 70 rfl ?_
        obtain ⟨le36, hs35, h⟩ := zoS_s h
        obtain ⟨hi37, h⟩ := zoI_s h
        refine zr_iald F zd_XSight_nextPiece_70 (zW_a0 hs35) hi37 ?_
        refine zr_iconstv (v := 1) F zd_XSight_nextPiece_71 (by decide) ?_
        refine zr_icmp_ne F 79 zd_XSight_nextPiece_72 (by decide) (fun hb38 => ?_) (fun hb38 => ?_)
        ·
          replace h := (if_neg hb38).symm.trans h
          refine zr_iconstv (v := 0) F zd_XSight_nextPiece_79 (by decide) ?_
          obtain ⟨le40, hs39, h⟩ := zoS_s h
          obtain ⟨p41, ep41, h⟩ := zoB_s h
          refine zr_callV1 F (k_XPiece_take l D tA b sh _ ep41) zd_XSight_nextPiece_80 (zW_o hs39 (by decide)) rfl zs_XSight_150 rfl zq_XPiece_take rfl rfl ⟨(Nat.le_of_ble_eq_true rfl), (Nat.le_of_ble_eq_true rfl)⟩ (Nat.le_of_ble_eq_true rfl) ⟨(Nat.le_of_ble_eq_true rfl), (Nat.le_of_ble_eq_true rfl)⟩ ?_
          refine zr_if_eq F 88 zd_XSight_nextPiece_83 (by decide) (fun hb42 => ?_) (fun hb42 => ?_)
          ·
            replace h := (if_pos hb42).symm.trans h
            refine zr_iinc (v := (v1 + 1)) F zd_XSight_nextPiece_88 rfl rfl (by decide) ?_
            refine zr_goto F 2 zd_XSight_nextPiece_91 (by decide) ?_
            refine zr_loc (L' := [(0, .ref (b + v0)), (1, .int (v1 + 1))]) ⟨rfl, rfl, trivial⟩ ?_
            exact ih _ _ _ _ h hx0 hp
          ·
            replace h := (if_neg hb42).symm.trans h
            refine zr_pcn 86 rfl ?_
            refine zr_iconstv (v := 1) F zd_XSight_nextPiece_86 (by decide) ?_
            obtain rfl := Option.some.inj h
            exact zr_zret F hr rfl zd_XSight_nextPiece_87 (Nat.le_of_ble_eq_true rfl) (Nat.le_of_ble_eq_true rfl) (hp rfl)
        ·
          replace h := (if_pos hb38).symm.trans h
          refine zr_iconstv (v := 1) F zd_XSight_nextPiece_75 (by decide) ?_
          refine zr_goto F 80 zd_XSight_nextPiece_76 (by decide) ?_
          obtain ⟨le44, hs43, h⟩ := zoS_s h
          obtain ⟨p45, ep45, h⟩ := zoB_s h
          refine zr_callV1 F (k_XPiece_take l D tA b sh _ ep45) zd_XSight_nextPiece_80 (zW_o hs43 (by decide)) rfl zs_XSight_150 rfl zq_XPiece_take rfl rfl ⟨(Nat.le_of_ble_eq_true rfl), (Nat.le_of_ble_eq_true rfl)⟩ (Nat.le_of_ble_eq_true rfl) ⟨(Nat.le_of_ble_eq_true rfl), (Nat.le_of_ble_eq_true rfl)⟩ ?_
          refine zr_if_eq F 88 zd_XSight_nextPiece_83 (by decide) (fun hb46 => ?_) (fun hb46 => ?_)
          ·
            replace h := (if_pos hb46).symm.trans h
            refine zr_iinc (v := (v1 + 1)) F zd_XSight_nextPiece_88 rfl rfl (by decide) ?_
            refine zr_goto F 2 zd_XSight_nextPiece_91 (by decide) ?_
            refine zr_loc (L' := [(0, .ref (b + v0)), (1, .int (v1 + 1))]) ⟨rfl, rfl, trivial⟩ ?_
            exact ih _ _ _ _ h hx0 hp
          ·
            replace h := (if_neg hb46).symm.trans h
            refine zr_pcn 86 rfl ?_
            refine zr_iconstv (v := 1) F zd_XSight_nextPiece_86 (by decide) ?_
            obtain rfl := Option.some.inj h
            exact zr_zret F hr rfl zd_XSight_nextPiece_87 (Nat.le_of_ble_eq_true rfl) (Nat.le_of_ble_eq_true rfl) (hp rfl)
      ·
        replace h := (if_neg hb12).symm.trans h
        refine zr_aload_n F zd_XSight_nextPiece_31 rfl ?_
        obtain ⟨le48, hs47, h⟩ := zoS_s h
        obtain ⟨p49, ep49, h⟩ := zoB_s h
        refine zr_callV1 F (k_XSight_nextFace l D tA b sh _ ep49) zd_XSight_nextPiece_32 (zW_o hs47 (by decide)) rfl zs_XSight_139 rfl zq_XSight_nextFace rfl rfl ⟨(Nat.le_of_ble_eq_true rfl), (Nat.le_of_ble_eq_true rfl)⟩ (Nat.le_of_ble_eq_true rfl) ⟨(Nat.le_of_ble_eq_true rfl), (Nat.le_of_ble_eq_true rfl)⟩ ?_
        refine zr_if_ne F 40 zd_XSight_nextPiece_35 (by decide) (fun hb50 => ?_) (fun hb50 => ?_)
        ·
          replace h := (if_neg hb50).symm.trans h
          refine zr_aload_n F zd_XSight_nextPiece_40 rfl ?_
          refine zr_iconstv (v := 1) F zd_XSight_nextPiece_41 (by decide) ?_
          obtain ⟨le52, hs51, h⟩ := zoS_s h
          refine zr_put F 9 4 zd_XSight_nextPiece_42 (zW_o hs51 (by decide)) rfl (by decide) zw_377 rfl rfl rfl rfl (by exact (Nat.le_of_ble_eq_true rfl)) ?_
          obtain ⟨mm53, emm53, h⟩ := zoL_s h
          refine zr_norm (zW tA b sh mm53) _ (by rw [emm53]; exact zW_pI (v := 1) hs51 (by decide) (zf_I_9_4 b _ _ _)) rfl ?_
          refine zr_pcn 45 rfl ?_
          refine zr_aload_n F zd_XSight_nextPiece_45 rfl ?_
          obtain ⟨le55, hs54, h⟩ := zoS_s h
          obtain ⟨a56, ea56, h⟩ := zoB_s h
          refine zr_get F 9 0 zd_XSight_nextPiece_46 (zW_o hs54 (by decide)) rfl (by decide) zw_371 rfl (by rfl) ?_
          refine zr_tor ea56 ?_
          refine zr_aload_n F zd_XSight_nextPiece_49 rfl ?_
          obtain ⟨le58, hs57, h⟩ := zoS_s h
          obtain ⟨a59, ea59, h⟩ := zoB_s h
          refine zr_get F 9 2 zd_XSight_nextPiece_50 (zW_o hs57 (by decide)) rfl (by decide) zw_375 rfl (by rfl) ?_
          refine zr_tor ea59 ?_
          refine zr_aload_n F zd_XSight_nextPiece_53 rfl ?_
          obtain ⟨le61, hs60, h⟩ := zoS_s h
          refine zr_get F 9 4 zd_XSight_nextPiece_54 (zW_o hs60 (by decide)) rfl (by decide) zw_377 rfl (by rfl) ?_
          refine zr_aload_n F zd_XSight_nextPiece_57 rfl ?_
          obtain ⟨le63, hs62, h⟩ := zoS_s h
          obtain ⟨a64, ea64, h⟩ := zoB_s h
          refine zr_get F 9 7 zd_XSight_nextPiece_58 (zW_o hs62 (by decide)) rfl (by decide) zw_380 rfl (by rfl) ?_
          refine zr_tor ea64 ?_
          refine zr_pcn 61 rfl ?_
          obtain ⟨le66, hs65, h⟩ := zoS_s h
          obtain ⟨a67, ea67, h⟩ := zoB_s h
          refine zr_get F 8 2 zd_XSight_nextPiece_61 (zW_o hs65 (by decide)) rfl (by decide) zw_291 rfl (by rfl) ?_
          refine zr_tor ea67 ?_
          refine zr_aload_n F zd_XSight_nextPiece_64 rfl ?_
          obtain ⟨le69, hs68, h⟩ := zoS_s h
          obtain ⟨p70, ep70, h⟩ := zoB_s h
          refine zr_callV1 F (k_XSight_materialNumber l D tA b sh _ ep70) zd_XSight_nextPiece_65 (zW_o hs68 (by decide)) rfl zs_XSight_146 rfl zq_XSight_materialNumber rfl rfl ⟨(Nat.le_of_ble_eq_true rfl), (Nat.le_of_ble_eq_true rfl)⟩ (Nat.le_of_ble_eq_true rfl) ⟨(Nat.le_of_ble_eq_true rfl), (Nat.le_of_ble_eq_true rfl)⟩ ?_
          obtain ⟨t74, le72, hs71, h⟩ := zoR_s h
          obtain ⟨hi73, h⟩ := zoI_s h
          obtain ⟨a75, ea75, h⟩ := zoB_s h
          refine zr_aaldW F zd_XSight_nextPiece_68 hs71 hi73 ea75 ?_
          refine zr_iconstv (v := 5) F zd_XSight_nextPiece_69 (by decide) ?_
          obtain ⟨le77, hs76, h⟩ := zoS_s h
          obtain ⟨hi78, h⟩ := zoI_s h
          refine zr_iald F zd_XSight_nextPiece_70 (zW_a0 hs76) hi78 ?_
          refine zr_iconstv (v := 1) F zd_XSight_nextPiece_71 (by decide) ?_
          refine zr_icmp_ne F 79 zd_XSight_nextPiece_72 (by decide) (fun hb79 => ?_) (fun hb79 => ?_)
          ·
            replace h := (if_neg hb79).symm.trans h
            refine zr_pcn 79 rfl ?_
            refine zr_iconstv (v := 0) F zd_XSight_nextPiece_79 (by decide) ?_
            obtain ⟨le81, hs80, h⟩ := zoS_s h
            obtain ⟨p82, ep82, h⟩ := zoB_s h
            refine zr_callV1 F (k_XPiece_take l D tA b sh _ ep82) zd_XSight_nextPiece_80 (zW_o hs80 (by decide)) rfl zs_XSight_150 rfl zq_XPiece_take rfl rfl ⟨(Nat.le_of_ble_eq_true rfl), (Nat.le_of_ble_eq_true rfl)⟩ (Nat.le_of_ble_eq_true rfl) ⟨(Nat.le_of_ble_eq_true rfl), (Nat.le_of_ble_eq_true rfl)⟩ ?_
            refine zr_if_eq F 88 zd_XSight_nextPiece_83 (by decide) (fun hb83 => ?_) (fun hb83 => ?_)
            ·
              replace h := (if_pos hb83).symm.trans h
              refine zr_iinc (v := (v1 + 1)) F zd_XSight_nextPiece_88 rfl rfl (by decide) ?_
              refine zr_goto F 2 zd_XSight_nextPiece_91 (by decide) ?_
              refine zr_loc (L' := [(0, .ref (b + v0)), (1, .int (v1 + 1))]) ⟨rfl, rfl, trivial⟩ ?_
              exact ih _ _ _ _ h hx0 hp
            ·
              replace h := (if_neg hb83).symm.trans h
              refine zr_iconstv (v := 1) F zd_XSight_nextPiece_86 (by decide) ?_
              obtain rfl := Option.some.inj h
              exact zr_zret F hr rfl zd_XSight_nextPiece_87 (Nat.le_of_ble_eq_true rfl) (Nat.le_of_ble_eq_true rfl) (hp rfl)
          ·
            replace h := (if_pos hb79).symm.trans h
            refine zr_iconstv (v := 1) F zd_XSight_nextPiece_75 (by decide) ?_
            refine zr_pcn 76 rfl ?_
            refine zr_goto F 80 zd_XSight_nextPiece_76 (by decide) ?_
            obtain ⟨le85, hs84, h⟩ := zoS_s h
            obtain ⟨p86, ep86, h⟩ := zoB_s h
            refine zr_callV1 F (k_XPiece_take l D tA b sh _ ep86) zd_XSight_nextPiece_80 (zW_o hs84 (by decide)) rfl zs_XSight_150 rfl zq_XPiece_take rfl rfl ⟨(Nat.le_of_ble_eq_true rfl), (Nat.le_of_ble_eq_true rfl)⟩ (Nat.le_of_ble_eq_true rfl) ⟨(Nat.le_of_ble_eq_true rfl), (Nat.le_of_ble_eq_true rfl)⟩ ?_
            refine zr_if_eq F 88 zd_XSight_nextPiece_83 (by decide) (fun hb87 => ?_) (fun hb87 => ?_)
            ·
              replace h := (if_pos hb87).symm.trans h
              refine zr_iinc (v := (v1 + 1)) F zd_XSight_nextPiece_88 rfl rfl (by decide) ?_
              refine zr_goto F 2 zd_XSight_nextPiece_91 (by decide) ?_
              refine zr_loc (L' := [(0, .ref (b + v0)), (1, .int (v1 + 1))]) ⟨rfl, rfl, trivial⟩ ?_
              exact ih _ _ _ _ h hx0 hp
            ·
              replace h := (if_neg hb87).symm.trans h
              refine zr_iconstv (v := 1) F zd_XSight_nextPiece_86 (by decide) ?_
              obtain rfl := Option.some.inj h
              exact zr_zret F hr rfl zd_XSight_nextPiece_87 (Nat.le_of_ble_eq_true rfl) (Nat.le_of_ble_eq_true rfl) (hp rfl)
        ·
          replace h := (if_pos hb50).symm.trans h
          refine zr_iconstv (v := 0) F zd_XSight_nextPiece_38 (by decide) ?_
          refine zr_pcn 39 rfl ?_
          obtain rfl := Option.some.inj h
          exact zr_zret F hr rfl zd_XSight_nextPiece_39 (Nat.le_of_ble_eq_true rfl) (Nat.le_of_ble_eq_true rfl) (hp rfl)
def F_XSight_nextPiece (sh : zSh) (mm : zMem) (o : Nat) : Option (Int32 × zMem) := Option.bind (L_XSight_nextPiece_2 sh zfuel o 0 mm) (fun q88 => (if q88.1 = 1 then some (0, q88.2.2.2.2) else some (q88.2.1, q88.2.2.2.2)))
set_option maxHeartbeats 4000000 in
set_option maxRecDepth 100000 in
theorem k_XSight_nextPiece (l : Launch) (D : va_G) (tA : Nat → ClassId) (b : Nat) (sh : zSh) (n : Nat) {mm : zMem} {o : Nat} {r : (Int32 × zMem)} (h : F_XSight_nextPiece sh mm o = some r) : zM l D tA b zy_XSight_nextPiece zb_XSight_nextPiece 2 (some .boolean) 5 134 0 0 [.ref (b + o)] (zW tA b sh mm) n (zE (some (.int (r.1))) (zW tA b sh r.2) n) := by
  unfold F_XSight_nextPiece at h
  refine zM_of (own := "OrreryBox$Sight") (plainFor_of_name (by decide)) rfl (Nat.le_of_ble_eq_true rfl) (fun p e s m below meth c F hr hin hH => ?_)
  refine zr_iconstv (v := 0) F zd_XSight_nextPiece_0 (by decide) ?_
  refine zr_istore_n F zd_XSight_nextPiece_1 (by decide) ?_
  obtain ⟨q88, eq88, h⟩ := zoB_s h
  refine zr_loc (L' := [(0, .ref (b + o)), (1, .int 0)]) ⟨rfl, rfl, trivial⟩ ?_
  refine lp_XSight_nextPiece_2 F hr _ _ _ _ _ eq88 ?_ ?_
  ·
    intro ec
    rw [if_pos ec] at h
    refine zr_iconstv (v := 0) F zd_XSight_nextPiece_94 (by decide) ?_
    obtain rfl := Option.some.inj h
    exact zr_zret F hr rfl zd_XSight_nextPiece_95 (Nat.le_of_ble_eq_true rfl) (Nat.le_of_ble_eq_true rfl) ⟨rfl, rfl, rfl⟩
  ·
    intro ec
    rw [if_neg (by rw [ec]; decide)] at h
    obtain rfl := Option.some.inj h
    exact ⟨rfl, rfl, rfl⟩
