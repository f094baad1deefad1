theorem zw_2055 : (Jvm.Cond.methodLink "OrreryBoxModel" (188 : Nat) ({ cls := "OrreryBoxModel$Painter", name := "paint", desc := "(LOrreryBoxModel$Scene;IIII)V" } : Jvm.MethodName)) ∈ gw := gw_t 2055 (by decide +kernel) rfl
theorem zw_2056 : (Jvm.Cond.instanceMethod ({ cls := "OrreryBoxModel$Painter", name := "paint", desc := "(LOrreryBoxModel$Scene;IIII)V" } : Jvm.MethodName)) ∈ gw := gw_t 2056 (by decide +kernel) rfl
theorem zw_2057 : (Jvm.Cond.selects "OrreryBoxModel$Painter" ({ cls := "OrreryBoxModel$Painter", name := "paint", desc := "(LOrreryBoxModel$Scene;IIII)V" } : Jvm.MethodName) ({ cls := "OrreryBoxModel$Painter", name := "paint", desc := "(LOrreryBoxModel$Scene;IIII)V" } : Jvm.MethodName)) ∈ gw := gw_t 2057 (by decide +kernel) rfl
theorem zs_MD_188 : zwV "OrreryBoxModel" 188 "OrreryBoxModel$Painter" zy_MPainter_paint zb_MPainter_paint 6 none := ⟨zw_2055, zw_2056, zw_2057, zw_17, zc_MPainter_paint⟩
def F_MD_tile (sh : zSh) (mm : zMem) (o : Nat) (x0_ : Int32) : Option (Int32 × zMem) := zoS (sh o) 1 (fun le2 => zoL (mI mm o 11 0) (fun mm3 => zoS (sh o) 1 (fun le5 => (if (mm3.1 o 15) = 0 then some (0, mm3) else (if x0_ < 0 then some (0, mm3) else zoS (sh o) 1 (fun le9 => Option.bind (F_MD_tiles sh mm3 o) (fun p10 => (if p10.1 ≤ x0_ then some (0, p10.2) else zoS (sh o) 1 (fun le13 => Option.bind ((p10.2).2.2 o 16) (fun a14 => zoS (sh a14) 103 (fun le16 => if (x0_ : Int32) < 0 ∨ le16 ≤ (x0_ : Int32).toNatClampNeg then none else (if ((p10.2).1 a14 (x0_ : Int32).toNatClampNeg) = 0 then zoS (sh o) 1 (fun le20 => Option.bind ((p10.2).2.2 o 16) (fun a21 => zoS (sh a21) 103 (fun le23 => if (x0_ : Int32) < 0 ∨ le23 ≤ (x0_ : Int32).toNatClampNeg then none else zoL (mI (p10.2) a21 (x0_ : Int32).toNatClampNeg (vp_nar .boolean 1)) (fun mm25 => zoS (sh o) 1 (fun le27 => Option.bind (F_MD_across sh mm25 o) (fun p28 => (if p28.1 = 0 then none else zoL (8 * (x0_ - x0_ / p28.1 * p28.1)) (fun x30 => zoS (sh o) 1 (fun le32 => Option.bind (F_MD_across sh (p28.2) o) (fun p33 => (if p33.1 = 0 then none else zoL (8 * (x0_ / p33.1)) (fun x35 => zoS (sh o) 1 (fun le37 => Option.bind ((p33.2).2.2 o 8) (fun a38 => zoS (sh o) 1 (fun le40 => Option.bind ((p33.2).2.2 o 6) (fun a41 => zoS (sh o) 1 (fun le43 => (if ((p33.2).1 o 0) ≤ (x30 + 8) then zoS (sh o) 1 (fun le46 => zoS (sh o) 1 (fun le48 => (if ((p33.2).1 o 1) ≤ (x35 + 8) then zoS (sh o) 1 (fun le51 => zoS (sh a38) 13 (fun le53 => Option.bind (F_MPainter_paint sh (p33.2) a38 a41 x30 x35 ((p33.2).1 o 0) ((p33.2).1 o 1)) (fun p54 => some (1, p54)))) else zoS (sh a38) 13 (fun le56 => Option.bind (F_MPainter_paint sh (p33.2) a38 a41 x30 x35 ((p33.2).1 o 0) (x35 + 8)) (fun p57 => some (1, p57)))))) else zoS (sh o) 1 (fun le59 => (if ((p33.2).1 o 1) ≤ (x35 + 8) then zoS (sh o) 1 (fun le62 => zoS (sh a38) 13 (fun le64 => Option.bind (F_MPainter_paint sh (p33.2) a38 a41 x30 x35 (x30 + 8) ((p33.2).1 o 1)) (fun p65 => some (1, p65)))) else zoS (sh a38) 13 (fun le67 => Option.bind (F_MPainter_paint sh (p33.2) a38 a41 x30 x35 (x30 + 8) (x35 + 8)) (fun p68 => some (1, p68))))))))))))))))))))))) else some (0, p10.2)))))))))))))
set_option maxHeartbeats 4000000 in
set_option maxRecDepth 100000 in
theorem k_MD_tile (l : Launch) (D : va_G) (tA : Nat → ClassId) (b : Nat) (sh : zSh) (n : Nat) {mm : zMem} {o : Nat} {x0_ : Int32} {r : (Int32 × zMem)} (h : F_MD_tile sh mm o x0_ = some r) : zM l D tA b zy_MD_tile zb_MD_tile 4 (some .boolean) 12 316 0 0 [.ref (b + o), .int x0_] (zW tA b sh mm) n (zE (some (.int (r.1))) (zW tA b sh r.2) n) := by
  unfold F_MD_tile at h
  refine zM_of (own := "OrreryBoxModel") (plainFor_of_name (by decide)) rfl (Nat.le_of_ble_eq_true rfl) (fun p e s m below meth c F hr hin hH => ?_)
  refine zr_aload_n F zd_MD_tile_0 rfl ?_
  refine zr_iconstv (v := 0) F zd_MD_tile_1 (by decide) ?_
  obtain ⟨le2, hs1, h⟩ := zoS_s h
  refine zr_put F 1 11 zd_MD_tile_2 (zW_o hs1 (by decide)) rfl (by decide) zw_1691 rfl rfl rfl rfl (by exact (Nat.le_of_ble_eq_true rfl)) ?_
  obtain ⟨mm3, emm3, h⟩ := zoL_s h
  refine zr_norm (zW tA b sh mm3) _ (by rw [emm3]; exact zW_pI (v := 0) hs1 (by decide) (zf_I_1_11 b _ _ _)) rfl ?_
  refine zr_aload_n F zd_MD_tile_5 rfl ?_
  obtain ⟨le5, hs4, h⟩ := zoS_s h
  refine zr_get F 1 15 zd_MD_tile_6 (zW_o hs4 (by decide)) rfl (by decide) zw_1695 rfl (by rfl) ?_
  refine zr_if_eq F 33 zd_MD_tile_9 (by decide) (fun hb6 => ?_) (fun hb6 => ?_)
  ·
    replace h := (if_pos hb6).symm.trans h
    refine zr_iconstv (v := 0) F zd_MD_tile_33 (by decide) ?_
    refine zr_pcn 34 rfl ?_
    obtain rfl := Option.some.inj h
    exact zr_zret F hr rfl zd_MD_tile_34 (Nat.le_of_ble_eq_true rfl) (Nat.le_of_ble_eq_true rfl) ⟨rfl, rfl, rfl⟩
  ·
    replace h := (if_neg hb6).symm.trans h
    refine zr_iload_n F zd_MD_tile_12 rfl ?_
    refine zr_if_lt F 33 zd_MD_tile_13 (by decide) (fun hb7 => ?_) (fun hb7 => ?_)
    ·
      replace h := (if_pos hb7).symm.trans h
      refine zr_iconstv (v := 0) F zd_MD_tile_33 (by decide) ?_
      obtain rfl := Option.some.inj h
      exact zr_zret F hr rfl zd_MD_tile_34 (Nat.le_of_ble_eq_true rfl) (Nat.le_of_ble_eq_true rfl) ⟨rfl, rfl, rfl⟩
    ·
      replace h := (if_neg hb7).symm.trans h
      refine zr_iload_n F zd_MD_tile_16 rfl ?_
      refine zr_aload_n F zd_MD_tile_17 rfl ?_
      obtain ⟨le9, hs8, h⟩ := zoS_s h
      obtain ⟨p10, ep10, h⟩ := zoB_s h
      refine zr_callV1 F (k_MD_tiles l D tA b sh _ ep10) zd_MD_tile_18 (zW_o hs8 (by decide)) rfl zs_MD_185 rfl zq_MD_tiles rfl rfl ⟨(Nat.le_of_ble_eq_true rfl), (Nat.le_of_ble_eq_true rfl)⟩ (Nat.le_of_ble_eq_true rfl) ⟨(Nat.le_of_ble_eq_true rfl), (Nat.le_of_ble_eq_true rfl)⟩ ?_
      refine zr_pcn 21 rfl ?_
      refine zr_icmp_ge F 33 zd_MD_tile_21 (by decide) (fun hb11 => ?_) (fun hb11 => ?_)
      ·
        replace h := (if_pos hb11).symm.trans h
        refine zr_iconstv (v := 0) F zd_MD_tile_33 (by decide) ?_
        obtain rfl := Option.some.inj h
        exact zr_zret F hr rfl zd_MD_tile_34 (Nat.le_of_ble_eq_true rfl) (Nat.le_of_ble_eq_true rfl) ⟨rfl, rfl, rfl⟩
      ·
        replace h := (if_neg hb11).symm.trans h
        refine zr_aload_n F zd_MD_tile_24 rfl ?_
        obtain ⟨le13, hs12, h⟩ := zoS_s h
        obtain ⟨a14, ea14, h⟩ := zoB_s h
        refine zr_get F 1 16 zd_MD_tile_25 (zW_o hs12 (by decide)) rfl (by decide) zw_1696 rfl (by rfl) ?_
        refine zr_tor ea14 ?_
        refine zr_iload_n F zd_MD_tile_28 rfl ?_
        obtain ⟨le16, hs15, h⟩ := zoS_s h
        obtain ⟨hi17, h⟩ := zoI_s h
        refine zr_zald F zd_MD_tile_29 (zW_a3 hs15) hi17 ?_
        refine zr_if_eq F 35 zd_MD_tile_30 (by decide) (fun hb18 => ?_) (fun hb18 => ?_)
        ·
          replace h := (if_pos hb18).symm.trans h
          refine zr_pcn 35 rfl ?_
          refine zr_aload_n F zd_MD_tile_35 rfl ?_
          obtain ⟨le20, hs19, h⟩ := zoS_s h
          obtain ⟨a21, ea21, h⟩ := zoB_s h
          refine zr_get F 1 16 zd_MD_tile_36 (zW_o hs19 (by decide)) rfl (by decide) zw_1696 rfl (by rfl) ?_
          refine zr_tor ea21 ?_
          refine zr_iload_n F zd_MD_tile_39 rfl ?_
          refine zr_iconstv (v := 1) F zd_MD_tile_40 (by decide) ?_
          obtain ⟨le23, hs22, h⟩ := zoS_s h
          obtain ⟨hi24, h⟩ := zoI_s h
          refine zr_zast F zd_MD_tile_41 (zW_a3 hs22) hi24 ?_
          obtain ⟨mm25, emm25, h⟩ := zoL_s h
          refine zr_norm (zW tA b sh mm25) _ (by rw [emm25]; exact zW_s3 hs22) rfl ?_
          refine zr_bipushv (v := 8) F zd_MD_tile_42 (by decide) ?_
          refine zr_iload_n F zd_MD_tile_44 rfl ?_
          refine zr_aload_n F zd_MD_tile_45 rfl ?_
          refine zr_pcn 46 rfl ?_
          obtain ⟨le27, hs26, h⟩ := zoS_s h
          obtain ⟨p28, ep28, h⟩ := zoB_s h
          refine zr_callV1 F (k_MD_across l D tA b sh _ ep28) zd_MD_tile_46 (zW_o hs26 (by decide)) rfl zs_MD_177 rfl zq_MD_across rfl rfl ⟨(Nat.le_of_ble_eq_true rfl), (Nat.le_of_ble_eq_true rfl)⟩ (Nat.le_of_ble_eq_true rfl) ⟨(Nat.le_of_ble_eq_true rfl), (Nat.le_of_ble_eq_true rfl)⟩ ?_
          obtain ⟨hn29, h⟩ := zoI_s h
          refine zr_irem F zd_MD_tile_49 hn29 ?_
          refine zr_imul F zd_MD_tile_50 ?_
          obtain ⟨x30, ex30, h⟩ := zoL_s h
          rw [← ex30]
          refine zr_istore_n F zd_MD_tile_51 (by decide) ?_
          refine zr_bipushv (v := 8) F zd_MD_tile_52 (by decide) ?_
          refine zr_iload_n F zd_MD_tile_54 rfl ?_
          refine zr_aload_n F zd_MD_tile_55 rfl ?_
          obtain ⟨le32, hs31, h⟩ := zoS_s h
          obtain ⟨p33, ep33, h⟩ := zoB_s h
          refine zr_callV1 F (k_MD_across l D tA b sh _ ep33) zd_MD_tile_56 (zW_o hs31 (by decide)) rfl zs_MD_177 rfl zq_MD_across rfl rfl ⟨(Nat.le_of_ble_eq_true rfl), (Nat.le_of_ble_eq_true rfl)⟩ (Nat.le_of_ble_eq_true rfl) ⟨(Nat.le_of_ble_eq_true rfl), (Nat.le_of_ble_eq_true rfl)⟩ ?_
          refine zr_pcn 59 rfl ?_
          obtain ⟨hn34, h⟩ := zoI_s h
          refine zr_idiv F zd_MD_tile_59 hn34 ?_
          refine zr_imul F zd_MD_tile_60 ?_
          obtain ⟨x35, ex35, h⟩ := zoL_s h
          rw [← ex35]
          refine zr_istore_n F zd_MD_tile_61 (by decide) ?_
          refine zr_aload_n F zd_MD_tile_62 rfl ?_
          obtain ⟨le37, hs36, h⟩ := zoS_s h
          obtain ⟨a38, ea38, h⟩ := zoB_s h
          refine zr_get F 1 8 zd_MD_tile_63 (zW_o hs36 (by decide)) rfl (by decide) zw_1688 rfl (by rfl) ?_
          refine zr_tor ea38 ?_
          refine zr_aload_n F zd_MD_tile_66 rfl ?_
          obtain ⟨le40, hs39, h⟩ := zoS_s h
          obtain ⟨a41, ea41, h⟩ := zoB_s h
          refine zr_get F 1 6 zd_MD_tile_67 (zW_o hs39 (by decide)) rfl (by decide) zw_1686 rfl (by rfl) ?_
          refine zr_tor ea41 ?_
          refine zr_iload_n F zd_MD_tile_70 rfl ?_
          refine zr_pcn 71 rfl ?_
          refine zr_iload_n F zd_MD_tile_71 rfl ?_
          refine zr_iload_n F zd_MD_tile_72 rfl ?_
          refine zr_bipushv (v := 8) F zd_MD_tile_73 (by decide) ?_
          refine zr_iadd F zd_MD_tile_75 ?_
          refine zr_aload_n F zd_MD_tile_76 rfl ?_
          obtain ⟨le43, hs42, h⟩ := zoS_s h
          refine zr_get F 1 0 zd_MD_tile_77 (zW_o hs42 (by decide)) rfl (by decide) zw_1680 rfl (by rfl) ?_
          refine zr_icmp_ge F 90 zd_MD_tile_80 (by decide) (fun hb44 => ?_) (fun hb44 => ?_)
          ·
            replace h := (if_pos hb44).symm.trans h
            refine zr_aload_n F zd_MD_tile_90 rfl ?_
            refine zr_pcn 91 rfl ?_
            obtain ⟨le46, hs45, h⟩ := zoS_s h
            refine zr_get F 1 0 zd_MD_tile_91 (zW_o hs45 (by decide)) rfl (by decide) zw_1680 rfl (by rfl) ?_
            refine zr_iload_n F zd_MD_tile_94 rfl ?_
            refine zr_bipushv (v := 8) F zd_MD_tile_95 (by decide) ?_
            refine zr_iadd F zd_MD_tile_97 ?_
            refine zr_aload_n F zd_MD_tile_98 rfl ?_
            obtain ⟨le48, hs47, h⟩ := zoS_s h
            refine zr_get F 1 1 zd_MD_tile_99 (zW_o hs47 (by decide)) rfl (by decide) zw_1681 rfl (by rfl) ?_
            refine zr_icmp_ge F 112 zd_MD_tile_102 (by decide) (fun hb49 => ?_) (fun hb49 => ?_)
            ·
              replace h := (if_pos hb49).symm.trans h
              refine zr_aload_n F zd_MD_tile_112 rfl ?_
              refine zr_pcn 113 rfl ?_
              obtain ⟨le51, hs50, h⟩ := zoS_s h
              refine zr_get F 1 1 zd_MD_tile_113 (zW_o hs50 (by decide)) rfl (by decide) zw_1681 rfl (by rfl) ?_
              obtain ⟨le53, hs52, h⟩ := zoS_s h
              obtain ⟨p54, ep54, h⟩ := zoB_s h
              refine zr_callV0 F (k_MPainter_paint l D tA b sh _ ep54) zd_MD_tile_116 (zW_o hs52 (by decide)) rfl zs_MD_188 rfl zq_MPainter_paint rfl rfl ⟨(Nat.le_of_ble_eq_true rfl), (Nat.le_of_ble_eq_true rfl)⟩ (Nat.le_of_ble_eq_true rfl) ⟨(Nat.le_of_ble_eq_true rfl), (Nat.le_of_ble_eq_true rfl)⟩ ?_
              refine zr_iconstv (v := 1) F zd_MD_tile_119 (by decide) ?_
              obtain rfl := Option.some.inj h
              exact zr_zret F hr rfl zd_MD_tile_120 (Nat.le_of_ble_eq_true rfl) (Nat.le_of_ble_eq_true rfl) ⟨rfl, rfl, rfl⟩
            ·
              replace h := (if_neg hb49).symm.trans h
              refine zr_iload_n F zd_MD_tile_105 rfl ?_
              refine zr_bipushv (v := 8) F zd_MD_tile_106 (by decide) ?_
              refine zr_iadd F zd_MD_tile_108 ?_
              refine zr_goto F 116 zd_MD_tile_109 (by decide) ?_
              refine zr_pcn 116 rfl ?_
              obtain ⟨le56, hs55, h⟩ := zoS_s h
              obtain ⟨p57, ep57, h⟩ := zoB_s h
              refine zr_callV0 F (k_MPainter_paint l D tA b sh _ ep57) zd_MD_tile_116 (zW_o hs55 (by decide)) rfl zs_MD_188 rfl zq_MPainter_paint rfl rfl ⟨(Nat.le_of_ble_eq_true rfl), (Nat.le_of_ble_eq_true rfl)⟩ (Nat.le_of_ble_eq_true rfl) ⟨(Nat.le_of_ble_eq_true rfl), (Nat.le_of_ble_eq_true rfl)⟩ ?_
              refine zr_iconstv (v := 1) F zd_MD_tile_119 (by decide) ?_
              obtain rfl := Option.some.inj h
              exact zr_zret F hr rfl zd_MD_tile_120 (Nat.le_of_ble_eq_true rfl) (Nat.le_of_ble_eq_true rfl) ⟨rfl, rfl, rfl⟩
          ·
            replace h := (if_neg hb44).symm.trans h
            refine zr_iload_n F zd_MD_tile_83 rfl ?_
            refine zr_bipushv (v := 8) F zd_MD_tile_84 (by decide) ?_
            refine zr_iadd F zd_MD_tile_86 ?_
            refine zr_goto F 94 zd_MD_tile_87 (by decide) ?_
            refine zr_iload_n F zd_MD_tile_94 rfl ?_
            refine zr_pcn 95 rfl ?_
            refine zr_bipushv (v := 8) F zd_MD_tile_95 (by decide) ?_
            refine zr_iadd F zd_MD_tile_97 ?_
            refine zr_aload_n F zd_MD_tile_98 rfl ?_
            obtain ⟨le59, hs58, h⟩ := zoS_s h
            refine zr_get F 1 1 zd_MD_tile_99 (zW_o hs58 (by decide)) rfl (by decide) zw_1681 rfl (by rfl) ?_
            refine zr_icmp_ge F 112 zd_MD_tile_102 (by decide) (fun hb60 => ?_) (fun hb60 => ?_)
            ·
              replace h := (if_pos hb60).symm.trans h
              refine zr_aload_n F zd_MD_tile_112 rfl ?_
              obtain ⟨le62, hs61, h⟩ := zoS_s h
              refine zr_get F 1 1 zd_MD_tile_113 (zW_o hs61 (by decide)) rfl (by decide) zw_1681 rfl (by rfl) ?_
              obtain ⟨le64, hs63, h⟩ := zoS_s h
              obtain ⟨p65, ep65, h⟩ := zoB_s h
              refine zr_callV0 F (k_MPainter_paint l D tA b sh _ ep65) zd_MD_tile_116 (zW_o hs63 (by decide)) rfl zs_MD_188 rfl zq_MPainter_paint rfl rfl ⟨(Nat.le_of_ble_eq_true rfl), (Nat.le_of_ble_eq_true rfl)⟩ (Nat.le_of_ble_eq_true rfl) ⟨(Nat.le_of_ble_eq_true rfl), (Nat.le_of_ble_eq_true rfl)⟩ ?_
              refine zr_pcn 119 rfl ?_
              refine zr_iconstv (v := 1) F zd_MD_tile_119 (by decide) ?_
              obtain rfl := Option.some.inj h
              exact zr_zret F hr rfl zd_MD_tile_120 (Nat.le_of_ble_eq_true rfl) (Nat.le_of_ble_eq_true rfl) ⟨rfl, rfl, rfl⟩
            ·
              replace h := (if_neg hb60).symm.trans h
              refine zr_iload_n F zd_MD_tile_105 rfl ?_
              refine zr_bipushv (v := 8) F zd_MD_tile_106 (by decide) ?_
              refine zr_iadd F zd_MD_tile_108 ?_
              refine zr_goto F 116 zd_MD_tile_109 (by decide) ?_
              obtain ⟨le67, hs66, h⟩ := zoS_s h
              obtain ⟨p68, ep68, h⟩ := zoB_s h
              refine zr_callV0 F (k_MPainter_paint l D tA b sh _ ep68) zd_MD_tile_116 (zW_o hs66 (by decide)) rfl zs_MD_188 rfl zq_MPainter_paint rfl rfl ⟨(Nat.le_of_ble_eq_true rfl), (Nat.le_of_ble_eq_true rfl)⟩ (Nat.le_of_ble_eq_true rfl) ⟨(Nat.le_of_ble_eq_true rfl), (Nat.le_of_ble_eq_true rfl)⟩ ?_
              refine zr_iconstv (v := 1) F zd_MD_tile_119 (by decide) ?_
              refine zr_pcn 120 rfl ?_
              obtain rfl := Option.some.inj h
              exact zr_zret F hr rfl zd_MD_tile_120 (Nat.le_of_ble_eq_true rfl) (Nat.le_of_ble_eq_true rfl) ⟨rfl, rfl, rfl⟩
        ·
          replace h := (if_neg hb18).symm.trans h
          refine zr_iconstv (v := 0) F zd_MD_tile_33 (by decide) ?_
          obtain rfl := Option.some.inj h
          exact zr_zret F hr rfl zd_MD_tile_34 (Nat.le_of_ble_eq_true rfl) (Nat.le_of_ble_eq_true rfl) ⟨rfl, rfl, rfl⟩
theorem zf_I_1_19 (b : Nat) (m : zMem) (k : Nat) (v : Int32) : (zfl b 1 m k).set 19 (.int v) = zfl b 1 (mI m k 19 v) k := by simp [zfl, mI, upd, vp_updL]
def F_MD_pick (sh : zSh) (mm : zMem) (o : Nat) (x0_ : Int32) (x1_ : Int32) : Option (Int32 × zMem) := zoS (sh o) 1 (fun le2 => zoL (mI mm o 11 0) (fun mm3 => zoS (sh o) 1 (fun le5 => zoL (mI mm3 o 19 (-1)) (fun mm6 => zoS (sh o) 1 (fun le8 => Option.bind (F_MD_isPixel sh mm6 o x0_ x1_) (fun p9 => (if p9.1 = 0 then some ((-1), p9.2) else zoS (sh o) 1 (fun le12 => Option.bind ((p9.2).2.2 o 8) (fun a13 => zoS (sh o) 1 (fun le15 => Option.bind ((p9.2).2.2 o 4) (fun a16 => zoS (sh a13) 13 (fun le18 => Option.bind (F_MPainter_pick sh (p9.2) a13 a16 x0_ x1_) (fun p19 => zoS (sh o) 1 (fun le21 => Option.bind (p19.2.2 o 8) (fun a22 => zoS (sh a22) 13 (fun le24 => zoL (p19.1 a22 12) (fun x25 => zoS (sh o) 1 (fun le27 => zoL (mI p19 o 19 x25) (fun mm28 => zoS (sh o) 1 (fun le30 => Option.bind (mm28.2.2 o 8) (fun a31 => zoS (sh a31) 13 (fun le33 => some ((mm28.1 a31 11), mm28)))))))))))))))))))))))
set_option maxHeartbeats 4000000 in
set_option maxRecDepth 100000 in
theorem k_MD_pick (l : Launch) (D : va_G) (tA : Nat → ClassId) (b : Nat) (sh : zSh) (n : Nat) {mm : zMem} {o : Nat} {x0_ : Int32} {x1_ : Int32} {r : (Int32 × zMem)} (h : F_MD_pick sh mm o x0_ x1_ = some r) : zM l D tA b zy_MD_pick zb_MD_pick 3 (some .int) 12 314 0 0 [.ref (b + o), .int x0_, .int x1_] (zW tA b sh mm) n (zE (some (.int (r.1))) (zW tA b sh r.2) n) := by
  unfold F_MD_pick at h
  refine zM_of (own := "OrreryBoxModel") (plainFor_of_name (by decide)) rfl (Nat.le_of_ble_eq_true rfl) (fun p e s m below meth c F hr hin hH => ?_)
  refine zr_aload_n F zd_MD_pick_0 rfl ?_
  refine zr_iconstv (v := 0) F zd_MD_pick_1 (by decide) ?_
  obtain ⟨le2, hs1, h⟩ := zoS_s h
  refine zr_put F 1 11 zd_MD_pick_2 (zW_o hs1 (by decide)) rfl (by decide) zw_1691 rfl rfl rfl rfl (by exact (Nat.le_of_ble_eq_true rfl)) ?_
  obtain ⟨mm3, emm3, h⟩ := zoL_s h
  refine zr_norm (zW tA b sh mm3) _ (by rw [emm3]; exact zW_pI (v := 0) hs1 (by decide) (zf_I_1_11 b _ _ _)) rfl ?_
  refine zr_aload_n F zd_MD_pick_5 rfl ?_
  refine zr_iconstv (v := (-1)) F zd_MD_pick_6 (by decide) ?_
  obtain ⟨le5, hs4, h⟩ := zoS_s h
  refine zr_put F 1 19 zd_MD_pick_7 (zW_o hs4 (by decide)) rfl (by decide) zw_1699 rfl rfl rfl rfl (by exact (Nat.le_of_ble_eq_true rfl)) ?_
  obtain ⟨mm6, emm6, h⟩ := zoL_s h
  refine zr_norm (zW tA b sh mm6) _ (by rw [emm6]; exact zW_pI (v := (-1)) hs4 (by decide) (zf_I_1_19 b _ _ _)) rfl ?_
  refine zr_aload_n F zd_MD_pick_10 rfl ?_
  refine zr_pcn 11 rfl ?_
  refine zr_iload_n F zd_MD_pick_11 rfl ?_
  refine zr_iload_n F zd_MD_pick_12 rfl ?_
  obtain ⟨le8, hs7, h⟩ := zoS_s h
  obtain ⟨p9, ep9, h⟩ := zoB_s h
  refine zr_callV1 F (k_MD_isPixel l D tA b sh _ ep9) zd_MD_pick_13 (zW_o hs7 (by decide)) rfl zs_MD_192 rfl zq_MD_isPixel rfl rfl ⟨(Nat.le_of_ble_eq_true rfl), (Nat.le_of_ble_eq_true rfl)⟩ (Nat.le_of_ble_eq_true rfl) ⟨(Nat.le_of_ble_eq_true rfl), (Nat.le_of_ble_eq_true rfl)⟩ ?_
  refine zr_if_ne F 21 zd_MD_pick_16 (by decide) (fun hb10 => ?_) (fun hb10 => ?_)
  ·
    replace h := (if_neg hb10).symm.trans h
    refine zr_aload_n F zd_MD_pick_21 rfl ?_
    obtain ⟨le12, hs11, h⟩ := zoS_s h
    obtain ⟨a13, ea13, h⟩ := zoB_s h
    refine zr_get F 1 8 zd_MD_pick_22 (zW_o hs11 (by decide)) rfl (by decide) zw_1688 rfl (by rfl) ?_
    refine zr_tor ea13 ?_
    refine zr_aload_n F zd_MD_pick_25 rfl ?_
    obtain ⟨le15, hs14, h⟩ := zoS_s h
    obtain ⟨a16, ea16, h⟩ := zoB_s h
    refine zr_get F 1 4 zd_MD_pick_26 (zW_o hs14 (by decide)) rfl (by decide) zw_1684 rfl (by rfl) ?_
    refine zr_tor ea16 ?_
    refine zr_pcn 29 rfl ?_
    refine zr_iload_n F zd_MD_pick_29 rfl ?_
    refine zr_iload_n F zd_MD_pick_30 rfl ?_
    obtain ⟨le18, hs17, h⟩ := zoS_s h
    obtain ⟨p19, ep19, h⟩ := zoB_s h
    refine zr_callV0 F (k_MPainter_pick l D tA b sh _ ep19) zd_MD_pick_31 (zW_o hs17 (by decide)) rfl zs_MD_199 rfl zq_MPainter_pick rfl rfl ⟨(Nat.le_of_ble_eq_true rfl), (Nat.le_of_ble_eq_true rfl)⟩ (Nat.le_of_ble_eq_true rfl) ⟨(Nat.le_of_ble_eq_true rfl), (Nat.le_of_ble_eq_true rfl)⟩ ?_
    refine zr_aload_n F zd_MD_pick_34 rfl ?_
    refine zr_aload_n F zd_MD_pick_35 rfl ?_
    obtain ⟨le21, hs20, h⟩ := zoS_s h
    obtain ⟨a22, ea22, h⟩ := zoB_s h
    refine zr_get F 1 8 zd_MD_pick_36 (zW_o hs20 (by decide)) rfl (by decide) zw_1688 rfl (by rfl) ?_
    refine zr_tor ea22 ?_
    obtain ⟨le24, hs23, h⟩ := zoS_s h
    refine zr_get F 13 12 zd_MD_pick_39 (zW_o hs23 (by decide)) rfl (by decide) zw_1590 rfl (by rfl) ?_
    obtain ⟨x25, ex25, h⟩ := zoL_s h
    rw [← ex25]
    obtain ⟨le27, hs26, h⟩ := zoS_s h
    refine zr_put F 1 19 zd_MD_pick_42 (zW_o hs26 (by decide)) rfl (by decide) zw_1699 rfl rfl rfl rfl (by exact (Nat.le_of_ble_eq_true rfl)) ?_
    obtain ⟨mm28, emm28, h⟩ := zoL_s h
    refine zr_norm (zW tA b sh mm28) _ (by rw [emm28]; exact zW_pI (v := x25) hs26 (by decide) (zf_I_1_19 b _ _ _)) rfl ?_
    refine zr_pcn 45 rfl ?_
    refine zr_aload_n F zd_MD_pick_45 rfl ?_
    obtain ⟨le30, hs29, h⟩ := zoS_s h
    obtain ⟨a31, ea31, h⟩ := zoB_s h
    refine zr_get F 1 8 zd_MD_pick_46 (zW_o hs29 (by decide)) rfl (by decide) zw_1688 rfl (by rfl) ?_
    refine zr_tor ea31 ?_
    obtain ⟨le33, hs32, h⟩ := zoS_s h
    refine zr_get F 13 11 zd_MD_pick_49 (zW_o hs32 (by decide)) rfl (by decide) zw_1588 rfl (by rfl) ?_
    obtain rfl := Option.some.inj h
    exact zr_iret F hr zd_MD_pick_52 (Nat.le_of_ble_eq_true rfl) (Nat.le_of_ble_eq_true rfl) ⟨rfl, rfl, rfl⟩
  ·
    replace h := (if_pos hb10).symm.trans h
    refine zr_iconstv (v := (-1)) F zd_MD_pick_19 (by decide) ?_
    obtain rfl := Option.some.inj h
    exact zr_iret F hr zd_MD_pick_20 (Nat.le_of_ble_eq_true rfl) (Nat.le_of_ble_eq_true rfl) ⟨rfl, rfl, rfl⟩
