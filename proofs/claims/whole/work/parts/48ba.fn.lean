theorem zf_I_0_11 (b : Nat) (m : zMem) (k : Nat) (v : Int32) : (zfl b 0 m k).set 11 (.int v) = zfl b 0 (mI m k 11 v) k := by simp [zfl, mI, upd, vp_updL]
theorem zw_880 : (Jvm.Cond.methodLink "OrreryBox" (201 : Nat) ({ cls := "OrreryBox$Piece", name := "mayCover", desc := "(II)Z" } : Jvm.MethodName)) ∈ gw := gw_t 880 (by decide +kernel) rfl
theorem zw_881 : (Jvm.Cond.instanceMethod ({ cls := "OrreryBox$Piece", name := "mayCover", desc := "(II)Z" } : Jvm.MethodName)) ∈ gw := gw_t 881 (by decide +kernel) rfl
theorem zw_882 : (Jvm.Cond.selects "OrreryBox$Piece" ({ cls := "OrreryBox$Piece", name := "mayCover", desc := "(II)Z" } : Jvm.MethodName) ({ cls := "OrreryBox$Piece", name := "mayCover", desc := "(II)Z" } : Jvm.MethodName)) ∈ gw := gw_t 882 (by decide +kernel) rfl
theorem zs_OB_201 : zwV "OrreryBox" 201 "OrreryBox$Piece" zy_XPiece_mayCover zb_XPiece_mayCover 3 (some .boolean) := ⟨zw_880, zw_881, zw_882, zw_11, zc_XPiece_mayCover⟩
theorem zw_886 : (Jvm.Cond.methodLink "OrreryBox" (206 : Nat) ({ cls := "OrreryBox$Piece", name := "covers", desc := "(II)Z" } : Jvm.MethodName)) ∈ gw := gw_t 886 (by decide +kernel) rfl
theorem zs_OB_206 : zwV "OrreryBox" 206 "OrreryBox$Piece" zy_XPiece_covers zb_XPiece_covers 5 (some .boolean) := ⟨zw_886, zw_818, zw_819, zw_11, zc_XPiece_covers⟩
theorem zw_887 : (Jvm.Cond.methodLink "OrreryBox" (209 : Nat) ({ cls := "OrreryBox$Piece", name := "near", desc := "()J" } : Jvm.MethodName)) ∈ gw := gw_t 887 (by decide +kernel) rfl
theorem zs_OB_209 : zwV "OrreryBox" 209 "OrreryBox$Piece" zy_XPiece_near zb_XPiece_near 1 (some .long) := ⟨zw_887, zw_830, zw_831, zw_11, zc_XPiece_near⟩
theorem zw_888 : (Jvm.Cond.methodLink "OrreryBox" (213 : Nat) ({ cls := "OrreryBox$Sight", name := "nodeNumber", desc := "()I" } : Jvm.MethodName)) ∈ gw := gw_t 888 (by decide +kernel) rfl
theorem zw_889 : (Jvm.Cond.instanceMethod ({ cls := "OrreryBox$Sight", name := "nodeNumber", desc := "()I" } : Jvm.MethodName)) ∈ gw := gw_t 889 (by decide +kernel) rfl
theorem zw_890 : (Jvm.Cond.selects "OrreryBox$Sight" ({ cls := "OrreryBox$Sight", name := "nodeNumber", desc := "()I" } : Jvm.MethodName) ({ cls := "OrreryBox$Sight", name := "nodeNumber", desc := "()I" } : Jvm.MethodName)) ∈ gw := gw_t 890 (by decide +kernel) rfl
theorem zs_OB_213 : zwV "OrreryBox" 213 "OrreryBox$Sight" zy_XSight_nodeNumber zb_XSight_nodeNumber 1 (some .int) := ⟨zw_888, zw_889, zw_890, zw_10, zc_XSight_nodeNumber⟩
theorem zw_374 : (Jvm.Cond.fieldLink "OrreryBox" (216 : Nat) "OrreryBox$Sight" "face" "I") ∈ gw := gw_t 374 (by decide +kernel) rfl
def L_OB_pick_51 (sh : zSh) (fuel : Nat) (v0 : Nat) (v1 : Int32) (v2 : Int32) (v3 : Nat) (v4 : Int32) (v5 : Int64) (v7 : Int32) (mm : zMem) : Option (Nat × Int32 × Int32 × Nat × Int32 × Int64 × Int32 × zMem) := match fuel with
  | 0 => none
  | fu + 1 => (if 36864 ≤ v7 then some (v0, v1, v2, v3, v4, v5, v7, mm) else zoS (sh v0) 0 (fun le31 => Option.bind (mm.2.2 v0 7) (fun a32 => zoS (sh a32) 9 (fun le34 => Option.bind (F_XSight_nextPiece sh mm a32) (fun p35 => (if p35.1 = 0 then some (v0, v1, v2, v3, v4, v5, v7, p35.2) else zoS (sh v3) 6 (fun le38 => Option.bind (F_XPiece_mayCover sh (p35.2) v3 v1 v2) (fun p39 => (if p39.1 = 0 then L_OB_pick_51 sh fu v0 v1 v2 v3 v4 v5 (v7 + 1) (p39.2) else zoS (sh v3) 6 (fun le42 => Option.bind (F_XPiece_covers sh (p39.2) v3 v1 v2) (fun p43 => (if p43.1 = 0 then L_OB_pick_51 sh fu v0 v1 v2 v3 v4 v5 (v7 + 1) (p43.2) else zoS (sh v3) 6 (fun le46 => Option.bind (F_XPiece_near sh (p43.2) v3) (fun p47 => (if (lg_cmp p47.1 v5) ≤ 0 then L_OB_pick_51 sh fu v0 v1 v2 v3 v4 v5 (v7 + 1) (p47.2) else zoS (sh v3) 6 (fun le50 => Option.bind (F_XPiece_near sh (p47.2) v3) (fun p51 => zoS (sh v0) 0 (fun le53 => Option.bind ((p51.2).2.2 v0 7) (fun a54 => zoS (sh a54) 9 (fun le56 => Option.bind (F_XSight_nodeNumber sh (p51.2) a54) (fun p57 => zoS (sh v0) 0 (fun le59 => Option.bind ((p57.2).2.2 v0 7) (fun a60 => zoS (sh a60) 9 (fun le62 => zoL ((p57.2).1 a60 1) (fun x63 => zoS (sh v0) 0 (fun le65 => zoL (mI (p57.2) v0 11 x63) (fun mm66 => L_OB_pick_51 sh fu v0 v1 v2 v3 (p57.1) (p51.1) (v7 + 1) mm66)))))))))))))))))))))))))))
set_option maxHeartbeats 4000000 in
set_option maxRecDepth 100000 in
theorem lp_OB_pick_51 {p : Program} {l : Launch} {e : Env} {s : State} {m : MethodId} {args : Array Value} {below : List Frame} {meth : Method} {c : Code} {D : va_G} {tA : Nat → ClassId} {b n : Nat} {post : Option Value → zV → Nat → Prop} {sh : zSh} (F : zF p s m args meth c zb_OB_pick 8 "OrreryBox" D tA b) : ∀ (fuel : Nat) (v0 : Nat) (v1 : Int32) (v2 : Int32) (v3 : Nat) (v4 : Int32) (v5 : Int64) (v7 : Int32) (mm : zMem) (r : Nat × Int32 × Int32 × Nat × Int32 × Int64 × Int32 × zMem), L_OB_pick_51 sh fuel v0 v1 v2 v3 v4 v5 v7 mm = some r → (Z p l e { frames := 6, cells := 0, slots := 0, locals := 155 } s m args below meth c D b 8 (MQ below (zQ D b post) args s 0 0 (fun q => b ≤ q)) (zW tA b sh r.2.2.2.2.2.2.2) n 0 0 128 [(0, .ref (b + (r.1))), (1, .int (r.2.1)), (2, .int (r.2.2.1)), (3, .ref (b + (r.2.2.2.1))), (4, .int (r.2.2.2.2.1)), (5, .long (r.2.2.2.2.2.1)), (7, .int (r.2.2.2.2.2.2.1))] []) → Z p l e { frames := 6, cells := 0, slots := 0, locals := 155 } s m args below meth c D b 8 (MQ below (zQ D b post) args s 0 0 (fun q => b ≤ q)) (zW tA b sh mm) n 0 0 51 [(0, .ref (b + v0)), (1, .int v1), (2, .int v2), (3, .ref (b + v3)), (4, .int v4), (5, .long v5), (7, .int v7)] [] := by
  intro fuel
  induction fuel with
  | zero =>
    intro v0 v1 v2 v3 v4 v5 v7 mm r h
    cases h
  | succ fu ih =>
    intro v0 v1 v2 v3 v4 v5 v7 mm r h hx0
    rw [L_OB_pick_51] at h
    refine zr_iload F zd_OB_pick_51 rfl ?_
    refine zr_ldc F zd_OB_pick_53 zw_696 ?_
    refine zr_icmp_ge F 128 zd_OB_pick_55 (by decide) (fun hb29 => ?_) (fun hb29 => ?_)
    ·
      replace h := (if_pos hb29).symm.trans h
      obtain rfl := Option.some.inj h
      refine zr_loc (L' := [(0, .ref (b + v0)), (1, .int v1), (2, .int v2), (3, .ref (b + v3)), (4, .int v4), (5, .long v5), (7, .int v7)]) ⟨rfl, rfl, rfl, rfl, rfl, rfl, rfl, trivial⟩ ?_
      exact hx0 
    ·
      replace h := (if_neg hb29).symm.trans h
      refine zr_aload_n F zd_OB_pick_58 rfl ?_
      obtain ⟨le31, hs30, h⟩ := zoS_s h
      obtain ⟨a32, ea32, h⟩ := zoB_s h
      refine zr_get F 0 7 zd_OB_pick_59 (zW_o hs30 (by decide)) rfl (by decide) zw_495 rfl (by rfl) ?_
      refine zr_tor ea32 ?_
      refine zr_pcn 62 rfl ?_
      obtain ⟨le34, hs33, h⟩ := zoS_s h
      obtain ⟨p35, ep35, h⟩ := zoB_s h
      refine zr_callV1 F (k_XSight_nextPiece l D tA b sh _ ep35) zd_OB_pick_62 (zW_o hs33 (by decide)) rfl zs_OB_163 rfl zq_XSight_nextPiece rfl rfl ⟨(Nat.le_of_ble_eq_true rfl), (Nat.le_of_ble_eq_true rfl)⟩ (Nat.le_of_ble_eq_true rfl) ⟨(Nat.le_of_ble_eq_true rfl), (Nat.le_of_ble_eq_true rfl)⟩ ?_
      refine zr_if_eq F 128 zd_OB_pick_65 (by decide) (fun hb36 => ?_) (fun hb36 => ?_)
      ·
        replace h := (if_pos hb36).symm.trans h
        obtain rfl := Option.some.inj h
        refine zr_loc (L' := [(0, .ref (b + v0)), (1, .int v1), (2, .int v2), (3, .ref (b + v3)), (4, .int v4), (5, .long v5), (7, .int v7)]) ⟨rfl, rfl, rfl, rfl, rfl, rfl, rfl, trivial⟩ ?_
        exact hx0 
      ·
        replace h := (if_neg hb36).symm.trans h
        refine zr_aload_n F zd_OB_pick_68 rfl ?_
        refine zr_iload_n F zd_OB_pick_69 rfl ?_
        refine zr_iload_n F zd_OB_pick_70 rfl ?_
        obtain ⟨le38, hs37, h⟩ := zoS_s h
        obtain ⟨p39, ep39, h⟩ := zoB_s h
        refine zr_callV1 F (k_XPiece_mayCover l D tA b sh _ ep39) zd_OB_pick_71 (zW_o hs37 (by decide)) rfl zs_OB_201 rfl zq_XPiece_mayCover rfl rfl ⟨(Nat.le_of_ble_eq_true rfl), (Nat.le_of_ble_eq_true rfl)⟩ (Nat.le_of_ble_eq_true rfl) ⟨(Nat.le_of_ble_eq_true rfl), (Nat.le_of_ble_eq_true rfl)⟩ ?_
        refine zr_if_eq F 122 zd_OB_pick_74 (by decide) (fun hb40 => ?_) (fun hb40 => ?_)
        ·
          replace h := (if_pos hb40).symm.trans h
          refine zr_iinc (v := (v7 + 1)) F zd_OB_pick_122 rfl rfl (by decide) ?_
          refine zr_pcn 125 rfl ?_
          refine zr_goto F 51 zd_OB_pick_125 (by decide) ?_
          refine zr_loc (L' := [(0, .ref (b + v0)), (1, .int v1), (2, .int v2), (3, .ref (b + v3)), (4, .int v4), (5, .long v5), (7, .int (v7 + 1))]) ⟨rfl, rfl, rfl, rfl, rfl, rfl, rfl, trivial⟩ ?_
          exact ih _ _ _ _ _ _ _ _ _ h hx0
        ·
          replace h := (if_neg hb40).symm.trans h
          refine zr_aload_n F zd_OB_pick_77 rfl ?_
          refine zr_iload_n F zd_OB_pick_78 rfl ?_
          refine zr_iload_n F zd_OB_pick_79 rfl ?_
          obtain ⟨le42, hs41, h⟩ := zoS_s h
          obtain ⟨p43, ep43, h⟩ := zoB_s h
          refine zr_callV1 F (k_XPiece_covers l D tA b sh _ ep43) zd_OB_pick_80 (zW_o hs41 (by decide)) rfl zs_OB_206 rfl zq_XPiece_covers rfl rfl ⟨(Nat.le_of_ble_eq_true rfl), (Nat.le_of_ble_eq_true rfl)⟩ (Nat.le_of_ble_eq_true rfl) ⟨(Nat.le_of_ble_eq_true rfl), (Nat.le_of_ble_eq_true rfl)⟩ ?_
          refine zr_if_eq F 122 zd_OB_pick_83 (by decide) (fun hb44 => ?_) (fun hb44 => ?_)
          ·
            replace h := (if_pos hb44).symm.trans h
            refine zr_iinc (v := (v7 + 1)) F zd_OB_pick_122 rfl rfl (by decide) ?_
            refine zr_goto F 51 zd_OB_pick_125 (by decide) ?_
            refine zr_loc (L' := [(0, .ref (b + v0)), (1, .int v1), (2, .int v2), (3, .ref (b + v3)), (4, .int v4), (5, .long v5), (7, .int (v7 + 1))]) ⟨rfl, rfl, rfl, rfl, rfl, rfl, rfl, trivial⟩ ?_
            exact ih _ _ _ _ _ _ _ _ _ h hx0
          ·
            replace h := (if_neg hb44).symm.trans h
            refine zr_pcn 86 rfl ?_
            refine zr_aload_n F zd_OB_pick_86 rfl ?_
            obtain ⟨le46, hs45, h⟩ := zoS_s h
            obtain ⟨p47, ep47, h⟩ := zoB_s h
            refine zr_callV1 F (k_XPiece_near l D tA b sh _ ep47) zd_OB_pick_87 (zW_o hs45 (by decide)) rfl zs_OB_209 rfl zq_XPiece_near rfl rfl ⟨(Nat.le_of_ble_eq_true rfl), (Nat.le_of_ble_eq_true rfl)⟩ (Nat.le_of_ble_eq_true rfl) ⟨(Nat.le_of_ble_eq_true rfl), (Nat.le_of_ble_eq_true rfl)⟩ ?_
            refine zr_lload F zd_OB_pick_90 rfl ?_
            refine zr_lcmp F zd_OB_pick_92 ?_
            refine zr_if_le F 122 zd_OB_pick_93 (by decide) (fun hb48 => ?_) (fun hb48 => ?_)
            ·
              replace h := (if_pos hb48).symm.trans h
              refine zr_iinc (v := (v7 + 1)) F zd_OB_pick_122 rfl rfl (by decide) ?_
              refine zr_goto F 51 zd_OB_pick_125 (by decide) ?_
              refine zr_loc (L' := [(0, .ref (b + v0)), (1, .int v1), (2, .int v2), (3, .ref (b + v3)), (4, .int v4), (5, .long v5), (7, .int (v7 + 1))]) ⟨rfl, rfl, rfl, rfl, rfl, rfl, rfl, trivial⟩ ?_
              exact ih _ _ _ _ _ _ _ _ _ h hx0
            ·
              replace h := (if_neg hb48).symm.trans h
              refine zr_aload_n F zd_OB_pick_96 rfl ?_
              refine zr_pcn 97 rfl ?_
              obtain ⟨le50, hs49, h⟩ := zoS_s h
              obtain ⟨p51, ep51, h⟩ := zoB_s h
              refine zr_callV1 F (k_XPiece_near l D tA b sh _ ep51) zd_OB_pick_97 (zW_o hs49 (by decide)) rfl zs_OB_209 rfl zq_XPiece_near rfl rfl ⟨(Nat.le_of_ble_eq_true rfl), (Nat.le_of_ble_eq_true rfl)⟩ (Nat.le_of_ble_eq_true rfl) ⟨(Nat.le_of_ble_eq_true rfl), (Nat.le_of_ble_eq_true rfl)⟩ ?_
              refine zr_lstore F zd_OB_pick_100 (by decide) ?_
              refine zr_aload_n F zd_OB_pick_102 rfl ?_
              obtain ⟨le53, hs52, h⟩ := zoS_s h
              obtain ⟨a54, ea54, h⟩ := zoB_s h
              refine zr_get F 0 7 zd_OB_pick_103 (zW_o hs52 (by decide)) rfl (by decide) zw_495 rfl (by rfl) ?_
              refine zr_tor ea54 ?_
              obtain ⟨le56, hs55, h⟩ := zoS_s h
              obtain ⟨p57, ep57, h⟩ := zoB_s h
              refine zr_callV1 F (k_XSight_nodeNumber l D tA b sh _ ep57) zd_OB_pick_106 (zW_o hs55 (by decide)) rfl zs_OB_213 rfl zq_XSight_nodeNumber rfl rfl ⟨(Nat.le_of_ble_eq_true rfl), (Nat.le_of_ble_eq_true rfl)⟩ (Nat.le_of_ble_eq_true rfl) ⟨(Nat.le_of_ble_eq_true rfl), (Nat.le_of_ble_eq_true rfl)⟩ ?_
              refine zr_istore F zd_OB_pick_109 (by decide) ?_
              refine zr_aload_n F zd_OB_pick_111 rfl ?_
              refine zr_aload_n F zd_OB_pick_112 rfl ?_
              refine zr_pcn 113 rfl ?_
              obtain ⟨le59, hs58, h⟩ := zoS_s h
              obtain ⟨a60, ea60, h⟩ := zoB_s h
              refine zr_get F 0 7 zd_OB_pick_113 (zW_o hs58 (by decide)) rfl (by decide) zw_495 rfl (by rfl) ?_
              refine zr_tor ea60 ?_
              obtain ⟨le62, hs61, h⟩ := zoS_s h
              refine zr_get F 9 1 zd_OB_pick_116 (zW_o hs61 (by decide)) rfl (by decide) zw_374 rfl (by rfl) ?_
              obtain ⟨x63, ex63, h⟩ := zoL_s h
              rw [← ex63]
              obtain ⟨le65, hs64, h⟩ := zoS_s h
              refine zr_put F 0 11 zd_OB_pick_119 (zW_o hs64 (by decide)) rfl (by decide) zw_499 rfl rfl rfl rfl (by exact (Nat.le_of_ble_eq_true rfl)) ?_
              obtain ⟨mm66, emm66, h⟩ := zoL_s h
              refine zr_norm (zW tA b sh mm66) _ (by rw [emm66]; exact zW_pI (v := x63) hs64 (by decide) (zf_I_0_11 b _ _ _)) rfl ?_
              refine zr_iinc (v := (v7 + 1)) F zd_OB_pick_122 rfl rfl (by decide) ?_
              refine zr_loc (L' := [(0, .ref (b + v0)), (1, .int v1), (2, .int v2), (3, .ref (b + v3)), (4, .int (p57.1)), (5, .long (p51.1)), (7, .int (v7 + 1))]) ⟨rfl, rfl, rfl, rfl, rfl, rfl, rfl, trivial⟩ ?_
              refine zr_goto F 51 zd_OB_pick_125 (by decide) ?_
              refine zr_loc (L' := [(0, .ref (b + v0)), (1, .int v1), (2, .int v2), (3, .ref (b + v3)), (4, .int (p57.1)), (5, .long (p51.1)), (7, .int (v7 + 1))]) ⟨rfl, rfl, rfl, rfl, rfl, rfl, rfl, trivial⟩ ?_
              exact ih _ _ _ _ _ _ _ _ _ h hx0
def F_OB_pick (sh : zSh) (mm : zMem) (o : Nat) (x0_ : Int32) (x1_ : Int32) : Option (Int32 × zMem) := zoS (sh o) 0 (fun le2 => zoL (mI mm o 11 (-1)) (fun mm3 => zoS (sh o) 0 (fun le5 => Option.bind (F_OB_hasPixel sh mm3 o x0_ x1_) (fun p6 => (if p6.1 = 0 then some ((-1), p6.2) else zoS (sh o) 0 (fun le9 => Option.bind ((p6.2).2.2 o 5) (fun a10 => zoS (sh a10) 8 (fun le12 => Option.bind (F_XScene_placeNodes sh (p6.2) a10) (fun p13 => zoS (sh o) 0 (fun le15 => Option.bind (p13.2.2 o 7) (fun a16 => zoS (sh o) 0 (fun le18 => Option.bind (p13.2.2 o 5) (fun a19 => zoS (sh a16) 9 (fun le21 => Option.bind (F_XSight_stand sh p13 a16 a19) (fun p22 => zoS (sh o) 0 (fun le24 => Option.bind (p22.2.2 o 7) (fun a25 => zoS (sh a25) 9 (fun le27 => Option.bind (p22.2.2 a25 0) (fun a28 => Option.bind (L_OB_pick_51 sh zfuel o x0_ x1_ a28 (-1) 0 0 p22) (fun q67 => some (q67.2.2.2.2.1, q67.2.2.2.2.2.2.2)))))))))))))))))))))
set_option maxHeartbeats 4000000 in
set_option maxRecDepth 100000 in
theorem k_OB_pick (l : Launch) (D : va_G) (tA : Nat → ClassId) (b : Nat) (sh : zSh) (n : Nat) {mm : zMem} {o : Nat} {x0_ : Int32} {x1_ : Int32} {r : (Int32 × zMem)} (h : F_OB_pick sh mm o x0_ x1_ = some r) : zM l D tA b zy_OB_pick zb_OB_pick 8 (some .int) 6 155 0 0 [.ref (b + o), .int x0_, .int x1_] (zW tA b sh mm) n (zE (some (.int (r.1))) (zW tA b sh r.2) n) := by
  unfold F_OB_pick at h
  refine zM_of (own := "OrreryBox") (plainFor_of_name (by decide)) rfl (Nat.le_of_ble_eq_true rfl) (fun p e s m below meth c F hr hin hH => ?_)
  refine zr_aload_n F zd_OB_pick_0 rfl ?_
  refine zr_iconstv (v := (-1)) F zd_OB_pick_1 (by decide) ?_
  obtain ⟨le2, hs1, h⟩ := zoS_s h
  refine zr_put F 0 11 zd_OB_pick_2 (zW_o hs1 (by decide)) rfl (by decide) zw_499 rfl rfl rfl rfl (by exact (Nat.le_of_ble_eq_true rfl)) ?_
  obtain ⟨mm3, emm3, h⟩ := zoL_s h
  refine zr_norm (zW tA b sh mm3) _ (by rw [emm3]; exact zW_pI (v := (-1)) hs1 (by decide) (zf_I_0_11 b _ _ _)) rfl ?_
  refine zr_aload_n F zd_OB_pick_5 rfl ?_
  refine zr_iload_n F zd_OB_pick_6 rfl ?_
  refine zr_iload_n F zd_OB_pick_7 rfl ?_
  obtain ⟨le5, hs4, h⟩ := zoS_s h
  obtain ⟨p6, ep6, h⟩ := zoB_s h
  refine zr_callV1 F (k_OB_hasPixel l D tA b sh _ ep6) zd_OB_pick_8 (zW_o hs4 (by decide)) rfl zs_OB_188 rfl zq_OB_hasPixel rfl rfl ⟨(Nat.le_of_ble_eq_true rfl), (Nat.le_of_ble_eq_true rfl)⟩ (Nat.le_of_ble_eq_true rfl) ⟨(Nat.le_of_ble_eq_true rfl), (Nat.le_of_ble_eq_true rfl)⟩ ?_
  refine zr_pcn 11 rfl ?_
  refine zr_if_ne F 16 zd_OB_pick_11 (by decide) (fun hb7 => ?_) (fun hb7 => ?_)
  ·
    replace h := (if_neg hb7).symm.trans h
    refine zr_aload_n F zd_OB_pick_16 rfl ?_
    obtain ⟨le9, hs8, h⟩ := zoS_s h
    obtain ⟨a10, ea10, h⟩ := zoB_s h
    refine zr_get F 0 5 zd_OB_pick_17 (zW_o hs8 (by decide)) rfl (by decide) zw_493 rfl (by rfl) ?_
    refine zr_tor ea10 ?_
    obtain ⟨le12, hs11, h⟩ := zoS_s h
    obtain ⟨p13, ep13, h⟩ := zoB_s h
    refine zr_callV0 F (k_XScene_placeNodes l D tA b sh _ ep13) zd_OB_pick_20 (zW_o hs11 (by decide)) rfl zs_OB_148 rfl zq_XScene_placeNodes rfl rfl ⟨(Nat.le_of_ble_eq_true rfl), (Nat.le_of_ble_eq_true rfl)⟩ (Nat.le_of_ble_eq_true rfl) ⟨(Nat.le_of_ble_eq_true rfl), (Nat.le_of_ble_eq_true rfl)⟩ ?_
    refine zr_aload_n F zd_OB_pick_23 rfl ?_
    obtain ⟨le15, hs14, h⟩ := zoS_s h
    obtain ⟨a16, ea16, h⟩ := zoB_s h
    refine zr_get F 0 7 zd_OB_pick_24 (zW_o hs14 (by decide)) rfl (by decide) zw_495 rfl (by rfl) ?_
    refine zr_tor ea16 ?_
    refine zr_aload_n F zd_OB_pick_27 rfl ?_
    obtain ⟨le18, hs17, h⟩ := zoS_s h
    obtain ⟨a19, ea19, h⟩ := zoB_s h
    refine zr_get F 0 5 zd_OB_pick_28 (zW_o hs17 (by decide)) rfl (by decide) zw_493 rfl (by rfl) ?_
    refine zr_tor ea19 ?_
    refine zr_pcn 31 rfl ?_
    obtain ⟨le21, hs20, h⟩ := zoS_s h
    obtain ⟨p22, ep22, h⟩ := zoB_s h
    refine zr_callV0 F (k_XSight_stand l D tA b sh _ ep22) zd_OB_pick_31 (zW_o hs20 (by decide)) rfl zs_OB_154 rfl zq_XSight_stand rfl rfl ⟨(Nat.le_of_ble_eq_true rfl), (Nat.le_of_ble_eq_true rfl)⟩ (Nat.le_of_ble_eq_true rfl) ⟨(Nat.le_of_ble_eq_true rfl), (Nat.le_of_ble_eq_true rfl)⟩ ?_
    refine zr_aload_n F zd_OB_pick_34 rfl ?_
    obtain ⟨le24, hs23, h⟩ := zoS_s h
    obtain ⟨a25, ea25, h⟩ := zoB_s h
    refine zr_get F 0 7 zd_OB_pick_35 (zW_o hs23 (by decide)) rfl (by decide) zw_495 rfl (by rfl) ?_
    refine zr_tor ea25 ?_
    obtain ⟨le27, hs26, h⟩ := zoS_s h
    obtain ⟨a28, ea28, h⟩ := zoB_s h
    refine zr_get F 9 0 zd_OB_pick_38 (zW_o hs26 (by decide)) rfl (by decide) zw_372 rfl (by rfl) ?_
    refine zr_tor ea28 ?_
    refine zr_astore_n F zd_OB_pick_41 (by decide) ?_
    refine zr_iconstv (v := (-1)) F zd_OB_pick_42 (by decide) ?_
    refine zr_istore F zd_OB_pick_43 (by decide) ?_
    refine zr_lconstv (v := 0) F zd_OB_pick_45 (by decide) ?_
    refine zr_pcn 46 rfl ?_
    refine zr_lstore F zd_OB_pick_46 (by decide) ?_
    refine zr_loc (L' := [(0, .ref (b + o)), (1, .int x0_), (2, .int x1_), (3, .ref (b + a28)), (4, .int (-1)), (5, .long 0)]) ⟨rfl, rfl, rfl, rfl, rfl, rfl, trivial⟩ ?_
    refine zr_iconstv (v := 0) F zd_OB_pick_48 (by decide) ?_
    refine zr_istore F zd_OB_pick_49 (by decide) ?_
    obtain ⟨q67, eq67, h⟩ := zoB_s h
    refine zr_loc (L' := [(0, .ref (b + o)), (1, .int x0_), (2, .int x1_), (3, .ref (b + a28)), (4, .int (-1)), (5, .long 0), (7, .int 0)]) ⟨rfl, rfl, rfl, rfl, rfl, rfl, rfl, trivial⟩ ?_
    refine lp_OB_pick_51 F _ _ _ _ _ _ _ _ _ _ eq67 ?_
    ·
      refine zr_iload F zd_OB_pick_128 rfl ?_
      obtain rfl := Option.some.inj h
      exact zr_iret F hr zd_OB_pick_130 (Nat.le_of_ble_eq_true rfl) (Nat.le_of_ble_eq_true rfl) ⟨rfl, rfl, rfl⟩
  ·
    replace h := (if_pos hb7).symm.trans h
    refine zr_iconstv (v := (-1)) F zd_OB_pick_14 (by decide) ?_
    refine zr_pcn 15 rfl ?_
    obtain rfl := Option.some.inj h
    exact zr_iret F hr zd_OB_pick_15 (Nat.le_of_ble_eq_true rfl) (Nat.le_of_ble_eq_true rfl) ⟨rfl, rfl, rfl⟩
theorem zw_904 : (Jvm.Cond.methodLink "OrreryBox" (222 : Nat) ({ cls := "OrreryBox$Packer", name := "write", desc := "([III)V" } : Jvm.MethodName)) ∈ gw := gw_t 904 (by decide +kernel) rfl
theorem zw_905 : (Jvm.Cond.instanceMethod ({ cls := "OrreryBox$Packer", name := "write", desc := "([III)V" } : Jvm.MethodName)) ∈ gw := gw_t 905 (by decide +kernel) rfl
theorem zw_906 : (Jvm.Cond.selects "OrreryBox$Packer" ({ cls := "OrreryBox$Packer", name := "write", desc := "([III)V" } : Jvm.MethodName) ({ cls := "OrreryBox$Packer", name := "write", desc := "([III)V" } : Jvm.MethodName)) ∈ gw := gw_t 906 (by decide +kernel) rfl
theorem zs_OB_222 : zwV "OrreryBox" 222 "OrreryBox$Packer" zy_XPacker_write zb_XPacker_write 5 none := ⟨zw_904, zw_905, zw_906, zw_3, zc_XPacker_write⟩
def F_OB_file (sh : zSh) (mm : zMem) (o : Nat) : Option (Int32 × zMem) := zoS (sh o) 0 (fun le2 => Option.bind (mm.2.2 o 8) (fun a3 => zoS (sh a3) 5 (fun le5 => Option.bind (F_XPicture_isWhole sh mm a3) (fun p6 => (if p6.1 = 0 then some ((-1), p6.2) else zoS (sh o) 0 (fun le9 => Option.bind ((p6.2).2.2 o 9) (fun a10 => zoS (sh o) 0 (fun le12 => Option.bind ((p6.2).2.2 o 8) (fun a13 => zoS (sh a13) 5 (fun le15 => Option.bind ((p6.2).2.2 a13 1) (fun a16 => zoS (sh o) 0 (fun le18 => zoS (sh o) 0 (fun le20 => zoS (sh a10) 4 (fun le22 => Option.bind (F_XPacker_write sh (p6.2) a10 a16 ((p6.2).1 o 0) ((p6.2).1 o 1)) (fun p23 => zoS (sh o) 0 (fun le25 => Option.bind (p23.2.2 o 9) (fun a26 => zoS (sh a26) 4 (fun le28 => some ((p23.1 a26 1), p23)))))))))))))))))))
set_option maxHeartbeats 4000000 in
set_option maxRecDepth 100000 in
theorem k_OB_file (l : Launch) (D : va_G) (tA : Nat → ClassId) (b : Nat) (sh : zSh) (n : Nat) {mm : zMem} {o : Nat} {r : (Int32 × zMem)} (h : F_OB_file sh mm o = some r) : zM l D tA b zy_OB_file zb_OB_file 1 (some .int) 7 173 0 0 [.ref (b + o)] (zW tA b sh mm) n (zE (some (.int (r.1))) (zW tA b sh r.2) n) := by
  unfold F_OB_file at h
  refine zM_of (own := "OrreryBox") (plainFor_of_name (by decide)) rfl (Nat.le_of_ble_eq_true rfl) (fun p e s m below meth c F hr hin hH => ?_)
  refine zr_aload_n F zd_OB_file_0 rfl ?_
  obtain ⟨le2, hs1, h⟩ := zoS_s h
  obtain ⟨a3, ea3, h⟩ := zoB_s h
  refine zr_get F 0 8 zd_OB_file_1 (zW_o hs1 (by decide)) rfl (by decide) zw_496 rfl (by rfl) ?_
  refine zr_tor ea3 ?_
  obtain ⟨le5, hs4, h⟩ := zoS_s h
  obtain ⟨p6, ep6, h⟩ := zoB_s h
  refine zr_callV1 F (k_XPicture_isWhole l D tA b sh _ ep6) zd_OB_file_4 (zW_o hs4 (by decide)) rfl zs_OB_219 rfl zq_XPicture_isWhole rfl rfl ⟨(Nat.le_of_ble_eq_true rfl), (Nat.le_of_ble_eq_true rfl)⟩ (Nat.le_of_ble_eq_true rfl) ⟨(Nat.le_of_ble_eq_true rfl), (Nat.le_of_ble_eq_true rfl)⟩ ?_
  refine zr_if_ne F 12 zd_OB_file_7 (by decide) (fun hb7 => ?_) (fun hb7 => ?_)
  ·
    replace h := (if_neg hb7).symm.trans h
    refine zr_aload_n F zd_OB_file_12 rfl ?_
    obtain ⟨le9, hs8, h⟩ := zoS_s h
    obtain ⟨a10, ea10, h⟩ := zoB_s h
    refine zr_get F 0 9 zd_OB_file_13 (zW_o hs8 (by decide)) rfl (by decide) zw_497 rfl (by rfl) ?_
    refine zr_tor ea10 ?_
    refine zr_aload_n F zd_OB_file_16 rfl ?_
    refine zr_pcn 17 rfl ?_
    obtain ⟨le12, hs11, h⟩ := zoS_s h
    obtain ⟨a13, ea13, h⟩ := zoB_s h
    refine zr_get F 0 8 zd_OB_file_17 (zW_o hs11 (by decide)) rfl (by decide) zw_496 rfl (by rfl) ?_
    refine zr_tor ea13 ?_
    obtain ⟨le15, hs14, h⟩ := zoS_s h
    obtain ⟨a16, ea16, h⟩ := zoB_s h
    refine zr_get F 5 1 zd_OB_file_20 (zW_o hs14 (by decide)) rfl (by decide) zw_432 rfl (by rfl) ?_
    refine zr_tor ea16 ?_
    refine zr_aload_n F zd_OB_file_23 rfl ?_
    obtain ⟨le18, hs17, h⟩ := zoS_s h
    refine zr_get F 0 0 zd_OB_file_24 (zW_o hs17 (by decide)) rfl (by decide) zw_488 rfl (by rfl) ?_
    refine zr_aload_n F zd_OB_file_27 rfl ?_
    obtain ⟨le20, hs19, h⟩ := zoS_s h
    refine zr_get F 0 1 zd_OB_file_28 (zW_o hs19 (by decide)) rfl (by decide) zw_489 rfl (by rfl) ?_
    obtain ⟨le22, hs21, h⟩ := zoS_s h
    obtain ⟨p23, ep23, h⟩ := zoB_s h
    refine zr_callV0 F (k_XPacker_write l D tA b sh _ ep23) zd_OB_file_31 (zW_o hs21 (by decide)) rfl zs_OB_222 rfl zq_XPacker_write rfl rfl ⟨(Nat.le_of_ble_eq_true rfl), (Nat.le_of_ble_eq_true rfl)⟩ (Nat.le_of_ble_eq_true rfl) ⟨(Nat.le_of_ble_eq_true rfl), (Nat.le_of_ble_eq_true rfl)⟩ ?_
    refine zr_aload_n F zd_OB_file_34 rfl ?_
    refine zr_pcn 35 rfl ?_
    obtain ⟨le25, hs24, h⟩ := zoS_s h
    obtain ⟨a26, ea26, h⟩ := zoB_s h
    refine zr_get F 0 9 zd_OB_file_35 (zW_o hs24 (by decide)) rfl (by decide) zw_497 rfl (by rfl) ?_
    refine zr_tor ea26 ?_
    obtain ⟨le28, hs27, h⟩ := zoS_s h
    refine zr_get F 4 1 zd_OB_file_38 (zW_o hs27 (by decide)) rfl (by decide) zw_84 rfl (by rfl) ?_
    obtain rfl := Option.some.inj h
    exact zr_iret F hr zd_OB_file_41 (Nat.le_of_ble_eq_true rfl) (Nat.le_of_ble_eq_true rfl) ⟨rfl, rfl, rfl⟩
  ·
    replace h := (if_pos hb7).symm.trans h
    refine zr_iconstv (v := (-1)) F zd_OB_file_10 (by decide) ?_
    obtain rfl := Option.some.inj h
    exact zr_iret F hr zd_OB_file_11 (Nat.le_of_ble_eq_true rfl) (Nat.le_of_ble_eq_true rfl) ⟨rfl, rfl, rfl⟩
abbrev zb_XPicture_drawTile : ByteArray := prog_6_method_7_code
def zy_XPicture_drawTile : MethodName := ⟨"OrreryBox$Picture", "drawTile", "(I)V"⟩
theorem zc_XPicture_drawTile : Cond.code zy_XPicture_drawTile zb_XPicture_drawTile 3 none ∈ gw := gw_t 779 (by decide +kernel) rfl
theorem zq_XPicture_drawTile : zy_XPicture_drawTile.cls ≠ "java/lang/invoke/MethodHandle" ∧ zy_XPicture_drawTile.cls ≠ "java/lang/invoke/VarHandle" ∧ (parseMethodDescriptor zy_XPicture_drawTile.desc).map (fun d => d.parameters.length) = some 1 := by decide +kernel
theorem zd_XPicture_drawTile_0 : decode zb_XPicture_drawTile 0 = .ok (.aload_n 0, 1) := by decide +kernel
theorem zd_XPicture_drawTile_1 : decode zb_XPicture_drawTile 1 = .ok (.iload_n 1, 1) := by decide +kernel
theorem zd_XPicture_drawTile_2 : decode zb_XPicture_drawTile 2 = .ok (.aload_n 0, 1) := by decide +kernel
theorem zd_XPicture_drawTile_3 : decode zb_XPicture_drawTile 3 = .ok (.getfield 35, 3) := by decide +kernel
theorem zd_XPicture_drawTile_6 : decode zb_XPicture_drawTile 6 = .ok (.irem, 1) := by decide +kernel
theorem zd_XPicture_drawTile_7 : decode zb_XPicture_drawTile 7 = .ok (.bipush 8, 2) := by decide +kernel
theorem zd_XPicture_drawTile_9 : decode zb_XPicture_drawTile 9 = .ok (.imul, 1) := by decide +kernel
theorem zd_XPicture_drawTile_10 : decode zb_XPicture_drawTile 10 = .ok (.putfield 69, 3) := by decide +kernel
theorem zd_XPicture_drawTile_13 : decode zb_XPicture_drawTile 13 = .ok (.aload_n 0, 1) := by decide +kernel
theorem zd_XPicture_drawTile_14 : decode zb_XPicture_drawTile 14 = .ok (.iload_n 1, 1) := by decide +kernel
theorem zd_XPicture_drawTile_15 : decode zb_XPicture_drawTile 15 = .ok (.aload_n 0, 1) := by decide +kernel
theorem zd_XPicture_drawTile_16 : decode zb_XPicture_drawTile 16 = .ok (.getfield 35, 3) := by decide +kernel
theorem zd_XPicture_drawTile_19 : decode zb_XPicture_drawTile 19 = .ok (.idiv, 1) := by decide +kernel
theorem zd_XPicture_drawTile_20 : decode zb_XPicture_drawTile 20 = .ok (.bipush 8, 2) := by decide +kernel
theorem zd_XPicture_drawTile_22 : decode zb_XPicture_drawTile 22 = .ok (.imul, 1) := by decide +kernel
theorem zd_XPicture_drawTile_23 : decode zb_XPicture_drawTile 23 = .ok (.putfield 72, 3) := by decide +kernel
theorem zd_XPicture_drawTile_26 : decode zb_XPicture_drawTile 26 = .ok (.aload_n 0, 1) := by decide +kernel
theorem zd_XPicture_drawTile_27 : decode zb_XPicture_drawTile 27 = .ok (.aload_n 0, 1) := by decide +kernel
theorem zd_XPicture_drawTile_28 : decode zb_XPicture_drawTile 28 = .ok (.getfield 69, 3) := by decide +kernel
theorem zd_XPicture_drawTile_31 : decode zb_XPicture_drawTile 31 = .ok (.bipush 8, 2) := by decide +kernel
theorem zd_XPicture_drawTile_33 : decode zb_XPicture_drawTile 33 = .ok (.iadd, 1) := by decide +kernel
theorem zd_XPicture_drawTile_34 : decode zb_XPicture_drawTile 34 = .ok (.aload_n 0, 1) := by decide +kernel
theorem zd_XPicture_drawTile_35 : decode zb_XPicture_drawTile 35 = .ok (.getfield 28, 3) := by decide +kernel
theorem zd_XPicture_drawTile_38 : decode zb_XPicture_drawTile 38 = .ok (.invokestatic 75, 3) := by decide +kernel
theorem zd_XPicture_drawTile_41 : decode zb_XPicture_drawTile 41 = .ok (.iconst 1, 1) := by decide +kernel
theorem zd_XPicture_drawTile_42 : decode zb_XPicture_drawTile 42 = .ok (.isub, 1) := by decide +kernel
theorem zd_XPicture_drawTile_43 : decode zb_XPicture_drawTile 43 = .ok (.putfield 81, 3) := by decide +kernel
theorem zd_XPicture_drawTile_46 : decode zb_XPicture_drawTile 46 = .ok (.aload_n 0, 1) := by decide +kernel
theorem zd_XPicture_drawTile_47 : decode zb_XPicture_drawTile 47 = .ok (.aload_n 0, 1) := by decide +kernel
theorem zd_XPicture_drawTile_48 : decode zb_XPicture_drawTile 48 = .ok (.getfield 72, 3) := by decide +kernel
theorem zd_XPicture_drawTile_51 : decode zb_XPicture_drawTile 51 = .ok (.bipush 8, 2) := by decide +kernel
theorem zd_XPicture_drawTile_53 : decode zb_XPicture_drawTile 53 = .ok (.iadd, 1) := by decide +kernel
theorem zd_XPicture_drawTile_54 : decode zb_XPicture_drawTile 54 = .ok (.aload_n 0, 1) := by decide +kernel
theorem zd_XPicture_drawTile_55 : decode zb_XPicture_drawTile 55 = .ok (.getfield 32, 3) := by decide +kernel
theorem zd_XPicture_drawTile_58 : decode zb_XPicture_drawTile 58 = .ok (.invokestatic 75, 3) := by decide +kernel
theorem zd_XPicture_drawTile_61 : decode zb_XPicture_drawTile 61 = .ok (.iconst 1, 1) := by decide +kernel
theorem zd_XPicture_drawTile_62 : decode zb_XPicture_drawTile 62 = .ok (.isub, 1) := by decide +kernel
theorem zd_XPicture_drawTile_63 : decode zb_XPicture_drawTile 63 = .ok (.putfield 84, 3) := by decide +kernel
theorem zd_XPicture_drawTile_66 : decode zb_XPicture_drawTile 66 = .ok (.aload_n 0, 1) := by decide +kernel
theorem zd_XPicture_drawTile_67 : decode zb_XPicture_drawTile 67 = .ok (.invokevirtual 87, 3) := by decide +kernel
theorem zd_XPicture_drawTile_70 : decode zb_XPicture_drawTile 70 = .ok (.iconst 0, 1) := by decide +kernel
theorem zd_XPicture_drawTile_71 : decode zb_XPicture_drawTile 71 = .ok (.istore_n 2, 1) := by decide +kernel
theorem zd_XPicture_drawTile_72 : decode zb_XPicture_drawTile 72 = .ok (.iload_n 2, 1) := by decide +kernel
theorem zd_XPicture_drawTile_73 : decode zb_XPicture_drawTile 73 = .ok (.aload_n 0, 1) := by decide +kernel
theorem zd_XPicture_drawTile_74 : decode zb_XPicture_drawTile 74 = .ok (.getfield 62, 3) := by decide +kernel
theorem zd_XPicture_drawTile_77 : decode zb_XPicture_drawTile 77 = .ok (.if_icmp .ge 42, 3) := by decide +kernel
theorem zd_XPicture_drawTile_80 : decode zb_XPicture_drawTile 80 = .ok (.aload_n 0, 1) := by decide +kernel
theorem zd_XPicture_drawTile_81 : decode zb_XPicture_drawTile 81 = .ok (.getfield 24, 3) := by decide +kernel
theorem zd_XPicture_drawTile_84 : decode zb_XPicture_drawTile 84 = .ok (.aload_n 0, 1) := by decide +kernel
theorem zd_XPicture_drawTile_85 : decode zb_XPicture_drawTile 85 = .ok (.getfield 10, 3) := by decide +kernel
theorem zd_XPicture_drawTile_88 : decode zb_XPicture_drawTile 88 = .ok (.bipush 18, 2) := by decide +kernel
theorem zd_XPicture_drawTile_90 : decode zb_XPicture_drawTile 90 = .ok (.iload_n 2, 1) := by decide +kernel
theorem zd_XPicture_drawTile_91 : decode zb_XPicture_drawTile 91 = .ok (.imul, 1) := by decide +kernel
theorem zd_XPicture_drawTile_92 : decode zb_XPicture_drawTile 92 = .ok (.invokevirtual 90, 3) := by decide +kernel
theorem zd_XPicture_drawTile_95 : decode zb_XPicture_drawTile 95 = .ok (.aload_n 0, 1) := by decide +kernel
theorem zd_XPicture_drawTile_96 : decode zb_XPicture_drawTile 96 = .ok (.aload_n 0, 1) := by decide +kernel
theorem zd_XPicture_drawTile_97 : decode zb_XPicture_drawTile 97 = .ok (.getfield 47, 3) := by decide +kernel
theorem zd_XPicture_drawTile_100 : decode zb_XPicture_drawTile 100 = .ok (.getfield 93, 3) := by decide +kernel
theorem zd_XPicture_drawTile_103 : decode zb_XPicture_drawTile 103 = .ok (.aload_n 0, 1) := by decide +kernel
theorem zd_XPicture_drawTile_104 : decode zb_XPicture_drawTile 104 = .ok (.getfield 17, 3) := by decide +kernel
theorem zd_XPicture_drawTile_107 : decode zb_XPicture_drawTile 107 = .ok (.iload_n 2, 1) := by decide +kernel
theorem zd_XPicture_drawTile_108 : decode zb_XPicture_drawTile 108 = .ok (.baload, 1) := by decide +kernel
theorem zd_XPicture_drawTile_109 : decode zb_XPicture_drawTile 109 = .ok (.aaload, 1) := by decide +kernel
theorem zd_XPicture_drawTile_110 : decode zb_XPicture_drawTile 110 = .ok (.invokevirtual 99, 3) := by decide +kernel
theorem zd_XPicture_drawTile_113 : decode zb_XPicture_drawTile 113 = .ok (.iinc 2 1, 3) := by decide +kernel
theorem zd_XPicture_drawTile_116 : decode zb_XPicture_drawTile 116 = .ok (.goto (-44), 3) := by decide +kernel
theorem zd_XPicture_drawTile_119 : decode zb_XPicture_drawTile 119 = .ok (.aload_n 0, 1) := by decide +kernel
theorem zd_XPicture_drawTile_120 : decode zb_XPicture_drawTile 120 = .ok (.dup, 1) := by decide +kernel
theorem zd_XPicture_drawTile_121 : decode zb_XPicture_drawTile 121 = .ok (.getfield 58, 3) := by decide +kernel
theorem zd_XPicture_drawTile_124 : decode zb_XPicture_drawTile 124 = .ok (.lconst 1, 1) := by decide +kernel
theorem zd_XPicture_drawTile_125 : decode zb_XPicture_drawTile 125 = .ok (.iload_n 1, 1) := by decide +kernel
theorem zd_XPicture_drawTile_126 : decode zb_XPicture_drawTile 126 = .ok (.lshl, 1) := by decide +kernel
theorem zd_XPicture_drawTile_127 : decode zb_XPicture_drawTile 127 = .ok (.lor, 1) := by decide +kernel
theorem zd_XPicture_drawTile_128 : decode zb_XPicture_drawTile 128 = .ok (.putfield 58, 3) := by decide +kernel
theorem zd_XPicture_drawTile_131 : decode zb_XPicture_drawTile 131 = .ok (.return_, 1) := by decide +kernel
theorem zf_I_5_14 (b : Nat) (m : zMem) (k : Nat) (v : Int32) : (zfl b 5 m k).set 14 (.int v) = zfl b 5 (mI m k 14 v) k := by simp [zfl, mI, upd, vp_updL]
theorem zf_I_5_15 (b : Nat) (m : zMem) (k : Nat) (v : Int32) : (zfl b 5 m k).set 15 (.int v) = zfl b 5 (mI m k 15 v) k := by simp [zfl, mI, upd, vp_updL]
theorem zf_I_5_16 (b : Nat) (m : zMem) (k : Nat) (v : Int32) : (zfl b 5 m k).set 16 (.int v) = zfl b 5 (mI m k 16 v) k := by simp [zfl, mI, upd, vp_updL]
theorem zf_I_5_17 (b : Nat) (m : zMem) (k : Nat) (v : Int32) : (zfl b 5 m k).set 17 (.int v) = zfl b 5 (mI m k 17 v) k := by simp [zfl, mI, upd, vp_updL]
theorem zw_781 : (Jvm.Cond.methodLink "OrreryBox$Picture" (87 : Nat) ({ cls := "OrreryBox$Picture", name := "wipe", desc := "()V" } : Jvm.MethodName)) ∈ gw := gw_t 781 (by decide +kernel) rfl
theorem zw_783 : (Jvm.Cond.instanceMethod ({ cls := "OrreryBox$Picture", name := "wipe", desc := "()V" } : Jvm.MethodName)) ∈ gw := gw_t 783 (by decide +kernel) rfl
theorem zv_17 : (Jvm.Cond.selects "OrreryBox$Picture" (⟨"OrreryBox$Picture", "wipe", "()V"⟩ : MethodName) ⟨"OrreryBox$Picture", "wipe", "()V"⟩) ∈ gw := gw_s 17 (by decide +kernel) rfl
theorem zs_XPicture_87 : zwV "OrreryBox$Picture" 87 "OrreryBox$Picture" zy_XPicture_wipe zb_XPicture_wipe 3 none := ⟨zw_781, zw_783, zv_17, zw_12, zc_XPicture_wipe⟩
theorem zw_785 : (Jvm.Cond.methodLink "OrreryBox$Picture" (90 : Nat) ({ cls := "OrreryBox$Piece", name := "takeAt", desc := "([II)V" } : Jvm.MethodName)) ∈ gw := gw_t 785 (by decide +kernel) rfl
theorem zw_786 : (Jvm.Cond.instanceMethod ({ cls := "OrreryBox$Piece", name := "takeAt", desc := "([II)V" } : Jvm.MethodName)) ∈ gw := gw_t 786 (by decide +kernel) rfl
theorem zw_787 : (Jvm.Cond.selects "OrreryBox$Piece" ({ cls := "OrreryBox$Piece", name := "takeAt", desc := "([II)V" } : Jvm.MethodName) ({ cls := "OrreryBox$Piece", name := "takeAt", desc := "([II)V" } : Jvm.MethodName)) ∈ gw := gw_t 787 (by decide +kernel) rfl
theorem zs_XPicture_90 : zwV "OrreryBox$Picture" 90 "OrreryBox$Piece" zy_XPiece_takeAt zb_XPiece_takeAt 3 none := ⟨zw_785, zw_786, zw_787, zw_11, zc_XPiece_takeAt⟩
theorem zw_290 : (Jvm.Cond.fieldLink "OrreryBox$Picture" (93 : Nat) "OrreryBox$Scene" "materials" "[[I") ∈ gw := gw_t 290 (by decide +kernel) rfl
theorem zw_789 : (Jvm.Cond.methodLink "OrreryBox$Picture" (99 : Nat) ({ cls := "OrreryBox$Picture", name := "drawPiece", desc := "([I)V" } : Jvm.MethodName)) ∈ gw := gw_t 789 (by decide +kernel) rfl
theorem zw_791 : (Jvm.Cond.instanceMethod ({ cls := "OrreryBox$Picture", name := "drawPiece", desc := "([I)V" } : Jvm.MethodName)) ∈ gw := gw_t 791 (by decide +kernel) rfl
theorem zv_18 : (Jvm.Cond.selects "OrreryBox$Picture" (⟨"OrreryBox$Picture", "drawPiece", "([I)V"⟩ : MethodName) ⟨"OrreryBox$Picture", "drawPiece", "([I)V"⟩) ∈ gw := gw_s 18 (by decide +kernel) rfl
theorem zs_XPicture_99 : zwV "OrreryBox$Picture" 99 "OrreryBox$Picture" zy_XPicture_drawPiece zb_XPicture_drawPiece 12 none := ⟨zw_789, zw_791, zv_18, zw_12, zc_XPicture_drawPiece⟩
def L_XPicture_drawTile_72 (sh : zSh) (fuel : Nat) (v0 : Nat) (v1 : Int32) (v2 : Int32) (mm : zMem) : Option (Nat × Int32 × Int32 × zMem) := match fuel with
  | 0 => none
  | fu + 1 => zoS (sh v0) 5 (fun le37 => (if (mm.1 v0 10) ≤ v2 then some (v0, v1, v2, mm) else zoS (sh v0) 5 (fun le40 => Option.bind (mm.2.2 v0 11) (fun a41 => zoS (sh v0) 5 (fun le43 => Option.bind (mm.2.2 v0 8) (fun a44 => zoS (sh a41) 6 (fun le46 => Option.bind (F_XPiece_takeAt sh mm a41 a44 (18 * v2)) (fun p47 => zoS (sh v0) 5 (fun le49 => Option.bind (p47.2.2 v0 3) (fun a50 => zoS (sh a50) 8 (fun le52 => Option.bind (p47.2.2 a50 2) (fun a53 => zoS (sh v0) 5 (fun le55 => Option.bind (p47.2.2 v0 9) (fun a56 => zoS (sh a56) 101 (fun le58 => if (v2 : Int32) < 0 ∨ le58 ≤ (v2 : Int32).toNatClampNeg then none else zoL (p47.1 a56 (v2 : Int32).toNatClampNeg) (fun i60 => zoR (sh a53) (fun t64 le62 => if (i60 : Int32) < 0 ∨ le62 ≤ (i60 : Int32).toNatClampNeg then none else Option.bind (p47.2.2 a53 (i60 : Int32).toNatClampNeg) (fun a65 => zoS (sh v0) 5 (fun le67 => Option.bind (F_XPicture_drawPiece sh p47 v0 a65) (fun p68 => L_XPicture_drawTile_72 sh fu v0 v1 (v2 + 1) p68))))))))))))))))))))
set_option maxHeartbeats 4000000 in
set_option maxRecDepth 100000 in
theorem lp_XPicture_drawTile_72 {p : Program} {l : Launch} {e : Env} {s : State} {m : MethodId} {args : Array Value} {below : List Frame} {meth : Method} {c : Code} {D : va_G} {tA : Nat → ClassId} {b n : Nat} {post : Option Value → zV → Nat → Prop} {sh : zSh} (F : zF p s m args meth c zb_XPicture_drawTile 3 "OrreryBox$Picture" D tA b) : ∀ (fuel : Nat) (v0 : Nat) (v1 : Int32) (v2 : Int32) (mm : zMem) (r : Nat × Int32 × Int32 × zMem), L_XPicture_drawTile_72 sh fuel v0 v1 v2 mm = some r → (Z p l e { frames := 5, cells := 0, slots := 0, locals := 147 } s m args below meth c D b 3 (MQ below (zQ D b post) args s 0 0 (fun q => b ≤ q)) (zW tA b sh r.2.2.2) n 0 0 119 [(0, .ref (b + (r.1))), (1, .int (r.2.1)), (2, .int (r.2.2.1))] []) → Z p l e { frames := 5, cells := 0, slots := 0, locals := 147 } s m args below meth c D b 3 (MQ below (zQ D b post) args s 0 0 (fun q => b ≤ q)) (zW tA b sh mm) n 0 0 72 [(0, .ref (b + v0)), (1, .int v1), (2, .int v2)] [] := by
  intro fuel
  induction fuel with
  | zero =>
    intro v0 v1 v2 mm r h
    cases h
  | succ fu ih =>
    intro v0 v1 v2 mm r h hx0
    rw [L_XPicture_drawTile_72] at h
    refine zr_iload_n F zd_XPicture_drawTile_72 rfl ?_
    refine zr_aload_n F zd_XPicture_drawTile_73 rfl ?_
    obtain ⟨le37, hs36, h⟩ := zoS_s h
    refine zr_get F 5 10 zd_XPicture_drawTile_74 (zW_o hs36 (by decide)) rfl (by decide) zw_443 rfl (by rfl) ?_
    refine zr_icmp_ge F 119 zd_XPicture_drawTile_77 (by decide) (fun hb38 => ?_) (fun hb38 => ?_)
    ·
      replace h := (if_pos hb38).symm.trans h
      obtain rfl := Option.some.inj h
      refine zr_loc (L' := [(0, .ref (b + v0)), (1, .int v1), (2, .int v2)]) ⟨rfl, rfl, rfl, trivial⟩ ?_
      exact hx0 
    ·
      replace h := (if_neg hb38).symm.trans h
      refine zr_aload_n F zd_XPicture_drawTile_80 rfl ?_
      refine zr_pcn 81 rfl ?_
      obtain ⟨le40, hs39, h⟩ := zoS_s h
      obtain ⟨a41, ea41, h⟩ := zoB_s h
      refine zr_get F 5 11 zd_XPicture_drawTile_81 (zW_o hs39 (by decide)) rfl (by decide) zw_444 rfl (by rfl) ?_
      refine zr_tor ea41 ?_
      refine zr_aload_n F zd_XPicture_drawTile_84 rfl ?_
      obtain ⟨le43, hs42, h⟩ := zoS_s h
      obtain ⟨a44, ea44, h⟩ := zoB_s h
      refine zr_get F 5 8 zd_XPicture_drawTile_85 (zW_o hs42 (by decide)) rfl (by decide) zw_441 rfl (by rfl) ?_
      refine zr_tor ea44 ?_
      refine zr_bipushv (v := 18) F zd_XPicture_drawTile_88 (by decide) ?_
      refine zr_iload_n F zd_XPicture_drawTile_90 rfl ?_
      refine zr_imul F zd_XPicture_drawTile_91 ?_
      obtain ⟨le46, hs45, h⟩ := zoS_s h
      obtain ⟨p47, ep47, h⟩ := zoB_s h
      refine zr_callV0 F (k_XPiece_takeAt l D tA b sh _ ep47) zd_XPicture_drawTile_92 (zW_o hs45 (by decide)) rfl zs_XPicture_90 rfl zq_XPiece_takeAt rfl rfl ⟨(Nat.le_of_ble_eq_true rfl), (Nat.le_of_ble_eq_true rfl)⟩ (Nat.le_of_ble_eq_true rfl) ⟨(Nat.le_of_ble_eq_true rfl), (Nat.le_of_ble_eq_true rfl)⟩ ?_
      refine zr_aload_n F zd_XPicture_drawTile_95 rfl ?_
      refine zr_pcn 96 rfl ?_
      refine zr_aload_n F zd_XPicture_drawTile_96 rfl ?_
      obtain ⟨le49, hs48, h⟩ := zoS_s h
      obtain ⟨a50, ea50, h⟩ := zoB_s h
      refine zr_get F 5 3 zd_XPicture_drawTile_97 (zW_o hs48 (by decide)) rfl (by decide) zw_435 rfl (by rfl) ?_
      refine zr_tor ea50 ?_
      obtain ⟨le52, hs51, h⟩ := zoS_s h
      obtain ⟨a53, ea53, h⟩ := zoB_s h
      refine zr_get F 8 2 zd_XPicture_drawTile_100 (zW_o hs51 (by decide)) rfl (by decide) zw_290 rfl (by rfl) ?_
      refine zr_tor ea53 ?_
      refine zr_aload_n F zd_XPicture_drawTile_103 rfl ?_
      obtain ⟨le55, hs54, h⟩ := zoS_s h
      obtain ⟨a56, ea56, h⟩ := zoB_s h
      refine zr_get F 5 9 zd_XPicture_drawTile_104 (zW_o hs54 (by decide)) rfl (by decide) zw_442 rfl (by rfl) ?_
      refine zr_tor ea56 ?_
      refine zr_iload_n F zd_XPicture_drawTile_107 rfl ?_
      obtain ⟨le58, hs57, h⟩ := zoS_s h
      obtain ⟨hi59, h⟩ := zoI_s h
      refine zr_bald F zd_XPicture_drawTile_108 (zW_a1 hs57) hi59 ?_
      obtain ⟨i60, ei60, h⟩ := zoL_s h
      rw [← ei60]
      obtain ⟨t64, le62, hs61, h⟩ := zoR_s h
      obtain ⟨hi63, h⟩ := zoI_s h
      obtain ⟨a65, ea65, h⟩ := zoB_s h
      refine zr_aaldW F zd_XPicture_drawTile_109 hs61 hi63 ea65 ?_
      refine zr_pcn 110 rfl ?_
      obtain ⟨le67, hs66, h⟩ := zoS_s h
      obtain ⟨p68, ep68, h⟩ := zoB_s h
      refine zr_callV0 F (k_XPicture_drawPiece l D tA b sh _ ep68) zd_XPicture_drawTile_110 (zW_o hs66 (by decide)) rfl zs_XPicture_99 rfl zq_XPicture_drawPiece rfl rfl ⟨(Nat.le_of_ble_eq_true rfl), (Nat.le_of_ble_eq_true rfl)⟩ (Nat.le_of_ble_eq_true rfl) ⟨(Nat.le_of_ble_eq_true rfl), (Nat.le_of_ble_eq_true rfl)⟩ ?_
      refine zr_iinc (v := (v2 + 1)) F zd_XPicture_drawTile_113 rfl rfl (by decide) ?_
      refine zr_goto F 72 zd_XPicture_drawTile_116 (by decide) ?_
      refine zr_loc (L' := [(0, .ref (b + v0)), (1, .int v1), (2, .int (v2 + 1))]) ⟨rfl, rfl, rfl, trivial⟩ ?_
      exact ih _ _ _ _ _ h hx0
def F_XPicture_drawTile (sh : zSh) (mm : zMem) (o : Nat) (x0_ : Int32) : Option zMem := zoS (sh o) 5 (fun le2 => (if (mm.1 o 6) = 0 then none else zoL ((x0_ - x0_ / (mm.1 o 6) * (mm.1 o 6)) * 8) (fun x4 => zoS (sh o) 5 (fun le6 => zoL (mI mm o 14 x4) (fun mm7 => zoS (sh o) 5 (fun le9 => (if (mm7.1 o 6) = 0 then none else zoL ((x0_ / (mm7.1 o 6)) * 8) (fun x11 => zoS (sh o) 5 (fun le13 => zoL (mI mm7 o 15 x11) (fun mm14 => zoS (sh o) 5 (fun le16 => zoS (sh o) 5 (fun le18 => zoL ((zx_min ((mm14.1 o 14) + 8) (mm14.1 o 4)) - 1) (fun x20 => zoS (sh o) 5 (fun le22 => zoL (mI mm14 o 16 x20) (fun mm23 => zoS (sh o) 5 (fun le25 => zoS (sh o) 5 (fun le27 => zoL ((zx_min ((mm23.1 o 15) + 8) (mm23.1 o 5)) - 1) (fun x29 => zoS (sh o) 5 (fun le31 => zoL (mI mm23 o 17 x29) (fun mm32 => zoS (sh o) 5 (fun le34 => Option.bind (F_XPicture_wipe sh mm32 o) (fun p35 => Option.bind (L_XPicture_drawTile_72 sh zfuel o x0_ 0 p35) (fun q69 => zoS (sh (q69.1)) 5 (fun le71 => zoL (((q69.2.2.2).2.1 (q69.1) 13) ||| (1 <<< ((q69.2.1 : Int32).toInt64 &&& 63))) (fun x72 => zoS (sh (q69.1)) 5 (fun le74 => zoL (mL (q69.2.2.2) (q69.1) 13 x72) (fun mm75 => some mm75)))))))))))))))))))))))))))
set_option maxHeartbeats 4000000 in
set_option maxRecDepth 100000 in
theorem k_XPicture_drawTile (l : Launch) (D : va_G) (tA : Nat → ClassId) (b : Nat) (sh : zSh) (n : Nat) {mm : zMem} {o : Nat} {x0_ : Int32} {r : zMem} (h : F_XPicture_drawTile sh mm o x0_ = some r) : zM l D tA b zy_XPicture_drawTile zb_XPicture_drawTile 3 none 5 147 0 0 [.ref (b + o), .int x0_] (zW tA b sh mm) n (zE none (zW tA b sh r) n) := by
  unfold F_XPicture_drawTile at h
  refine zM_of (own := "OrreryBox$Picture") (plainFor_of_name (by decide)) rfl (Nat.le_of_ble_eq_true rfl) (fun p e s m below meth c F hr hin hH => ?_)
  refine zr_aload_n F zd_XPicture_drawTile_0 rfl ?_
  refine zr_iload_n F zd_XPicture_drawTile_1 rfl ?_
  refine zr_aload_n F zd_XPicture_drawTile_2 rfl ?_
  obtain ⟨le2, hs1, h⟩ := zoS_s h
  refine zr_get F 5 6 zd_XPicture_drawTile_3 (zW_o hs1 (by decide)) rfl (by decide) zw_439 rfl (by rfl) ?_
  obtain ⟨hn3, h⟩ := zoI_s h
  refine zr_irem F zd_XPicture_drawTile_6 hn3 ?_
  refine zr_bipushv (v := 8) F zd_XPicture_drawTile_7 (by decide) ?_
  refine zr_imul F zd_XPicture_drawTile_9 ?_
  refine zr_pcn 10 rfl ?_
  obtain ⟨x4, ex4, h⟩ := zoL_s h
  rw [← ex4]
  obtain ⟨le6, hs5, h⟩ := zoS_s h
  refine zr_put F 5 14 zd_XPicture_drawTile_10 (zW_o hs5 (by decide)) rfl (by decide) zw_447 rfl rfl rfl rfl (by exact (Nat.le_of_ble_eq_true rfl)) ?_
  obtain ⟨mm7, emm7, h⟩ := zoL_s h
  refine zr_norm (zW tA b sh mm7) _ (by rw [emm7]; exact zW_pI (v := x4) hs5 (by decide) (zf_I_5_14 b _ _ _)) rfl ?_
  refine zr_aload_n F zd_XPicture_drawTile_13 rfl ?_
  refine zr_iload_n F zd_XPicture_drawTile_14 rfl ?_
  refine zr_aload_n F zd_XPicture_drawTile_15 rfl ?_
  obtain ⟨le9, hs8, h⟩ := zoS_s h
  refine zr_get F 5 6 zd_XPicture_drawTile_16 (zW_o hs8 (by decide)) rfl (by decide) zw_439 rfl (by rfl) ?_
  obtain ⟨hn10, h⟩ := zoI_s h
  refine zr_idiv F zd_XPicture_drawTile_19 hn10 ?_
  refine zr_bipushv (v := 8) F zd_XPicture_drawTile_20 (by decide) ?_
  refine zr_imul F zd_XPicture_drawTile_22 ?_
  refine zr_pcn 23 rfl ?_
  obtain ⟨x11, ex11, h⟩ := zoL_s h
  rw [← ex11]
  obtain ⟨le13, hs12, h⟩ := zoS_s h
  refine zr_put F 5 15 zd_XPicture_drawTile_23 (zW_o hs12 (by decide)) rfl (by decide) zw_448 rfl rfl rfl rfl (by exact (Nat.le_of_ble_eq_true rfl)) ?_
  obtain ⟨mm14, emm14, h⟩ := zoL_s h
  refine zr_norm (zW tA b sh mm14) _ (by rw [emm14]; exact zW_pI (v := x11) hs12 (by decide) (zf_I_5_15 b _ _ _)) rfl ?_
  refine zr_aload_n F zd_XPicture_drawTile_26 rfl ?_
  refine zr_aload_n F zd_XPicture_drawTile_27 rfl ?_
  obtain ⟨le16, hs15, h⟩ := zoS_s h
  refine zr_get F 5 14 zd_XPicture_drawTile_28 (zW_o hs15 (by decide)) rfl (by decide) zw_447 rfl (by rfl) ?_
  refine zr_bipushv (v := 8) F zd_XPicture_drawTile_31 (by decide) ?_
  refine zr_iadd F zd_XPicture_drawTile_33 ?_
  refine zr_aload_n F zd_XPicture_drawTile_34 rfl ?_
  obtain ⟨le18, hs17, h⟩ := zoS_s h
  refine zr_get F 5 4 zd_XPicture_drawTile_35 (zW_o hs17 (by decide)) rfl (by decide) zw_437 rfl (by rfl) ?_
  refine zr_pcn 38 rfl ?_
  refine zr_callS1 F (c_JMath_min l D tA b _ _ ((mm14.1 o 14) + 8) (mm14.1 o 4)) zd_XPicture_drawTile_38 zs_XPicture_75 zq_JMath_min rfl rfl ⟨(Nat.le_of_ble_eq_true rfl), (Nat.le_of_ble_eq_true rfl)⟩ (Nat.le_of_ble_eq_true rfl) ⟨(Nat.le_of_ble_eq_true rfl), (Nat.le_of_ble_eq_true rfl)⟩ ?_
  refine zr_iconstv (v := 1) F zd_XPicture_drawTile_41 (by decide) ?_
  refine zr_isub F zd_XPicture_drawTile_42 ?_
  obtain ⟨x20, ex20, h⟩ := zoL_s h
  rw [← ex20]
  obtain ⟨le22, hs21, h⟩ := zoS_s h
  refine zr_put F 5 16 zd_XPicture_drawTile_43 (zW_o hs21 (by decide)) rfl (by decide) zw_449 rfl rfl rfl rfl (by exact (Nat.le_of_ble_eq_true rfl)) ?_
  obtain ⟨mm23, emm23, h⟩ := zoL_s h
  refine zr_norm (zW tA b sh mm23) _ (by rw [emm23]; exact zW_pI (v := x20) hs21 (by decide) (zf_I_5_16 b _ _ _)) rfl ?_
  refine zr_aload_n F zd_XPicture_drawTile_46 rfl ?_
  refine zr_aload_n F zd_XPicture_drawTile_47 rfl ?_
  obtain ⟨le25, hs24, h⟩ := zoS_s h
  refine zr_get F 5 15 zd_XPicture_drawTile_48 (zW_o hs24 (by decide)) rfl (by decide) zw_448 rfl (by rfl) ?_
  refine zr_bipushv (v := 8) F zd_XPicture_drawTile_51 (by decide) ?_
  refine zr_pcn 53 rfl ?_
  refine zr_iadd F zd_XPicture_drawTile_53 ?_
  refine zr_aload_n F zd_XPicture_drawTile_54 rfl ?_
  obtain ⟨le27, hs26, h⟩ := zoS_s h
  refine zr_get F 5 5 zd_XPicture_drawTile_55 (zW_o hs26 (by decide)) rfl (by decide) zw_438 rfl (by rfl) ?_
  refine zr_callS1 F (c_JMath_min l D tA b _ _ ((mm23.1 o 15) + 8) (mm23.1 o 5)) zd_XPicture_drawTile_58 zs_XPicture_75 zq_JMath_min rfl rfl ⟨(Nat.le_of_ble_eq_true rfl), (Nat.le_of_ble_eq_true rfl)⟩ (Nat.le_of_ble_eq_true rfl) ⟨(Nat.le_of_ble_eq_true rfl), (Nat.le_of_ble_eq_true rfl)⟩ ?_
  refine zr_iconstv (v := 1) F zd_XPicture_drawTile_61 (by decide) ?_
  refine zr_isub F zd_XPicture_drawTile_62 ?_
  obtain ⟨x29, ex29, h⟩ := zoL_s h
  rw [← ex29]
  obtain ⟨le31, hs30, h⟩ := zoS_s h
  refine zr_put F 5 17 zd_XPicture_drawTile_63 (zW_o hs30 (by decide)) rfl (by decide) zw_450 rfl rfl rfl rfl (by exact (Nat.le_of_ble_eq_true rfl)) ?_
  obtain ⟨mm32, emm32, h⟩ := zoL_s h
  refine zr_norm (zW tA b sh mm32) _ (by rw [emm32]; exact zW_pI (v := x29) hs30 (by decide) (zf_I_5_17 b _ _ _)) rfl ?_
  refine zr_aload_n F zd_XPicture_drawTile_66 rfl ?_
  refine zr_pcn 67 rfl ?_
  obtain ⟨le34, hs33, h⟩ := zoS_s h
  obtain ⟨p35, ep35, h⟩ := zoB_s h
  refine zr_callV0 F (k_XPicture_wipe l D tA b sh _ ep35) zd_XPicture_drawTile_67 (zW_o hs33 (by decide)) rfl zs_XPicture_87 rfl zq_XPicture_wipe rfl rfl ⟨(Nat.le_of_ble_eq_true rfl), (Nat.le_of_ble_eq_true rfl)⟩ (Nat.le_of_ble_eq_true rfl) ⟨(Nat.le_of_ble_eq_true rfl), (Nat.le_of_ble_eq_true rfl)⟩ ?_
  refine zr_iconstv (v := 0) F zd_XPicture_drawTile_70 (by decide) ?_
  refine zr_istore_n F zd_XPicture_drawTile_71 (by decide) ?_
  obtain ⟨q69, eq69, h⟩ := zoB_s h
  refine zr_loc (L' := [(0, .ref (b + o)), (1, .int x0_), (2, .int 0)]) ⟨rfl, rfl, rfl, trivial⟩ ?_
  refine lp_XPicture_drawTile_72 F _ _ _ _ _ _ eq69 ?_
  ·
    refine zr_aload_n F zd_XPicture_drawTile_119 rfl ?_
    refine zr_dup F zd_XPicture_drawTile_120 rfl ?_
    obtain ⟨le71, hs70, h⟩ := zoS_s h
    refine zr_get F 5 13 zd_XPicture_drawTile_121 (zW_o hs70 (by decide)) rfl (by decide) zw_446 rfl (by rfl) ?_
    refine zr_lconstv (v := 1) F zd_XPicture_drawTile_124 (by decide) ?_
    refine zr_iload_n F zd_XPicture_drawTile_125 rfl ?_
    refine zr_pcn 126 rfl ?_
    refine zr_lshl F zd_XPicture_drawTile_126 ?_
    refine zr_lor F zd_XPicture_drawTile_127 ?_
    obtain ⟨x72, ex72, h⟩ := zoL_s h
    rw [← ex72]
    obtain ⟨le74, hs73, h⟩ := zoS_s h
    refine zr_put F 5 13 zd_XPicture_drawTile_128 (zW_o hs73 (by decide)) rfl (by decide) zw_446 rfl rfl rfl rfl (by exact (Nat.le_of_ble_eq_true rfl)) ?_
    obtain ⟨mm75, emm75, h⟩ := zoL_s h
    refine zr_norm (zW tA b sh mm75) _ (by rw [emm75]; exact zW_pL (v := x72) hs73 (by decide) (zf_L_5_13 b _ _ _)) rfl ?_
    obtain rfl := Option.some.inj h
    exact zr_vret F hr zd_XPicture_drawTile_131 (Nat.le_of_ble_eq_true rfl) (Nat.le_of_ble_eq_true rfl) ⟨rfl, rfl, rfl⟩
