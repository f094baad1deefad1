abbrev zb_MPainter_goOverPiece : ByteArray := prog_16_method_26_code
def zy_MPainter_goOverPiece : MethodName := ⟨"OrreryBoxModel$Painter", "goOverPiece", "(III)V"⟩
theorem zc_MPainter_goOverPiece : Cond.code zy_MPainter_goOverPiece zb_MPainter_goOverPiece 10 none ∈ gw := gw_t 2112 (by decide +kernel) rfl
theorem zq_MPainter_goOverPiece : zy_MPainter_goOverPiece.cls ≠ "java/lang/invoke/MethodHandle" ∧ zy_MPainter_goOverPiece.cls ≠ "java/lang/invoke/VarHandle" ∧ (parseMethodDescriptor zy_MPainter_goOverPiece.desc).map (fun d => d.parameters.length) = some 3 := by decide +kernel
theorem zd_MPainter_goOverPiece_0 : decode zb_MPainter_goOverPiece 0 = .ok (.aload_n 0, 1) := by decide +kernel
theorem zd_MPainter_goOverPiece_1 : decode zb_MPainter_goOverPiece 1 = .ok (.iconst 0, 1) := by decide +kernel
theorem zd_MPainter_goOverPiece_2 : decode zb_MPainter_goOverPiece 2 = .ok (.iload_n 3, 1) := by decide +kernel
theorem zd_MPainter_goOverPiece_3 : decode zb_MPainter_goOverPiece 3 = .ok (.iload_n 3, 1) := by decide +kernel
theorem zd_MPainter_goOverPiece_4 : decode zb_MPainter_goOverPiece 4 = .ok (.iconst 1, 1) := by decide +kernel
theorem zd_MPainter_goOverPiece_5 : decode zb_MPainter_goOverPiece 5 = .ok (.iadd, 1) := by decide +kernel
theorem zd_MPainter_goOverPiece_6 : decode zb_MPainter_goOverPiece 6 = .ok (.invokevirtual 257, 3) := by decide +kernel
theorem zd_MPainter_goOverPiece_9 : decode zb_MPainter_goOverPiece 9 = .ok (.lstore 4, 2) := by decide +kernel
theorem zd_MPainter_goOverPiece_11 : decode zb_MPainter_goOverPiece 11 = .ok (.lload 4, 2) := by decide +kernel
theorem zd_MPainter_goOverPiece_13 : decode zb_MPainter_goOverPiece 13 = .ok (.lconst 0, 1) := by decide +kernel
theorem zd_MPainter_goOverPiece_14 : decode zb_MPainter_goOverPiece 14 = .ok (.lcmp, 1) := by decide +kernel
theorem zd_MPainter_goOverPiece_15 : decode zb_MPainter_goOverPiece 15 = .ok (.ifCond .eq 36, 3) := by decide +kernel
theorem zd_MPainter_goOverPiece_18 : decode zb_MPainter_goOverPiece 18 = .ok (.lload 4, 2) := by decide +kernel
theorem zd_MPainter_goOverPiece_20 : decode zb_MPainter_goOverPiece 20 = .ok (.lconst 0, 1) := by decide +kernel
theorem zd_MPainter_goOverPiece_21 : decode zb_MPainter_goOverPiece 21 = .ok (.lcmp, 1) := by decide +kernel
theorem zd_MPainter_goOverPiece_22 : decode zb_MPainter_goOverPiece 22 = .ok (.ifCond .ge 19, 3) := by decide +kernel
theorem zd_MPainter_goOverPiece_25 : decode zb_MPainter_goOverPiece 25 = .ok (.aload_n 0, 1) := by decide +kernel
theorem zd_MPainter_goOverPiece_26 : decode zb_MPainter_goOverPiece 26 = .ok (.getfield 129, 3) := by decide +kernel
theorem zd_MPainter_goOverPiece_29 : decode zb_MPainter_goOverPiece 29 = .ok (.getfield 261, 3) := by decide +kernel
theorem zd_MPainter_goOverPiece_32 : decode zb_MPainter_goOverPiece 32 = .ok (.aload_n 0, 1) := by decide +kernel
theorem zd_MPainter_goOverPiece_33 : decode zb_MPainter_goOverPiece 33 = .ok (.iload_n 1, 1) := by decide +kernel
theorem zd_MPainter_goOverPiece_34 : decode zb_MPainter_goOverPiece 34 = .ok (.invokevirtual 180, 3) := by decide +kernel
theorem zd_MPainter_goOverPiece_37 : decode zb_MPainter_goOverPiece 37 = .ok (.iaload, 1) := by decide +kernel
theorem zd_MPainter_goOverPiece_38 : decode zb_MPainter_goOverPiece 38 = .ok (.ifCond .eq 13, 3) := by decide +kernel
theorem zd_MPainter_goOverPiece_41 : decode zb_MPainter_goOverPiece 41 = .ok (.aload_n 0, 1) := by decide +kernel
theorem zd_MPainter_goOverPiece_42 : decode zb_MPainter_goOverPiece 42 = .ok (.getfield 188, 3) := by decide +kernel
theorem zd_MPainter_goOverPiece_45 : decode zb_MPainter_goOverPiece 45 = .ok (.ldc_w 264, 3) := by decide +kernel
theorem zd_MPainter_goOverPiece_48 : decode zb_MPainter_goOverPiece 48 = .ok (.if_icmp .ne 4, 3) := by decide +kernel
theorem zd_MPainter_goOverPiece_51 : decode zb_MPainter_goOverPiece 51 = .ok (.return_, 1) := by decide +kernel
theorem zd_MPainter_goOverPiece_52 : decode zb_MPainter_goOverPiece 52 = .ok (.aload_n 0, 1) := by decide +kernel
theorem zd_MPainter_goOverPiece_53 : decode zb_MPainter_goOverPiece 53 = .ok (.dup, 1) := by decide +kernel
theorem zd_MPainter_goOverPiece_54 : decode zb_MPainter_goOverPiece 54 = .ok (.getfield 188, 3) := by decide +kernel
theorem zd_MPainter_goOverPiece_57 : decode zb_MPainter_goOverPiece 57 = .ok (.iconst 1, 1) := by decide +kernel
theorem zd_MPainter_goOverPiece_58 : decode zb_MPainter_goOverPiece 58 = .ok (.iadd, 1) := by decide +kernel
theorem zd_MPainter_goOverPiece_59 : decode zb_MPainter_goOverPiece 59 = .ok (.putfield 188, 3) := by decide +kernel
theorem zd_MPainter_goOverPiece_62 : decode zb_MPainter_goOverPiece 62 = .ok (.lload 4, 2) := by decide +kernel
theorem zd_MPainter_goOverPiece_64 : decode zb_MPainter_goOverPiece 64 = .ok (.lconst 0, 1) := by decide +kernel
theorem zd_MPainter_goOverPiece_65 : decode zb_MPainter_goOverPiece 65 = .ok (.lcmp, 1) := by decide +kernel
theorem zd_MPainter_goOverPiece_66 : decode zb_MPainter_goOverPiece 66 = .ok (.ifCond .le 7, 3) := by decide +kernel
theorem zd_MPainter_goOverPiece_69 : decode zb_MPainter_goOverPiece 69 = .ok (.iload_n 3, 1) := by decide +kernel
theorem zd_MPainter_goOverPiece_70 : decode zb_MPainter_goOverPiece 70 = .ok (.goto 6, 3) := by decide +kernel
theorem zd_MPainter_goOverPiece_73 : decode zb_MPainter_goOverPiece 73 = .ok (.iload_n 3, 1) := by decide +kernel
theorem zd_MPainter_goOverPiece_74 : decode zb_MPainter_goOverPiece 74 = .ok (.iconst 1, 1) := by decide +kernel
theorem zd_MPainter_goOverPiece_75 : decode zb_MPainter_goOverPiece 75 = .ok (.iadd, 1) := by decide +kernel
theorem zd_MPainter_goOverPiece_76 : decode zb_MPainter_goOverPiece 76 = .ok (.istore 6, 2) := by decide +kernel
theorem zd_MPainter_goOverPiece_78 : decode zb_MPainter_goOverPiece 78 = .ok (.lload 4, 2) := by decide +kernel
theorem zd_MPainter_goOverPiece_80 : decode zb_MPainter_goOverPiece 80 = .ok (.lconst 0, 1) := by decide +kernel
theorem zd_MPainter_goOverPiece_81 : decode zb_MPainter_goOverPiece 81 = .ok (.lcmp, 1) := by decide +kernel
theorem zd_MPainter_goOverPiece_82 : decode zb_MPainter_goOverPiece 82 = .ok (.ifCond .le 9, 3) := by decide +kernel
theorem zd_MPainter_goOverPiece_85 : decode zb_MPainter_goOverPiece 85 = .ok (.iload_n 3, 1) := by decide +kernel
theorem zd_MPainter_goOverPiece_86 : decode zb_MPainter_goOverPiece 86 = .ok (.iconst 1, 1) := by decide +kernel
theorem zd_MPainter_goOverPiece_87 : decode zb_MPainter_goOverPiece 87 = .ok (.iadd, 1) := by decide +kernel
theorem zd_MPainter_goOverPiece_88 : decode zb_MPainter_goOverPiece 88 = .ok (.goto 4, 3) := by decide +kernel
theorem zd_MPainter_goOverPiece_91 : decode zb_MPainter_goOverPiece 91 = .ok (.iload_n 3, 1) := by decide +kernel
theorem zd_MPainter_goOverPiece_92 : decode zb_MPainter_goOverPiece 92 = .ok (.istore 7, 2) := by decide +kernel
theorem zd_MPainter_goOverPiece_94 : decode zb_MPainter_goOverPiece 94 = .ok (.aload_n 0, 1) := by decide +kernel
theorem zd_MPainter_goOverPiece_95 : decode zb_MPainter_goOverPiece 95 = .ok (.getfield 265, 3) := by decide +kernel
theorem zd_MPainter_goOverPiece_98 : decode zb_MPainter_goOverPiece 98 = .ok (.istore 8, 2) := by decide +kernel
theorem zd_MPainter_goOverPiece_100 : decode zb_MPainter_goOverPiece 100 = .ok (.iload 8, 2) := by decide +kernel
theorem zd_MPainter_goOverPiece_102 : decode zb_MPainter_goOverPiece 102 = .ok (.aload_n 0, 1) := by decide +kernel
theorem zd_MPainter_goOverPiece_103 : decode zb_MPainter_goOverPiece 103 = .ok (.getfield 268, 3) := by decide +kernel
theorem zd_MPainter_goOverPiece_106 : decode zb_MPainter_goOverPiece 106 = .ok (.if_icmp .ge 59, 3) := by decide +kernel
theorem zd_MPainter_goOverPiece_109 : decode zb_MPainter_goOverPiece 109 = .ok (.aload_n 0, 1) := by decide +kernel
theorem zd_MPainter_goOverPiece_110 : decode zb_MPainter_goOverPiece 110 = .ok (.getfield 271, 3) := by decide +kernel
theorem zd_MPainter_goOverPiece_113 : decode zb_MPainter_goOverPiece 113 = .ok (.istore 9, 2) := by decide +kernel
theorem zd_MPainter_goOverPiece_115 : decode zb_MPainter_goOverPiece 115 = .ok (.iload 9, 2) := by decide +kernel
theorem zd_MPainter_goOverPiece_117 : decode zb_MPainter_goOverPiece 117 = .ok (.aload_n 0, 1) := by decide +kernel
theorem zd_MPainter_goOverPiece_118 : decode zb_MPainter_goOverPiece 118 = .ok (.getfield 274, 3) := by decide +kernel
theorem zd_MPainter_goOverPiece_121 : decode zb_MPainter_goOverPiece 121 = .ok (.if_icmp .ge 38, 3) := by decide +kernel
theorem zd_MPainter_goOverPiece_124 : decode zb_MPainter_goOverPiece 124 = .ok (.aload_n 0, 1) := by decide +kernel
theorem zd_MPainter_goOverPiece_125 : decode zb_MPainter_goOverPiece 125 = .ok (.iload_n 1, 1) := by decide +kernel
theorem zd_MPainter_goOverPiece_126 : decode zb_MPainter_goOverPiece 126 = .ok (.iload_n 2, 1) := by decide +kernel
theorem zd_MPainter_goOverPiece_127 : decode zb_MPainter_goOverPiece 127 = .ok (.iload 6, 2) := by decide +kernel
theorem zd_MPainter_goOverPiece_129 : decode zb_MPainter_goOverPiece 129 = .ok (.iload 7, 2) := by decide +kernel
theorem zd_MPainter_goOverPiece_131 : decode zb_MPainter_goOverPiece 131 = .ok (.lload 4, 2) := by decide +kernel
theorem zd_MPainter_goOverPiece_133 : decode zb_MPainter_goOverPiece 133 = .ok (.lconst 0, 1) := by decide +kernel
theorem zd_MPainter_goOverPiece_134 : decode zb_MPainter_goOverPiece 134 = .ok (.lcmp, 1) := by decide +kernel
theorem zd_MPainter_goOverPiece_135 : decode zb_MPainter_goOverPiece 135 = .ok (.ifCond .le 8, 3) := by decide +kernel
theorem zd_MPainter_goOverPiece_138 : decode zb_MPainter_goOverPiece 138 = .ok (.lload 4, 2) := by decide +kernel
theorem zd_MPainter_goOverPiece_140 : decode zb_MPainter_goOverPiece 140 = .ok (.goto 6, 3) := by decide +kernel
theorem zd_MPainter_goOverPiece_143 : decode zb_MPainter_goOverPiece 143 = .ok (.lload 4, 2) := by decide +kernel
theorem zd_MPainter_goOverPiece_145 : decode zb_MPainter_goOverPiece 145 = .ok (.lneg, 1) := by decide +kernel
theorem zd_MPainter_goOverPiece_146 : decode zb_MPainter_goOverPiece 146 = .ok (.iload 9, 2) := by decide +kernel
theorem zd_MPainter_goOverPiece_148 : decode zb_MPainter_goOverPiece 148 = .ok (.iload 8, 2) := by decide +kernel
theorem zd_MPainter_goOverPiece_150 : decode zb_MPainter_goOverPiece 150 = .ok (.invokevirtual 277, 3) := by decide +kernel
theorem zd_MPainter_goOverPiece_153 : decode zb_MPainter_goOverPiece 153 = .ok (.iinc 9 1, 3) := by decide +kernel
theorem zd_MPainter_goOverPiece_156 : decode zb_MPainter_goOverPiece 156 = .ok (.goto (-41), 3) := by decide +kernel
theorem zd_MPainter_goOverPiece_159 : decode zb_MPainter_goOverPiece 159 = .ok (.iinc 8 1, 3) := by decide +kernel
theorem zd_MPainter_goOverPiece_162 : decode zb_MPainter_goOverPiece 162 = .ok (.goto (-62), 3) := by decide +kernel
theorem zd_MPainter_goOverPiece_165 : decode zb_MPainter_goOverPiece 165 = .ok (.return_, 1) := by decide +kernel
theorem zw_2113 : (Jvm.Cond.methodLink "OrreryBoxModel$Painter" (257 : Nat) ({ cls := "OrreryBoxModel$Painter", name := "area", desc := "(III)J" } : Jvm.MethodName)) ∈ gw := gw_t 2113 (by decide +kernel) rfl
theorem zw_2115 : (Jvm.Cond.instanceMethod ({ cls := "OrreryBoxModel$Painter", name := "area", desc := "(III)J" } : Jvm.MethodName)) ∈ gw := gw_t 2115 (by decide +kernel) rfl
theorem zv_108 : (Jvm.Cond.selects "OrreryBoxModel$Painter" (⟨"OrreryBoxModel$Painter", "area", "(III)J"⟩ : MethodName) ⟨"OrreryBoxModel$Painter", "area", "(III)J"⟩) ∈ gw := gw_s 108 (by decide +kernel) rfl
theorem zs_MPainter_257 : zwV "OrreryBoxModel$Painter" 257 "OrreryBoxModel$Painter" zy_MPainter_area zb_MPainter_area 4 (some .long) := ⟨zw_2113, zw_2115, zv_108, zw_17, zc_MPainter_area⟩
theorem zw_2117 : (Jvm.Cond.constant "OrreryBoxModel$Painter" (264 : Nat) (36864 : Int32)) ∈ gw := gw_t 2117 (by decide +kernel) rfl
theorem zf_I_13_0 (b : Nat) (m : zMem) (k : Nat) (v : Int32) : (zfl b 13 m k).set 0 (.int v) = zfl b 13 (mI m k 0 v) k := by simp [zfl, mI, upd, vp_updL]
theorem zw_2118 : (Jvm.Cond.methodLink "OrreryBoxModel$Painter" (277 : Nat) ({ cls := "OrreryBoxModel$Painter", name := "goOverPixel", desc := "(IIIIJII)V" } : Jvm.MethodName)) ∈ gw := gw_t 2118 (by decide +kernel) rfl
theorem zw_2120 : (Jvm.Cond.instanceMethod ({ cls := "OrreryBoxModel$Painter", name := "goOverPixel", desc := "(IIIIJII)V" } : Jvm.MethodName)) ∈ gw := gw_t 2120 (by decide +kernel) rfl
theorem zv_109 : (Jvm.Cond.selects "OrreryBoxModel$Painter" (⟨"OrreryBoxModel$Painter", "goOverPixel", "(IIIIJII)V"⟩ : MethodName) ⟨"OrreryBoxModel$Painter", "goOverPixel", "(IIIIJII)V"⟩) ∈ gw := gw_s 109 (by decide +kernel) rfl
theorem zs_MPainter_277 : zwV "OrreryBoxModel$Painter" 277 "OrreryBoxModel$Painter" zy_MPainter_goOverPixel zb_MPainter_goOverPixel 36 none := ⟨zw_2118, zw_2120, zv_109, zw_17, zc_MPainter_goOverPixel⟩
def L_MPainter_goOverPiece_115 (sh : zSh) (fuel : Nat) (v0 : Nat) (v1 : Int32) (v2 : Int32) (v4 : Int64) (v6 : Int32) (v7 : Int32) (v8 : Int32) (v9 : Int32) (mm : zMem) : Option (Nat × Int32 × Int32 × Int64 × Int32 × Int32 × Int32 × Int32 × zMem) := match fuel with
  | 0 => none
  | fu + 1 => zoS (sh v0) 13 (fun le28 => (if (mm.1 v0 8) ≤ v9 then some (v0, v1, v2, v4, v6, v7, v8, v9, mm) else (if (lg_cmp v4 0) ≤ 0 then zoS (sh v0) 13 (fun le32 => Option.bind (F_MPainter_goOverPixel sh mm v0 v1 v2 v6 v7 (-v4) v9 v8) (fun p33 => L_MPainter_goOverPiece_115 sh fu v0 v1 v2 v4 v6 v7 v8 (v9 + 1) p33)) else zoS (sh v0) 13 (fun le35 => Option.bind (F_MPainter_goOverPixel sh mm v0 v1 v2 v6 v7 v4 v9 v8) (fun p36 => L_MPainter_goOverPiece_115 sh fu v0 v1 v2 v4 v6 v7 v8 (v9 + 1) p36)))))
set_option maxHeartbeats 4000000 in
set_option maxRecDepth 100000 in
theorem lp_MPainter_goOverPiece_115 {p : Program} {l : Launch} {e : Env} {s : State} {m : MethodId} {args : Array Value} {below : List Frame} {meth : Method} {c : Code} {D : va_G} {tA : Nat → ClassId} {b n : Nat} {post : Option Value → zV → Nat → Prop} {sh : zSh} (F : zF p s m args meth c zb_MPainter_goOverPiece 10 "OrreryBoxModel$Painter" D tA b) : ∀ (fuel : Nat) (v0 : Nat) (v1 : Int32) (v2 : Int32) (v4 : Int64) (v6 : Int32) (v7 : Int32) (v8 : Int32) (v9 : Int32) (mm : zMem) (r : Nat × Int32 × Int32 × Int64 × Int32 × Int32 × Int32 × Int32 × zMem), L_MPainter_goOverPiece_115 sh fuel v0 v1 v2 v4 v6 v7 v8 v9 mm = some r → (Z p l e { frames := 6, cells := 0, slots := 0, locals := 213 } s m args below meth c D b 10 (MQ below (zQ D b post) args s 0 0 (fun q => b ≤ q)) (zW tA b sh r.2.2.2.2.2.2.2.2) n 0 0 159 [(0, .ref (b + (r.1))), (1, .int (r.2.1)), (2, .int (r.2.2.1)), (4, .long (r.2.2.2.1)), (6, .int (r.2.2.2.2.1)), (7, .int (r.2.2.2.2.2.1)), (8, .int (r.2.2.2.2.2.2.1)), (9, .int (r.2.2.2.2.2.2.2.1))] []) → Z p l e { frames := 6, cells := 0, slots := 0, locals := 213 } s m args below meth c D b 10 (MQ below (zQ D b post) args s 0 0 (fun q => b ≤ q)) (zW tA b sh mm) n 0 0 115 [(0, .ref (b + v0)), (1, .int v1), (2, .int v2), (4, .long v4), (6, .int v6), (7, .int v7), (8, .int v8), (9, .int v9)] [] := by
  intro fuel
  induction fuel with
  | zero =>
    intro v0 v1 v2 v4 v6 v7 v8 v9 mm r h
    cases h
  | succ fu ih =>
    intro v0 v1 v2 v4 v6 v7 v8 v9 mm r h hx0
    rw [L_MPainter_goOverPiece_115] at h
    refine zr_iload F zd_MPainter_goOverPiece_115 rfl ?_
    refine zr_aload_n F zd_MPainter_goOverPiece_117 rfl ?_
    obtain ⟨le28, hs27, h⟩ := zoS_s h
    refine zr_get F 13 8 zd_MPainter_goOverPiece_118 (zW_o hs27 (by decide)) rfl (by decide) zw_1585 rfl (by rfl) ?_
    refine zr_icmp_ge F 159 zd_MPainter_goOverPiece_121 (by decide) (fun hb29 => ?_) (fun hb29 => ?_)
    ·
      replace h := (if_pos hb29).symm.trans h
      obtain rfl := Option.some.inj h
      refine zr_loc (L' := [(0, .ref (b + v0)), (1, .int v1), (2, .int v2), (4, .long v4), (6, .int v6), (7, .int v7), (8, .int v8), (9, .int v9)]) ⟨rfl, rfl, rfl, rfl, rfl, rfl, rfl, rfl, trivial⟩ ?_
      exact hx0 
    ·
      replace h := (if_neg hb29).symm.trans h
      refine zr_pcn 124 rfl ?_
      refine zr_aload_n F zd_MPainter_goOverPiece_124 rfl ?_
      refine zr_iload_n F zd_MPainter_goOverPiece_125 rfl ?_
      refine zr_iload_n F zd_MPainter_goOverPiece_126 rfl ?_
      refine zr_iload F zd_MPainter_goOverPiece_127 rfl ?_
      refine zr_iload F zd_MPainter_goOverPiece_129 rfl ?_
      refine zr_lload F zd_MPainter_goOverPiece_131 rfl ?_
      refine zr_lconstv (v := 0) F zd_MPainter_goOverPiece_133 (by decide) ?_
      refine zr_lcmp F zd_MPainter_goOverPiece_134 ?_
      refine zr_pcn 135 rfl ?_
      refine zr_if_le F 143 zd_MPainter_goOverPiece_135 (by decide) (fun hb30 => ?_) (fun hb30 => ?_)
      ·
        replace h := (if_pos hb30).symm.trans h
        refine zr_lload F zd_MPainter_goOverPiece_143 rfl ?_
        refine zr_lneg F zd_MPainter_goOverPiece_145 ?_
        refine zr_iload F zd_MPainter_goOverPiece_146 rfl ?_
        refine zr_iload F zd_MPainter_goOverPiece_148 rfl ?_
        obtain ⟨le32, hs31, h⟩ := zoS_s h
        obtain ⟨p33, ep33, h⟩ := zoB_s h
        refine zr_callV0 F (k_MPainter_goOverPixel l D tA b sh _ ep33) zd_MPainter_goOverPiece_150 (zW_o hs31 (by decide)) rfl zs_MPainter_277 rfl zq_MPainter_goOverPixel rfl rfl ⟨(Nat.le_of_ble_eq_true rfl), (Nat.le_of_ble_eq_true rfl)⟩ (Nat.le_of_ble_eq_true rfl) ⟨(Nat.le_of_ble_eq_true rfl), (Nat.le_of_ble_eq_true rfl)⟩ ?_
        refine zr_iinc (v := (v9 + 1)) F zd_MPainter_goOverPiece_153 rfl rfl (by decide) ?_
        refine zr_goto F 115 zd_MPainter_goOverPiece_156 (by decide) ?_
        refine zr_loc (L' := [(0, .ref (b + v0)), (1, .int v1), (2, .int v2), (4, .long v4), (6, .int v6), (7, .int v7), (8, .int v8), (9, .int (v9 + 1))]) ⟨rfl, rfl, rfl, rfl, rfl, rfl, rfl, rfl, trivial⟩ ?_
        exact ih _ _ _ _ _ _ _ _ _ _ h hx0
      ·
        replace h := (if_neg hb30).symm.trans h
        refine zr_pcn 138 rfl ?_
        refine zr_lload F zd_MPainter_goOverPiece_138 rfl ?_
        refine zr_goto F 146 zd_MPainter_goOverPiece_140 (by decide) ?_
        refine zr_iload F zd_MPainter_goOverPiece_146 rfl ?_
        refine zr_iload F zd_MPainter_goOverPiece_148 rfl ?_
        obtain ⟨le35, hs34, h⟩ := zoS_s h
        obtain ⟨p36, ep36, h⟩ := zoB_s h
        refine zr_callV0 F (k_MPainter_goOverPixel l D tA b sh _ ep36) zd_MPainter_goOverPiece_150 (zW_o hs34 (by decide)) rfl zs_MPainter_277 rfl zq_MPainter_goOverPixel rfl rfl ⟨(Nat.le_of_ble_eq_true rfl), (Nat.le_of_ble_eq_true rfl)⟩ (Nat.le_of_ble_eq_true rfl) ⟨(Nat.le_of_ble_eq_true rfl), (Nat.le_of_ble_eq_true rfl)⟩ ?_
        refine zr_iinc (v := (v9 + 1)) F zd_MPainter_goOverPiece_153 rfl rfl (by decide) ?_
        refine zr_goto F 115 zd_MPainter_goOverPiece_156 (by decide) ?_
        refine zr_loc (L' := [(0, .ref (b + v0)), (1, .int v1), (2, .int v2), (4, .long v4), (6, .int v6), (7, .int v7), (8, .int v8), (9, .int (v9 + 1))]) ⟨rfl, rfl, rfl, rfl, rfl, rfl, rfl, rfl, trivial⟩ ?_
        exact ih _ _ _ _ _ _ _ _ _ _ h hx0
def L_MPainter_goOverPiece_100 (sh : zSh) (fuel : Nat) (v0 : Nat) (v1 : Int32) (v2 : Int32) (v4 : Int64) (v6 : Int32) (v7 : Int32) (v8 : Int32) (mm : zMem) : Option (Nat × Int32 × Int32 × Int64 × Int32 × Int32 × Int32 × zMem) := match fuel with
  | 0 => none
  | fu + 1 => zoS (sh v0) 13 (fun le22 => (if (mm.1 v0 9) ≤ v8 then some (v0, v1, v2, v4, v6, v7, v8, mm) else zoS (sh v0) 13 (fun le25 => zoL (mm.1 v0 6) (fun x26 => Option.bind (L_MPainter_goOverPiece_115 sh zfuel v0 v1 v2 v4 v6 v7 v8 x26 mm) (fun q37 => L_MPainter_goOverPiece_100 sh fu (q37.1) (q37.2.1) (q37.2.2.1) (q37.2.2.2.1) (q37.2.2.2.2.1) (q37.2.2.2.2.2.1) (q37.2.2.2.2.2.2.1 + 1) (q37.2.2.2.2.2.2.2.2))))))
set_option maxHeartbeats 4000000 in
set_option maxRecDepth 100000 in
theorem lp_MPainter_goOverPiece_100 {p : Program} {l : Launch} {e : Env} {s : State} {m : MethodId} {args : Array Value} {below : List Frame} {meth : Method} {c : Code} {D : va_G} {tA : Nat → ClassId} {b n : Nat} {post : Option Value → zV → Nat → Prop} {sh : zSh} (F : zF p s m args meth c zb_MPainter_goOverPiece 10 "OrreryBoxModel$Painter" D tA b) : ∀ (fuel : Nat) (v0 : Nat) (v1 : Int32) (v2 : Int32) (v4 : Int64) (v6 : Int32) (v7 : Int32) (v8 : Int32) (mm : zMem) (r : Nat × Int32 × Int32 × Int64 × Int32 × Int32 × Int32 × zMem), L_MPainter_goOverPiece_100 sh fuel v0 v1 v2 v4 v6 v7 v8 mm = some r → (Z p l e { frames := 6, cells := 0, slots := 0, locals := 213 } s m args below meth c D b 10 (MQ below (zQ D b post) args s 0 0 (fun q => b ≤ q)) (zW tA b sh r.2.2.2.2.2.2.2) n 0 0 165 [(0, .ref (b + (r.1))), (1, .int (r.2.1)), (2, .int (r.2.2.1)), (4, .long (r.2.2.2.1)), (6, .int (r.2.2.2.2.1)), (7, .int (r.2.2.2.2.2.1)), (8, .int (r.2.2.2.2.2.2.1))] []) → Z p l e { frames := 6, cells := 0, slots := 0, locals := 213 } s m args below meth c D b 10 (MQ below (zQ D b post) args s 0 0 (fun q => b ≤ q)) (zW tA b sh mm) n 0 0 100 [(0, .ref (b + v0)), (1, .int v1), (2, .int v2), (4, .long v4), (6, .int v6), (7, .int v7), (8, .int v8)] [] := by
  intro fuel
  induction fuel with
  | zero =>
    intro v0 v1 v2 v4 v6 v7 v8 mm r h
    cases h
  | succ fu ih =>
    intro v0 v1 v2 v4 v6 v7 v8 mm r h hx0
    rw [L_MPainter_goOverPiece_100] at h
    refine zr_iload F zd_MPainter_goOverPiece_100 rfl ?_
    refine zr_aload_n F zd_MPainter_goOverPiece_102 rfl ?_
    obtain ⟨le22, hs21, h⟩ := zoS_s h
    refine zr_get F 13 9 zd_MPainter_goOverPiece_103 (zW_o hs21 (by decide)) rfl (by decide) zw_1586 rfl (by rfl) ?_
    refine zr_pcn 106 rfl ?_
    refine zr_icmp_ge F 165 zd_MPainter_goOverPiece_106 (by decide) (fun hb23 => ?_) (fun hb23 => ?_)
    ·
      replace h := (if_pos hb23).symm.trans h
      obtain rfl := Option.some.inj h
      refine zr_loc (L' := [(0, .ref (b + v0)), (1, .int v1), (2, .int v2), (4, .long v4), (6, .int v6), (7, .int v7), (8, .int v8)]) ⟨rfl, rfl, rfl, rfl, rfl, rfl, rfl, trivial⟩ ?_
      exact hx0 
    ·
      replace h := (if_neg hb23).symm.trans h
      refine zr_aload_n F zd_MPainter_goOverPiece_109 rfl ?_
      obtain ⟨le25, hs24, h⟩ := zoS_s h
      refine zr_get F 13 6 zd_MPainter_goOverPiece_110 (zW_o hs24 (by decide)) rfl (by decide) zw_1583 rfl (by rfl) ?_
      obtain ⟨x26, ex26, h⟩ := zoL_s h
      rw [← ex26]
      refine zr_istore F zd_MPainter_goOverPiece_113 (by decide) ?_
      obtain ⟨q37, eq37, h⟩ := zoB_s h
      refine zr_loc (L' := [(0, .ref (b + v0)), (1, .int v1), (2, .int v2), (4, .long v4), (6, .int v6), (7, .int v7), (8, .int v8), (9, .int x26)]) ⟨rfl, rfl, rfl, rfl, rfl, rfl, rfl, rfl, trivial⟩ ?_
      refine lp_MPainter_goOverPiece_115 F _ _ _ _ _ _ _ _ _ _ _ eq37 ?_
      ·
        refine zr_iinc (v := (q37.2.2.2.2.2.2.1 + 1)) F zd_MPainter_goOverPiece_159 rfl rfl (by decide) ?_
        refine zr_pcn 162 rfl ?_
        refine zr_goto F 100 zd_MPainter_goOverPiece_162 (by decide) ?_
        refine zr_loc (L' := [(0, .ref (b + (q37.1))), (1, .int (q37.2.1)), (2, .int (q37.2.2.1)), (4, .long (q37.2.2.2.1)), (6, .int (q37.2.2.2.2.1)), (7, .int (q37.2.2.2.2.2.1)), (8, .int (q37.2.2.2.2.2.2.1 + 1))]) ⟨rfl, rfl, rfl, rfl, rfl, rfl, rfl, trivial⟩ ?_
        exact ih _ _ _ _ _ _ _ _ _ h hx0
theorem zw_1351 : (Jvm.Cond.fieldLink "OrreryBoxModel$Painter" (261 : Nat) "OrreryBoxModel$Scene" "both" "[I") ∈ gw := gw_t 1351 (by decide +kernel) rfl
def F_MPainter_goOverPiece (sh : zSh) (mm : zMem) (o : Nat) (x0_ : Int32) (x1_ : Int32) (x2_ : Int32) : Option zMem := zoS (sh o) 13 (fun le2 => Option.bind (F_MPainter_area sh mm o 0 x2_ (x2_ + 1)) (fun p3 => (if (lg_cmp p3.1 0) = 0 then some (p3.2) else (if 0 ≤ (lg_cmp p3.1 0) then zoS (sh o) 13 (fun le7 => (if ((p3.2).1 o 0) = 36864 then some (p3.2) else zoS (sh o) 13 (fun le10 => zoL (((p3.2).1 o 0) + 1) (fun x11 => zoS (sh o) 13 (fun le13 => zoL (mI (p3.2) o 0 x11) (fun mm14 => (if (lg_cmp p3.1 0) ≤ 0 then zoL (x2_ + 1) (fun x16 => (if (lg_cmp p3.1 0) ≤ 0 then zoS (sh o) 13 (fun le19 => zoL (mm14.1 o 7) (fun x20 => Option.bind (L_MPainter_goOverPiece_100 sh zfuel o x0_ x1_ (p3.1) x16 x2_ x20 mm14) (fun q38 => some (q38.2.2.2.2.2.2.2)))) else zoL (x2_ + 1) (fun x39 => zoS (sh o) 13 (fun le41 => zoL (mm14.1 o 7) (fun x42 => Option.bind (L_MPainter_goOverPiece_100 sh zfuel o x0_ x1_ (p3.1) x16 x39 x42 mm14) (fun q43 => some (q43.2.2.2.2.2.2.2))))))) else (if (lg_cmp p3.1 0) ≤ 0 then zoS (sh o) 13 (fun le46 => zoL (mm14.1 o 7) (fun x47 => Option.bind (L_MPainter_goOverPiece_100 sh zfuel o x0_ x1_ (p3.1) x2_ x2_ x47 mm14) (fun q48 => some (q48.2.2.2.2.2.2.2)))) else zoL (x2_ + 1) (fun x49 => zoS (sh o) 13 (fun le51 => zoL (mm14.1 o 7) (fun x52 => Option.bind (L_MPainter_goOverPiece_100 sh zfuel o x0_ x1_ (p3.1) x2_ x49 x52 mm14) (fun q53 => some (q53.2.2.2.2.2.2.2))))))))))))) else zoS (sh o) 13 (fun le55 => Option.bind ((p3.2).2.2 o 5) (fun a56 => zoS (sh a56) 15 (fun le58 => Option.bind ((p3.2).2.2 a56 11) (fun a59 => zoS (sh o) 13 (fun le61 => Option.bind (F_MPainter_materialOf sh (p3.2) o x0_) (fun p62 => zoS (sh a59) 100 (fun le64 => if (p62.1 : Int32) < 0 ∨ le64 ≤ (p62.1 : Int32).toNatClampNeg then none else (if ((p62.2).1 a59 (p62.1 : Int32).toNatClampNeg) = 0 then some (p62.2) else zoS (sh o) 13 (fun le68 => (if ((p62.2).1 o 0) = 36864 then some (p62.2) else zoS (sh o) 13 (fun le71 => zoL (((p62.2).1 o 0) + 1) (fun x72 => zoS (sh o) 13 (fun le74 => zoL (mI (p62.2) o 0 x72) (fun mm75 => (if (lg_cmp p3.1 0) ≤ 0 then zoL (x2_ + 1) (fun x77 => (if (lg_cmp p3.1 0) ≤ 0 then zoS (sh o) 13 (fun le80 => zoL (mm75.1 o 7) (fun x81 => Option.bind (L_MPainter_goOverPiece_100 sh zfuel o x0_ x1_ (p3.1) x77 x2_ x81 mm75) (fun q82 => some (q82.2.2.2.2.2.2.2)))) else zoL (x2_ + 1) (fun x83 => zoS (sh o) 13 (fun le85 => zoL (mm75.1 o 7) (fun x86 => Option.bind (L_MPainter_goOverPiece_100 sh zfuel o x0_ x1_ (p3.1) x77 x83 x86 mm75) (fun q87 => some (q87.2.2.2.2.2.2.2))))))) else (if (lg_cmp p3.1 0) ≤ 0 then zoS (sh o) 13 (fun le90 => zoL (mm75.1 o 7) (fun x91 => Option.bind (L_MPainter_goOverPiece_100 sh zfuel o x0_ x1_ (p3.1) x2_ x2_ x91 mm75) (fun q92 => some (q92.2.2.2.2.2.2.2)))) else zoL (x2_ + 1) (fun x93 => zoS (sh o) 13 (fun le95 => zoL (mm75.1 o 7) (fun x96 => Option.bind (L_MPainter_goOverPiece_100 sh zfuel o x0_ x1_ (p3.1) x2_ x93 x96 mm75) (fun q97 => some (q97.2.2.2.2.2.2.2)))))))))))))))))))))))))
set_option maxHeartbeats 4000000 in
set_option maxRecDepth 100000 in
theorem k_MPainter_goOverPiece (l : Launch) (D : va_G) (tA : Nat → ClassId) (b : Nat) (sh : zSh) (n : Nat) {mm : zMem} {o : Nat} {x0_ : Int32} {x1_ : Int32} {x2_ : Int32} {r : zMem} (h : F_MPainter_goOverPiece sh mm o x0_ x1_ x2_ = some r) : zM l D tA b zy_MPainter_goOverPiece zb_MPainter_goOverPiece 10 none 6 213 0 0 [.ref (b + o), .int x0_, .int x1_, .int x2_] (zW tA b sh mm) n (zE none (zW tA b sh r) n) := by
  unfold F_MPainter_goOverPiece at h
  refine zM_of (own := "OrreryBoxModel$Painter") (plainFor_of_name (by decide)) rfl (Nat.le_of_ble_eq_true rfl) (fun p e s m below meth c F hr hin hH => ?_)
  refine zr_aload_n F zd_MPainter_goOverPiece_0 rfl ?_
  refine zr_iconstv (v := 0) F zd_MPainter_goOverPiece_1 (by decide) ?_
  refine zr_iload_n F zd_MPainter_goOverPiece_2 rfl ?_
  refine zr_iload_n F zd_MPainter_goOverPiece_3 rfl ?_
  refine zr_iconstv (v := 1) F zd_MPainter_goOverPiece_4 (by decide) ?_
  refine zr_iadd F zd_MPainter_goOverPiece_5 ?_
  obtain ⟨le2, hs1, h⟩ := zoS_s h
  obtain ⟨p3, ep3, h⟩ := zoB_s h
  refine zr_callV1 F (k_MPainter_area l D tA b sh _ ep3) zd_MPainter_goOverPiece_6 (zW_o hs1 (by decide)) rfl zs_MPainter_257 rfl zq_MPainter_area rfl rfl ⟨(Nat.le_of_ble_eq_true rfl), (Nat.le_of_ble_eq_true rfl)⟩ (Nat.le_of_ble_eq_true rfl) ⟨(Nat.le_of_ble_eq_true rfl), (Nat.le_of_ble_eq_true rfl)⟩ ?_
  refine zr_pcn 9 rfl ?_
  refine zr_lstore F zd_MPainter_goOverPiece_9 (by decide) ?_
  refine zr_lload F zd_MPainter_goOverPiece_11 rfl ?_
  refine zr_lconstv (v := 0) F zd_MPainter_goOverPiece_13 (by decide) ?_
  refine zr_lcmp F zd_MPainter_goOverPiece_14 ?_
  refine zr_if_eq F 51 zd_MPainter_goOverPiece_15 (by decide) (fun hb4 => ?_) (fun hb4 => ?_)
  ·
    replace h := (if_pos hb4).symm.trans h
    obtain rfl := Option.some.inj h
    exact zr_vret F hr zd_MPainter_goOverPiece_51 (Nat.le_of_ble_eq_true rfl) (Nat.le_of_ble_eq_true rfl) ⟨rfl, rfl, rfl⟩
  ·
    replace h := (if_neg hb4).symm.trans h
    refine zr_lload F zd_MPainter_goOverPiece_18 rfl ?_
    refine zr_lconstv (v := 0) F zd_MPainter_goOverPiece_20 (by decide) ?_
    refine zr_pcn 21 rfl ?_
    refine zr_lcmp F zd_MPainter_goOverPiece_21 ?_
    refine zr_if_ge F 41 zd_MPainter_goOverPiece_22 (by decide) (fun hb5 => ?_) (fun hb5 => ?_)
    ·
      replace h := (if_pos hb5).symm.trans h
      refine zr_aload_n F zd_MPainter_goOverPiece_41 rfl ?_
      obtain ⟨le7, hs6, h⟩ := zoS_s h
      refine zr_get F 13 0 zd_MPainter_goOverPiece_42 (zW_o hs6 (by decide)) rfl (by decide) zw_1576 rfl (by rfl) ?_
      refine zr_ldcw F zd_MPainter_goOverPiece_45 zw_2117 ?_
      refine zr_icmp_ne F 52 zd_MPainter_goOverPiece_48 (by decide) (fun hb8 => ?_) (fun hb8 => ?_)
      ·
        replace h := (if_neg hb8).symm.trans h
        refine zr_aload_n F zd_MPainter_goOverPiece_52 rfl ?_
        refine zr_dup F zd_MPainter_goOverPiece_53 rfl ?_
        refine zr_pcn 54 rfl ?_
        obtain ⟨le10, hs9, h⟩ := zoS_s h
        refine zr_get F 13 0 zd_MPainter_goOverPiece_54 (zW_o hs9 (by decide)) rfl (by decide) zw_1576 rfl (by rfl) ?_
        refine zr_iconstv (v := 1) F zd_MPainter_goOverPiece_57 (by decide) ?_
        refine zr_iadd F zd_MPainter_goOverPiece_58 ?_
        obtain ⟨x11, ex11, h⟩ := zoL_s h
        rw [← ex11]
        obtain ⟨le13, hs12, h⟩ := zoS_s h
        refine zr_put F 13 0 zd_MPainter_goOverPiece_59 (zW_o hs12 (by decide)) rfl (by decide) zw_1576 rfl rfl rfl rfl (by exact (Nat.le_of_ble_eq_true rfl)) ?_
        obtain ⟨mm14, emm14, h⟩ := zoL_s h
        refine zr_norm (zW tA b sh mm14) _ (by rw [emm14]; exact zW_pI (v := x11) hs12 (by decide) (zf_I_13_0 b _ _ _)) rfl ?_
        refine zr_lload F zd_MPainter_goOverPiece_62 rfl ?_
        refine zr_lconstv (v := 0) F zd_MPainter_goOverPiece_64 (by decide) ?_
        refine zr_lcmp F zd_MPainter_goOverPiece_65 ?_
        refine zr_if_le F 73 zd_MPainter_goOverPiece_66 (by decide) (fun hb15 => ?_) (fun hb15 => ?_)
        ·
          replace h := (if_pos hb15).symm.trans h
          refine zr_pcn 73 rfl ?_
          refine zr_iload_n F zd_MPainter_goOverPiece_73 rfl ?_
          refine zr_iconstv (v := 1) F zd_MPainter_goOverPiece_74 (by decide) ?_
          refine zr_iadd F zd_MPainter_goOverPiece_75 ?_
          obtain ⟨x16, ex16, h⟩ := zoL_s h
          rw [← ex16]
          refine zr_istore F zd_MPainter_goOverPiece_76 (by decide) ?_
          refine zr_lload F zd_MPainter_goOverPiece_78 rfl ?_
          refine zr_lconstv (v := 0) F zd_MPainter_goOverPiece_80 (by decide) ?_
          refine zr_lcmp F zd_MPainter_goOverPiece_81 ?_
          refine zr_if_le F 91 zd_MPainter_goOverPiece_82 (by decide) (fun hb17 => ?_) (fun hb17 => ?_)
          ·
            replace h := (if_pos hb17).symm.trans h
            refine zr_pcn 91 rfl ?_
            refine zr_iload_n F zd_MPainter_goOverPiece_91 rfl ?_
            refine zr_istore F zd_MPainter_goOverPiece_92 (by decide) ?_
            refine zr_loc (L' := [(0, .ref (b + o)), (1, .int x0_), (2, .int x1_), (4, .long (p3.1)), (6, .int x16), (7, .int x2_)]) ⟨rfl, rfl, rfl, rfl, rfl, rfl, trivial⟩ ?_
            refine zr_aload_n F zd_MPainter_goOverPiece_94 rfl ?_
            obtain ⟨le19, hs18, h⟩ := zoS_s h
            refine zr_get F 13 7 zd_MPainter_goOverPiece_95 (zW_o hs18 (by decide)) rfl (by decide) zw_1584 rfl (by rfl) ?_
            obtain ⟨x20, ex20, h⟩ := zoL_s h
            rw [← ex20]
            refine zr_istore F zd_MPainter_goOverPiece_98 (by decide) ?_
            obtain ⟨q38, eq38, h⟩ := zoB_s h
            refine zr_loc (L' := [(0, .ref (b + o)), (1, .int x0_), (2, .int x1_), (4, .long (p3.1)), (6, .int x16), (7, .int x2_), (8, .int x20)]) ⟨rfl, rfl, rfl, rfl, rfl, rfl, rfl, trivial⟩ ?_
            refine lp_MPainter_goOverPiece_100 F _ _ _ _ _ _ _ _ _ _ eq38 ?_
            ·
              obtain rfl := Option.some.inj h
              exact zr_vret F hr zd_MPainter_goOverPiece_165 (Nat.le_of_ble_eq_true rfl) (Nat.le_of_ble_eq_true rfl) ⟨rfl, rfl, rfl⟩
          ·
            replace h := (if_neg hb17).symm.trans h
            refine zr_iload_n F zd_MPainter_goOverPiece_85 rfl ?_
            refine zr_iconstv (v := 1) F zd_MPainter_goOverPiece_86 (by decide) ?_
            refine zr_iadd F zd_MPainter_goOverPiece_87 ?_
            refine zr_goto F 92 zd_MPainter_goOverPiece_88 (by decide) ?_
            obtain ⟨x39, ex39, h⟩ := zoL_s h
            rw [← ex39]
            refine zr_istore F zd_MPainter_goOverPiece_92 (by decide) ?_
            refine zr_loc (L' := [(0, .ref (b + o)), (1, .int x0_), (2, .int x1_), (4, .long (p3.1)), (6, .int x16), (7, .int x39)]) ⟨rfl, rfl, rfl, rfl, rfl, rfl, trivial⟩ ?_
            refine zr_aload_n F zd_MPainter_goOverPiece_94 rfl ?_
            refine zr_pcn 95 rfl ?_
            obtain ⟨le41, hs40, h⟩ := zoS_s h
            refine zr_get F 13 7 zd_MPainter_goOverPiece_95 (zW_o hs40 (by decide)) rfl (by decide) zw_1584 rfl (by rfl) ?_
            obtain ⟨x42, ex42, h⟩ := zoL_s h
            rw [← ex42]
            refine zr_istore F zd_MPainter_goOverPiece_98 (by decide) ?_
            obtain ⟨q43, eq43, h⟩ := zoB_s h
            refine zr_loc (L' := [(0, .ref (b + o)), (1, .int x0_), (2, .int x1_), (4, .long (p3.1)), (6, .int x16), (7, .int x39), (8, .int x42)]) ⟨rfl, rfl, rfl, rfl, rfl, rfl, rfl, trivial⟩ ?_
            refine lp_MPainter_goOverPiece_100 F _ _ _ _ _ _ _ _ _ _ eq43 ?_
            ·
              obtain rfl := Option.some.inj h
              exact zr_vret F hr zd_MPainter_goOverPiece_165 (Nat.le_of_ble_eq_true rfl) (Nat.le_of_ble_eq_true rfl) ⟨rfl, rfl, rfl⟩
        ·
          replace h := (if_neg hb15).symm.trans h
          refine zr_iload_n F zd_MPainter_goOverPiece_69 rfl ?_
          refine zr_goto F 76 zd_MPainter_goOverPiece_70 (by decide) ?_
          refine zr_istore F zd_MPainter_goOverPiece_76 (by decide) ?_
          refine zr_lload F zd_MPainter_goOverPiece_78 rfl ?_
          refine zr_lconstv (v := 0) F zd_MPainter_goOverPiece_80 (by decide) ?_
          refine zr_pcn 81 rfl ?_
          refine zr_lcmp F zd_MPainter_goOverPiece_81 ?_
          refine zr_if_le F 91 zd_MPainter_goOverPiece_82 (by decide) (fun hb44 => ?_) (fun hb44 => ?_)
          ·
            replace h := (if_pos hb44).symm.trans h
            refine zr_iload_n F zd_MPainter_goOverPiece_91 rfl ?_
            refine zr_istore F zd_MPainter_goOverPiece_92 (by decide) ?_
            refine zr_loc (L' := [(0, .ref (b + o)), (1, .int x0_), (2, .int x1_), (4, .long (p3.1)), (6, .int x2_), (7, .int x2_)]) ⟨rfl, rfl, rfl, rfl, rfl, rfl, trivial⟩ ?_
            refine zr_aload_n F zd_MPainter_goOverPiece_94 rfl ?_
            obtain ⟨le46, hs45, h⟩ := zoS_s h
            refine zr_get F 13 7 zd_MPainter_goOverPiece_95 (zW_o hs45 (by decide)) rfl (by decide) zw_1584 rfl (by rfl) ?_
            obtain ⟨x47, ex47, h⟩ := zoL_s h
            rw [← ex47]
            refine zr_istore F zd_MPainter_goOverPiece_98 (by decide) ?_
            obtain ⟨q48, eq48, h⟩ := zoB_s h
            refine zr_loc (L' := [(0, .ref (b + o)), (1, .int x0_), (2, .int x1_), (4, .long (p3.1)), (6, .int x2_), (7, .int x2_), (8, .int x47)]) ⟨rfl, rfl, rfl, rfl, rfl, rfl, rfl, trivial⟩ ?_
            refine lp_MPainter_goOverPiece_100 F _ _ _ _ _ _ _ _ _ _ eq48 ?_
            ·
              obtain rfl := Option.some.inj h
              exact zr_vret F hr zd_MPainter_goOverPiece_165 (Nat.le_of_ble_eq_true rfl) (Nat.le_of_ble_eq_true rfl) ⟨rfl, rfl, rfl⟩
          ·
            replace h := (if_neg hb44).symm.trans h
            refine zr_pcn 85 rfl ?_
            refine zr_iload_n F zd_MPainter_goOverPiece_85 rfl ?_
            refine zr_iconstv (v := 1) F zd_MPainter_goOverPiece_86 (by decide) ?_
            refine zr_iadd F zd_MPainter_goOverPiece_87 ?_
            refine zr_goto F 92 zd_MPainter_goOverPiece_88 (by decide) ?_
            obtain ⟨x49, ex49, h⟩ := zoL_s h
            rw [← ex49]
            refine zr_istore F zd_MPainter_goOverPiece_92 (by decide) ?_
            refine zr_loc (L' := [(0, .ref (b + o)), (1, .int x0_), (2, .int x1_), (4, .long (p3.1)), (6, .int x2_), (7, .int x49)]) ⟨rfl, rfl, rfl, rfl, rfl, rfl, trivial⟩ ?_
            refine zr_aload_n F zd_MPainter_goOverPiece_94 rfl ?_
            obtain ⟨le51, hs50, h⟩ := zoS_s h
            refine zr_get F 13 7 zd_MPainter_goOverPiece_95 (zW_o hs50 (by decide)) rfl (by decide) zw_1584 rfl (by rfl) ?_
            obtain ⟨x52, ex52, h⟩ := zoL_s h
            rw [← ex52]
            refine zr_istore F zd_MPainter_goOverPiece_98 (by decide) ?_
            obtain ⟨q53, eq53, h⟩ := zoB_s h
            refine zr_loc (L' := [(0, .ref (b + o)), (1, .int x0_), (2, .int x1_), (4, .long (p3.1)), (6, .int x2_), (7, .int x49), (8, .int x52)]) ⟨rfl, rfl, rfl, rfl, rfl, rfl, rfl, trivial⟩ ?_
            refine lp_MPainter_goOverPiece_100 F _ _ _ _ _ _ _ _ _ _ eq53 ?_
            ·
              refine zr_pcn 165 rfl ?_
              obtain rfl := Option.some.inj h
              exact zr_vret F hr zd_MPainter_goOverPiece_165 (Nat.le_of_ble_eq_true rfl) (Nat.le_of_ble_eq_true rfl) ⟨rfl, rfl, rfl⟩
      ·
        replace h := (if_pos hb8).symm.trans h
        obtain rfl := Option.some.inj h
        exact zr_vret F hr zd_MPainter_goOverPiece_51 (Nat.le_of_ble_eq_true rfl) (Nat.le_of_ble_eq_true rfl) ⟨rfl, rfl, rfl⟩
    ·
      replace h := (if_neg hb5).symm.trans h
      refine zr_aload_n F zd_MPainter_goOverPiece_25 rfl ?_
      obtain ⟨le55, hs54, h⟩ := zoS_s h
      obtain ⟨a56, ea56, h⟩ := zoB_s h
      refine zr_get F 13 5 zd_MPainter_goOverPiece_26 (zW_o hs54 (by decide)) rfl (by decide) zw_1581 rfl (by rfl) ?_
      refine zr_tor ea56 ?_
      obtain ⟨le58, hs57, h⟩ := zoS_s h
      obtain ⟨a59, ea59, h⟩ := zoB_s h
      refine zr_get F 15 11 zd_MPainter_goOverPiece_29 (zW_o hs57 (by decide)) rfl (by decide) zw_1351 rfl (by rfl) ?_
      refine zr_tor ea59 ?_
      refine zr_aload_n F zd_MPainter_goOverPiece_32 rfl ?_
      refine zr_iload_n F zd_MPainter_goOverPiece_33 rfl ?_
      obtain ⟨le61, hs60, h⟩ := zoS_s h
      obtain ⟨p62, ep62, h⟩ := zoB_s h
      refine zr_callV1 F (k_MPainter_materialOf l D tA b sh _ ep62) zd_MPainter_goOverPiece_34 (zW_o hs60 (by decide)) rfl zs_MPainter_180 rfl zq_MPainter_materialOf rfl rfl ⟨(Nat.le_of_ble_eq_true rfl), (Nat.le_of_ble_eq_true rfl)⟩ (Nat.le_of_ble_eq_true rfl) ⟨(Nat.le_of_ble_eq_true rfl), (Nat.le_of_ble_eq_true rfl)⟩ ?_
      refine zr_pcn 37 rfl ?_
      obtain ⟨le64, hs63, h⟩ := zoS_s h
      obtain ⟨hi65, h⟩ := zoI_s h
      refine zr_iald F zd_MPainter_goOverPiece_37 (zW_a0 hs63) hi65 ?_
      refine zr_if_eq F 51 zd_MPainter_goOverPiece_38 (by decide) (fun hb66 => ?_) (fun hb66 => ?_)
      ·
        replace h := (if_pos hb66).symm.trans h
        obtain rfl := Option.some.inj h
        exact zr_vret F hr zd_MPainter_goOverPiece_51 (Nat.le_of_ble_eq_true rfl) (Nat.le_of_ble_eq_true rfl) ⟨rfl, rfl, rfl⟩
      ·
        replace h := (if_neg hb66).symm.trans h
        refine zr_aload_n F zd_MPainter_goOverPiece_41 rfl ?_
        obtain ⟨le68, hs67, h⟩ := zoS_s h
        refine zr_get F 13 0 zd_MPainter_goOverPiece_42 (zW_o hs67 (by decide)) rfl (by decide) zw_1576 rfl (by rfl) ?_
        refine zr_ldcw F zd_MPainter_goOverPiece_45 zw_2117 ?_
        refine zr_icmp_ne F 52 zd_MPainter_goOverPiece_48 (by decide) (fun hb69 => ?_) (fun hb69 => ?_)
        ·
          replace h := (if_neg hb69).symm.trans h
          refine zr_aload_n F zd_MPainter_goOverPiece_52 rfl ?_
          refine zr_pcn 53 rfl ?_
          refine zr_dup F zd_MPainter_goOverPiece_53 rfl ?_
          obtain ⟨le71, hs70, h⟩ := zoS_s h
          refine zr_get F 13 0 zd_MPainter_goOverPiece_54 (zW_o hs70 (by decide)) rfl (by decide) zw_1576 rfl (by rfl) ?_
          refine zr_iconstv (v := 1) F zd_MPainter_goOverPiece_57 (by decide) ?_
          refine zr_iadd F zd_MPainter_goOverPiece_58 ?_
          obtain ⟨x72, ex72, h⟩ := zoL_s h
          rw [← ex72]
          obtain ⟨le74, hs73, h⟩ := zoS_s h
          refine zr_put F 13 0 zd_MPainter_goOverPiece_59 (zW_o hs73 (by decide)) rfl (by decide) zw_1576 rfl rfl rfl rfl (by exact (Nat.le_of_ble_eq_true rfl)) ?_
          obtain ⟨mm75, emm75, h⟩ := zoL_s h
          refine zr_norm (zW tA b sh mm75) _ (by rw [emm75]; exact zW_pI (v := x72) hs73 (by decide) (zf_I_13_0 b _ _ _)) rfl ?_
          refine zr_lload F zd_MPainter_goOverPiece_62 rfl ?_
          refine zr_lconstv (v := 0) F zd_MPainter_goOverPiece_64 (by decide) ?_
          refine zr_lcmp F zd_MPainter_goOverPiece_65 ?_
          refine zr_pcn 66 rfl ?_
          refine zr_if_le F 73 zd_MPainter_goOverPiece_66 (by decide) (fun hb76 => ?_) (fun hb76 => ?_)
          ·
            replace h := (if_pos hb76).symm.trans h
            refine zr_iload_n F zd_MPainter_goOverPiece_73 rfl ?_
            refine zr_iconstv (v := 1) F zd_MPainter_goOverPiece_74 (by decide) ?_
            refine zr_iadd F zd_MPainter_goOverPiece_75 ?_
            obtain ⟨x77, ex77, h⟩ := zoL_s h
            rw [← ex77]
            refine zr_istore F zd_MPainter_goOverPiece_76 (by decide) ?_
            refine zr_lload F zd_MPainter_goOverPiece_78 rfl ?_
            refine zr_lconstv (v := 0) F zd_MPainter_goOverPiece_80 (by decide) ?_
            refine zr_lcmp F zd_MPainter_goOverPiece_81 ?_
            refine zr_pcn 82 rfl ?_
            refine zr_if_le F 91 zd_MPainter_goOverPiece_82 (by decide) (fun hb78 => ?_) (fun hb78 => ?_)
            ·
              replace h := (if_pos hb78).symm.trans h
              refine zr_iload_n F zd_MPainter_goOverPiece_91 rfl ?_
              refine zr_istore F zd_MPainter_goOverPiece_92 (by decide) ?_
              refine zr_loc (L' := [(0, .ref (b + o)), (1, .int x0_), (2, .int x1_), (4, .long (p3.1)), (6, .int x77), (7, .int x2_)]) ⟨rfl, rfl, rfl, rfl, rfl, rfl, trivial⟩ ?_
              refine zr_aload_n F zd_MPainter_goOverPiece_94 rfl ?_
              obtain ⟨le80, hs79, h⟩ := zoS_s h
              refine zr_get F 13 7 zd_MPainter_goOverPiece_95 (zW_o hs79 (by decide)) rfl (by decide) zw_1584 rfl (by rfl) ?_
              obtain ⟨x81, ex81, h⟩ := zoL_s h
              rw [← ex81]
              refine zr_istore F zd_MPainter_goOverPiece_98 (by decide) ?_
              obtain ⟨q82, eq82, h⟩ := zoB_s h
              refine zr_loc (L' := [(0, .ref (b + o)), (1, .int x0_), (2, .int x1_), (4, .long (p3.1)), (6, .int x77), (7, .int x2_), (8, .int x81)]) ⟨rfl, rfl, rfl, rfl, rfl, rfl, rfl, trivial⟩ ?_
              refine lp_MPainter_goOverPiece_100 F _ _ _ _ _ _ _ _ _ _ eq82 ?_
              ·
                obtain rfl := Option.some.inj h
                exact zr_vret F hr zd_MPainter_goOverPiece_165 (Nat.le_of_ble_eq_true rfl) (Nat.le_of_ble_eq_true rfl) ⟨rfl, rfl, rfl⟩
            ·
              replace h := (if_neg hb78).symm.trans h
              refine zr_iload_n F zd_MPainter_goOverPiece_85 rfl ?_
              refine zr_pcn 86 rfl ?_
              refine zr_iconstv (v := 1) F zd_MPainter_goOverPiece_86 (by decide) ?_
              refine zr_iadd F zd_MPainter_goOverPiece_87 ?_
              refine zr_goto F 92 zd_MPainter_goOverPiece_88 (by decide) ?_
              obtain ⟨x83, ex83, h⟩ := zoL_s h
              rw [← ex83]
              refine zr_istore F zd_MPainter_goOverPiece_92 (by decide) ?_
              refine zr_loc (L' := [(0, .ref (b + o)), (1, .int x0_), (2, .int x1_), (4, .long (p3.1)), (6, .int x77), (7, .int x83)]) ⟨rfl, rfl, rfl, rfl, rfl, rfl, trivial⟩ ?_
              refine zr_aload_n F zd_MPainter_goOverPiece_94 rfl ?_
              obtain ⟨le85, hs84, h⟩ := zoS_s h
              refine zr_get F 13 7 zd_MPainter_goOverPiece_95 (zW_o hs84 (by decide)) rfl (by decide) zw_1584 rfl (by rfl) ?_
              obtain ⟨x86, ex86, h⟩ := zoL_s h
              rw [← ex86]
              refine zr_istore F zd_MPainter_goOverPiece_98 (by decide) ?_
              obtain ⟨q87, eq87, h⟩ := zoB_s h
              refine zr_loc (L' := [(0, .ref (b + o)), (1, .int x0_), (2, .int x1_), (4, .long (p3.1)), (6, .int x77), (7, .int x83), (8, .int x86)]) ⟨rfl, rfl, rfl, rfl, rfl, rfl, rfl, trivial⟩ ?_
              refine lp_MPainter_goOverPiece_100 F _ _ _ _ _ _ _ _ _ _ eq87 ?_
              ·
                obtain rfl := Option.some.inj h
                exact zr_vret F hr zd_MPainter_goOverPiece_165 (Nat.le_of_ble_eq_true rfl) (Nat.le_of_ble_eq_true rfl) ⟨rfl, rfl, rfl⟩
          ·
            replace h := (if_neg hb76).symm.trans h
            refine zr_pcn 69 rfl ?_
            refine zr_iload_n F zd_MPainter_goOverPiece_69 rfl ?_
            refine zr_goto F 76 zd_MPainter_goOverPiece_70 (by decide) ?_
            refine zr_istore F zd_MPainter_goOverPiece_76 (by decide) ?_
            refine zr_lload F zd_MPainter_goOverPiece_78 rfl ?_
            refine zr_lconstv (v := 0) F zd_MPainter_goOverPiece_80 (by decide) ?_
            refine zr_lcmp F zd_MPainter_goOverPiece_81 ?_
            refine zr_if_le F 91 zd_MPainter_goOverPiece_82 (by decide) (fun hb88 => ?_) (fun hb88 => ?_)
            ·
              replace h := (if_pos hb88).symm.trans h
              refine zr_iload_n F zd_MPainter_goOverPiece_91 rfl ?_
              refine zr_pcn 92 rfl ?_
              refine zr_istore F zd_MPainter_goOverPiece_92 (by decide) ?_
              refine zr_loc (L' := [(0, .ref (b + o)), (1, .int x0_), (2, .int x1_), (4, .long (p3.1)), (6, .int x2_), (7, .int x2_)]) ⟨rfl, rfl, rfl, rfl, rfl, rfl, trivial⟩ ?_
              refine zr_aload_n F zd_MPainter_goOverPiece_94 rfl ?_
              obtain ⟨le90, hs89, h⟩ := zoS_s h
              refine zr_get F 13 7 zd_MPainter_goOverPiece_95 (zW_o hs89 (by decide)) rfl (by decide) zw_1584 rfl (by rfl) ?_
              obtain ⟨x91, ex91, h⟩ := zoL_s h
              rw [← ex91]
              refine zr_istore F zd_MPainter_goOverPiece_98 (by decide) ?_
              obtain ⟨q92, eq92, h⟩ := zoB_s h
              refine zr_loc (L' := [(0, .ref (b + o)), (1, .int x0_), (2, .int x1_), (4, .long (p3.1)), (6, .int x2_), (7, .int x2_), (8, .int x91)]) ⟨rfl, rfl, rfl, rfl, rfl, rfl, rfl, trivial⟩ ?_
              refine lp_MPainter_goOverPiece_100 F _ _ _ _ _ _ _ _ _ _ eq92 ?_
              ·
                obtain rfl := Option.some.inj h
                exact zr_vret F hr zd_MPainter_goOverPiece_165 (Nat.le_of_ble_eq_true rfl) (Nat.le_of_ble_eq_true rfl) ⟨rfl, rfl, rfl⟩
            ·
              replace h := (if_neg hb88).symm.trans h
              refine zr_iload_n F zd_MPainter_goOverPiece_85 rfl ?_
              refine zr_iconstv (v := 1) F zd_MPainter_goOverPiece_86 (by decide) ?_
              refine zr_iadd F zd_MPainter_goOverPiece_87 ?_
              refine zr_pcn 88 rfl ?_
              refine zr_goto F 92 zd_MPainter_goOverPiece_88 (by decide) ?_
              obtain ⟨x93, ex93, h⟩ := zoL_s h
              rw [← ex93]
              refine zr_istore F zd_MPainter_goOverPiece_92 (by decide) ?_
              refine zr_loc (L' := [(0, .ref (b + o)), (1, .int x0_), (2, .int x1_), (4, .long (p3.1)), (6, .int x2_), (7, .int x93)]) ⟨rfl, rfl, rfl, rfl, rfl, rfl, trivial⟩ ?_
              refine zr_aload_n F zd_MPainter_goOverPiece_94 rfl ?_
              obtain ⟨le95, hs94, h⟩ := zoS_s h
              refine zr_get F 13 7 zd_MPainter_goOverPiece_95 (zW_o hs94 (by decide)) rfl (by decide) zw_1584 rfl (by rfl) ?_
              obtain ⟨x96, ex96, h⟩ := zoL_s h
              rw [← ex96]
              refine zr_istore F zd_MPainter_goOverPiece_98 (by decide) ?_
              obtain ⟨q97, eq97, h⟩ := zoB_s h
              refine zr_loc (L' := [(0, .ref (b + o)), (1, .int x0_), (2, .int x1_), (4, .long (p3.1)), (6, .int x2_), (7, .int x93), (8, .int x96)]) ⟨rfl, rfl, rfl, rfl, rfl, rfl, rfl, trivial⟩ ?_
              refine lp_MPainter_goOverPiece_100 F _ _ _ _ _ _ _ _ _ _ eq97 ?_
              ·
                obtain rfl := Option.some.inj h
                exact zr_vret F hr zd_MPainter_goOverPiece_165 (Nat.le_of_ble_eq_true rfl) (Nat.le_of_ble_eq_true rfl) ⟨rfl, rfl, rfl⟩
        ·
          replace h := (if_pos hb69).symm.trans h
          obtain rfl := Option.some.inj h
          exact zr_vret F hr zd_MPainter_goOverPiece_51 (Nat.le_of_ble_eq_true rfl) (Nat.le_of_ble_eq_true rfl) ⟨rfl, rfl, rfl⟩
