theorem zf_R_7_3 (b : Nat) (m : zMem) (k : Nat) (v : Option Nat) : (zfl b 7 m k).set 3 (zrf b v) = zfl b 7 (mR m k 3 v) k := by simp [zfl, mR, upd, vp_updL]
theorem zf_I_7_4 (b : Nat) (m : zMem) (k : Nat) (v : Int32) : (zfl b 7 m k).set 4 (.int v) = zfl b 7 (mI m k 4 v) k := by simp [zfl, mI, upd, vp_updL]
theorem zf_R_7_7 (b : Nat) (m : zMem) (k : Nat) (v : Option Nat) : (zfl b 7 m k).set 7 (zrf b v) = zfl b 7 (mR m k 7 v) k := by simp [zfl, mR, upd, vp_updL]
theorem zw_1160 : (Jvm.Cond.methodLink "OrreryBox$Reader" (53 : Nat) ({ cls := "OrreryBox$Reader", name := "wordOf", desc := "(I)Ljava/lang/String;" } : Jvm.MethodName)) ∈ gw := gw_t 1160 (by decide +kernel) rfl
theorem zw_1161 : (Jvm.Cond.static ({ cls := "OrreryBox$Reader", name := "wordOf", desc := "(I)Ljava/lang/String;" } : Jvm.MethodName)) ∈ gw := gw_t 1161 (by decide +kernel) rfl
theorem zs_XReader_53 : zwS "OrreryBox$Reader" 53 zy_XReader_wordOf zb_XReader_wordOf 1 (some (.object "java/lang/String")) := ⟨zw_1160, zw_1161, zw_2, zc_XReader_wordOf⟩
theorem zw_1219 : (Jvm.Cond.methodLink "OrreryBox$Reader" (71 : Nat) ({ cls := "OrreryBox$Reader", name := "readThings", desc := "(I)V" } : Jvm.MethodName)) ∈ gw := gw_t 1219 (by decide +kernel) rfl
theorem zw_1221 : (Jvm.Cond.instanceMethod ({ cls := "OrreryBox$Reader", name := "readThings", desc := "(I)V" } : Jvm.MethodName)) ∈ gw := gw_t 1221 (by decide +kernel) rfl
theorem zv_60 : (Jvm.Cond.selects "OrreryBox$Reader" (⟨"OrreryBox$Reader", "readThings", "(I)V"⟩ : MethodName) ⟨"OrreryBox$Reader", "readThings", "(I)V"⟩) ∈ gw := gw_s 60 (by decide +kernel) rfl
theorem zs_XReader_71 : zwV "OrreryBox$Reader" 71 "OrreryBox$Reader" zy_XReader_readThings zb_XReader_readThings 4 none := ⟨zw_1219, zw_1221, zv_60, zw_2, zc_XReader_readThings⟩
theorem zw_1211 : (Jvm.Cond.methodLink "OrreryBox$Reader" (68 : Nat) ({ cls := "OrreryBox$Reader", name := "readLight", desc := "()V" } : Jvm.MethodName)) ∈ gw := gw_t 1211 (by decide +kernel) rfl
theorem zw_1213 : (Jvm.Cond.instanceMethod ({ cls := "OrreryBox$Reader", name := "readLight", desc := "()V" } : Jvm.MethodName)) ∈ gw := gw_t 1213 (by decide +kernel) rfl
theorem zv_59 : (Jvm.Cond.selects "OrreryBox$Reader" (⟨"OrreryBox$Reader", "readLight", "()V"⟩ : MethodName) ⟨"OrreryBox$Reader", "readLight", "()V"⟩) ∈ gw := gw_s 59 (by decide +kernel) rfl
theorem zs_XReader_68 : zwV "OrreryBox$Reader" 68 "OrreryBox$Reader" zy_XReader_readLight zb_XReader_readLight 1 none := ⟨zw_1211, zw_1213, zv_59, zw_2, zc_XReader_readLight⟩
theorem zw_1180 : (Jvm.Cond.methodLink "OrreryBox$Reader" (65 : Nat) ({ cls := "OrreryBox$Reader", name := "readCamera", desc := "()V" } : Jvm.MethodName)) ∈ gw := gw_t 1180 (by decide +kernel) rfl
theorem zw_1182 : (Jvm.Cond.instanceMethod ({ cls := "OrreryBox$Reader", name := "readCamera", desc := "()V" } : Jvm.MethodName)) ∈ gw := gw_t 1182 (by decide +kernel) rfl
theorem zv_54 : (Jvm.Cond.selects "OrreryBox$Reader" (⟨"OrreryBox$Reader", "readCamera", "()V"⟩ : MethodName) ⟨"OrreryBox$Reader", "readCamera", "()V"⟩) ∈ gw := gw_s 54 (by decide +kernel) rfl
theorem zs_XReader_65 : zwV "OrreryBox$Reader" 65 "OrreryBox$Reader" zy_XReader_readCamera zb_XReader_readCamera 1 none := ⟨zw_1180, zw_1182, zv_54, zw_2, zc_XReader_readCamera⟩
def L_XReader_read_67 (sh : zSh) (fuel : Nat) (v0 : Nat) (v4 : Int32) (v5 : Int32) (mm : zMem) : Option (Nat × Int32 × Int32 × zMem) := match fuel with
  | 0 => none
  | fu + 1 => (if 6 < v5 then some (v0, v4, v5, mm) else (if v4 = 0 then some (v0, v4, v5, mm) else Option.bind (F_XReader_wordOf sh mm v5) (fun p37 => zoS (sh v0) 7 (fun le39 => Option.bind (F_XReader_seesWord sh (p37.2) v0 (p37.1)) (fun p40 => (if p40.1 = 0 then L_XReader_read_67 sh fu v0 v4 (v5 + 1) (p40.2) else Option.bind (F_XReader_wordOf sh (p40.2) v5) (fun p42 => zoS (sh v0) 7 (fun le44 => Option.bind (F_XReader_needName sh (p42.2) v0 (p42.1)) (fun p45 => (if v5 = 5 then zoS (sh v0) 7 (fun le65 => Option.bind (F_XReader_readCamera sh p45 v0) (fun p66 => (if 6 ≤ v5 then L_XReader_read_67 sh fu v0 0 (v5 + 1) p66 else zoS (sh v0) 7 (fun le69 => Option.bind (F_XReader_takes sh p66 v0 44) (fun p70 => (if p70.1 = 0 then L_XReader_read_67 sh fu v0 0 (v5 + 1) (p70.2) else L_XReader_read_67 sh fu v0 1 (v5 + 1) (p70.2))))))) else (if v5 = 6 then zoS (sh v0) 7 (fun le57 => Option.bind (F_XReader_readLight sh p45 v0) (fun p58 => (if 6 ≤ v5 then L_XReader_read_67 sh fu v0 0 (v5 + 1) p58 else zoS (sh v0) 7 (fun le61 => Option.bind (F_XReader_takes sh p58 v0 44) (fun p62 => (if p62.1 = 0 then L_XReader_read_67 sh fu v0 0 (v5 + 1) (p62.2) else L_XReader_read_67 sh fu v0 1 (v5 + 1) (p62.2))))))) else zoS (sh v0) 7 (fun le49 => Option.bind (F_XReader_readThings sh p45 v0 v5) (fun p50 => (if 6 ≤ v5 then L_XReader_read_67 sh fu v0 0 (v5 + 1) p50 else zoS (sh v0) 7 (fun le53 => Option.bind (F_XReader_takes sh p50 v0 44) (fun p54 => (if p54.1 = 0 then L_XReader_read_67 sh fu v0 0 (v5 + 1) (p54.2) else L_XReader_read_67 sh fu v0 1 (v5 + 1) (p54.2))))))))))))))))))
set_option maxHeartbeats 4000000 in
set_option maxRecDepth 100000 in
theorem lp_XReader_read_67 {p : Program} {l : Launch} {e : Env} {s : State} {m : MethodId} {args : Array Value} {below : List Frame} {meth : Method} {c : Code} {D : va_G} {tA : Nat → ClassId} {b n : Nat} {post : Option Value → zV → Nat → Prop} {sh : zSh} (F : zF p s m args meth c zb_XReader_read 6 "OrreryBox$Reader" D tA b) : ∀ (fuel : Nat) (v0 : Nat) (v4 : Int32) (v5 : Int32) (mm : zMem) (r : Nat × Int32 × Int32 × zMem), L_XReader_read_67 sh fuel v0 v4 v5 mm = some r → (Z p l e { frames := 9, cells := 0, slots := 0, locals := 205 } s m args below meth c D b 6 (MQ below (zQ D b post) args s 0 0 (fun q => b ≤ q)) (zW tA b sh r.2.2.2) n 0 0 165 [(0, .ref (b + (r.1))), (4, .int (r.2.1)), (5, .int (r.2.2.1))] []) → Z p l e { frames := 9, cells := 0, slots := 0, locals := 205 } s m args below meth c D b 6 (MQ below (zQ D b post) args s 0 0 (fun q => b ≤ q)) (zW tA b sh mm) n 0 0 67 [(0, .ref (b + v0)), (4, .int v4), (5, .int v5)] [] := by
  intro fuel
  induction fuel with
  | zero =>
    intro v0 v4 v5 mm r h
    cases h
  | succ fu ih =>
    intro v0 v4 v5 mm r h hx0
    rw [L_XReader_read_67] at h
    refine zr_iload F zd_XReader_read_67 rfl ?_
    refine zr_bipushv (v := 6) F zd_XReader_read_69 (by decide) ?_
    refine zr_icmp_gt F 165 zd_XReader_read_71 (by decide) (fun hb35 => ?_) (fun hb35 => ?_)
    ·
      replace h := (if_pos hb35).symm.trans h
      obtain rfl := Option.some.inj h
      refine zr_loc (L' := [(0, .ref (b + v0)), (4, .int v4), (5, .int v5)]) ⟨rfl, rfl, rfl, trivial⟩ ?_
      exact hx0 
    ·
      replace h := (if_neg hb35).symm.trans h
      refine zr_iload F zd_XReader_read_74 rfl ?_
      refine zr_pcn 76 rfl ?_
      refine zr_if_eq F 165 zd_XReader_read_76 (by decide) (fun hb36 => ?_) (fun hb36 => ?_)
      ·
        replace h := (if_pos hb36).symm.trans h
        obtain rfl := Option.some.inj h
        refine zr_loc (L' := [(0, .ref (b + v0)), (4, .int v4), (5, .int v5)]) ⟨rfl, rfl, rfl, trivial⟩ ?_
        exact hx0 
      ·
        replace h := (if_neg hb36).symm.trans h
        refine zr_aload_n F zd_XReader_read_79 rfl ?_
        refine zr_iload F zd_XReader_read_80 rfl ?_
        obtain ⟨p37, ep37, h⟩ := zoB_s h
        refine zr_callS1 F (k_XReader_wordOf l D tA b sh _ ep37) zd_XReader_read_82 zs_XReader_53 zq_XReader_wordOf rfl rfl ⟨(Nat.le_of_ble_eq_true rfl), (Nat.le_of_ble_eq_true rfl)⟩ (Nat.le_of_ble_eq_true rfl) ⟨(Nat.le_of_ble_eq_true rfl), (Nat.le_of_ble_eq_true rfl)⟩ ?_
        obtain ⟨le39, hs38, h⟩ := zoS_s h
        obtain ⟨p40, ep40, h⟩ := zoB_s h
        refine zr_callV1 F (k_XReader_seesWord l D tA b sh _ ep40) zd_XReader_read_85 (zW_o hs38 (by decide)) rfl zs_XReader_57 rfl zq_XReader_seesWord rfl rfl ⟨(Nat.le_of_ble_eq_true rfl), (Nat.le_of_ble_eq_true rfl)⟩ (Nat.le_of_ble_eq_true rfl) ⟨(Nat.le_of_ble_eq_true rfl), (Nat.le_of_ble_eq_true rfl)⟩ ?_
        refine zr_if_ne F 94 zd_XReader_read_88 (by decide) (fun hb41 => ?_) (fun hb41 => ?_)
        ·
          replace h := (if_neg hb41).symm.trans h
          refine zr_aload_n F zd_XReader_read_94 rfl ?_
          refine zr_iload F zd_XReader_read_95 rfl ?_
          refine zr_pcn 97 rfl ?_
          obtain ⟨p42, ep42, h⟩ := zoB_s h
          refine zr_callS1 F (k_XReader_wordOf l D tA b sh _ ep42) zd_XReader_read_97 zs_XReader_53 zq_XReader_wordOf rfl rfl ⟨(Nat.le_of_ble_eq_true rfl), (Nat.le_of_ble_eq_true rfl)⟩ (Nat.le_of_ble_eq_true rfl) ⟨(Nat.le_of_ble_eq_true rfl), (Nat.le_of_ble_eq_true rfl)⟩ ?_
          obtain ⟨le44, hs43, h⟩ := zoS_s h
          obtain ⟨p45, ep45, h⟩ := zoB_s h
          refine zr_callV0 F (k_XReader_needName l D tA b sh _ ep45) zd_XReader_read_100 (zW_o hs43 (by decide)) rfl zs_XReader_61 rfl zq_XReader_needName rfl rfl ⟨(Nat.le_of_ble_eq_true rfl), (Nat.le_of_ble_eq_true rfl)⟩ (Nat.le_of_ble_eq_true rfl) ⟨(Nat.le_of_ble_eq_true rfl), (Nat.le_of_ble_eq_true rfl)⟩ ?_
          refine zr_iload F zd_XReader_read_103 rfl ?_
          refine zr_iconstv (v := 5) F zd_XReader_read_105 (by decide) ?_
          refine zr_icmp_ne F 116 zd_XReader_read_106 (by decide) (fun hb46 => ?_) (fun hb46 => ?_)
          ·
            replace h := (if_neg hb46).symm.trans h
            refine zr_iload F zd_XReader_read_116 rfl ?_
            refine zr_bipushv (v := 6) F zd_XReader_read_118 (by decide) ?_
            refine zr_icmp_ne F 130 zd_XReader_read_120 (by decide) (fun hb47 => ?_) (fun hb47 => ?_)
            ·
              replace h := (if_neg hb47).symm.trans h
              refine zr_pcn 130 rfl ?_
              refine zr_aload_n F zd_XReader_read_130 rfl ?_
              refine zr_iload F zd_XReader_read_131 rfl ?_
              obtain ⟨le49, hs48, h⟩ := zoS_s h
              obtain ⟨p50, ep50, h⟩ := zoB_s h
              refine zr_callV0 F (k_XReader_readThings l D tA b sh _ ep50) zd_XReader_read_133 (zW_o hs48 (by decide)) rfl zs_XReader_71 rfl zq_XReader_readThings rfl rfl ⟨(Nat.le_of_ble_eq_true rfl), (Nat.le_of_ble_eq_true rfl)⟩ (Nat.le_of_ble_eq_true rfl) ⟨(Nat.le_of_ble_eq_true rfl), (Nat.le_of_ble_eq_true rfl)⟩ ?_
              refine zr_iload F zd_XReader_read_136 rfl ?_
              refine zr_bipushv (v := 6) F zd_XReader_read_138 (by decide) ?_
              refine zr_icmp_ge F 156 zd_XReader_read_140 (by decide) (fun hb51 => ?_) (fun hb51 => ?_)
              ·
                replace h := (if_pos hb51).symm.trans h
                refine zr_iconstv (v := 0) F zd_XReader_read_156 (by decide) ?_
                refine zr_istore F zd_XReader_read_157 (by decide) ?_
                refine zr_pcn 159 rfl ?_
                refine zr_iinc (v := (v5 + 1)) F zd_XReader_read_159 rfl rfl (by decide) ?_
                refine zr_goto F 67 zd_XReader_read_162 (by decide) ?_
                refine zr_loc (L' := [(0, .ref (b + v0)), (4, .int 0), (5, .int (v5 + 1))]) ⟨rfl, rfl, rfl, trivial⟩ ?_
                exact ih _ _ _ _ _ h hx0
              ·
                replace h := (if_neg hb51).symm.trans h
                refine zr_aload_n F zd_XReader_read_143 rfl ?_
                refine zr_bipushv (v := 44) F zd_XReader_read_144 (by decide) ?_
                obtain ⟨le53, hs52, h⟩ := zoS_s h
                obtain ⟨p54, ep54, h⟩ := zoB_s h
                refine zr_callV1 F (k_XReader_takes l D tA b sh _ ep54) zd_XReader_read_146 (zW_o hs52 (by decide)) rfl zs_XReader_74 rfl zq_XReader_takes rfl rfl ⟨(Nat.le_of_ble_eq_true rfl), (Nat.le_of_ble_eq_true rfl)⟩ (Nat.le_of_ble_eq_true rfl) ⟨(Nat.le_of_ble_eq_true rfl), (Nat.le_of_ble_eq_true rfl)⟩ ?_
                refine zr_if_eq F 156 zd_XReader_read_149 (by decide) (fun hb55 => ?_) (fun hb55 => ?_)
                ·
                  replace h := (if_pos hb55).symm.trans h
                  refine zr_iconstv (v := 0) F zd_XReader_read_156 (by decide) ?_
                  refine zr_istore F zd_XReader_read_157 (by decide) ?_
                  refine zr_pcn 159 rfl ?_
                  refine zr_iinc (v := (v5 + 1)) F zd_XReader_read_159 rfl rfl (by decide) ?_
                  refine zr_goto F 67 zd_XReader_read_162 (by decide) ?_
                  refine zr_loc (L' := [(0, .ref (b + v0)), (4, .int 0), (5, .int (v5 + 1))]) ⟨rfl, rfl, rfl, trivial⟩ ?_
                  exact ih _ _ _ _ _ h hx0
                ·
                  replace h := (if_neg hb55).symm.trans h
                  refine zr_iconstv (v := 1) F zd_XReader_read_152 (by decide) ?_
                  refine zr_goto F 157 zd_XReader_read_153 (by decide) ?_
                  refine zr_istore F zd_XReader_read_157 (by decide) ?_
                  refine zr_iinc (v := (v5 + 1)) F zd_XReader_read_159 rfl rfl (by decide) ?_
                  refine zr_goto F 67 zd_XReader_read_162 (by decide) ?_
                  refine zr_loc (L' := [(0, .ref (b + v0)), (4, .int 1), (5, .int (v5 + 1))]) ⟨rfl, rfl, rfl, trivial⟩ ?_
                  exact ih _ _ _ _ _ h hx0
            ·
              replace h := (if_pos hb47).symm.trans h
              refine zr_aload_n F zd_XReader_read_123 rfl ?_
              refine zr_pcn 124 rfl ?_
              obtain ⟨le57, hs56, h⟩ := zoS_s h
              obtain ⟨p58, ep58, h⟩ := zoB_s h
              refine zr_callV0 F (k_XReader_readLight l D tA b sh _ ep58) zd_XReader_read_124 (zW_o hs56 (by decide)) rfl zs_XReader_68 rfl zq_XReader_readLight rfl rfl ⟨(Nat.le_of_ble_eq_true rfl), (Nat.le_of_ble_eq_true rfl)⟩ (Nat.le_of_ble_eq_true rfl) ⟨(Nat.le_of_ble_eq_true rfl), (Nat.le_of_ble_eq_true rfl)⟩ ?_
              refine zr_goto F 136 zd_XReader_read_127 (by decide) ?_
              refine zr_iload F zd_XReader_read_136 rfl ?_
              refine zr_bipushv (v := 6) F zd_XReader_read_138 (by decide) ?_
              refine zr_icmp_ge F 156 zd_XReader_read_140 (by decide) (fun hb59 => ?_) (fun hb59 => ?_)
              ·
                replace h := (if_pos hb59).symm.trans h
                refine zr_iconstv (v := 0) F zd_XReader_read_156 (by decide) ?_
                refine zr_istore F zd_XReader_read_157 (by decide) ?_
                refine zr_iinc (v := (v5 + 1)) F zd_XReader_read_159 rfl rfl (by decide) ?_
                refine zr_pcn 162 rfl ?_
                refine zr_goto F 67 zd_XReader_read_162 (by decide) ?_
                refine zr_loc (L' := [(0, .ref (b + v0)), (4, .int 0), (5, .int (v5 + 1))]) ⟨rfl, rfl, rfl, trivial⟩ ?_
                exact ih _ _ _ _ _ h hx0
              ·
                replace h := (if_neg hb59).symm.trans h
                refine zr_aload_n F zd_XReader_read_143 rfl ?_
                refine zr_bipushv (v := 44) F zd_XReader_read_144 (by decide) ?_
                obtain ⟨le61, hs60, h⟩ := zoS_s h
                obtain ⟨p62, ep62, h⟩ := zoB_s h
                refine zr_callV1 F (k_XReader_takes l D tA b sh _ ep62) zd_XReader_read_146 (zW_o hs60 (by decide)) rfl zs_XReader_74 rfl zq_XReader_takes rfl rfl ⟨(Nat.le_of_ble_eq_true rfl), (Nat.le_of_ble_eq_true rfl)⟩ (Nat.le_of_ble_eq_true rfl) ⟨(Nat.le_of_ble_eq_true rfl), (Nat.le_of_ble_eq_true rfl)⟩ ?_
                refine zr_if_eq F 156 zd_XReader_read_149 (by decide) (fun hb63 => ?_) (fun hb63 => ?_)
                ·
                  replace h := (if_pos hb63).symm.trans h
                  refine zr_iconstv (v := 0) F zd_XReader_read_156 (by decide) ?_
                  refine zr_istore F zd_XReader_read_157 (by decide) ?_
                  refine zr_iinc (v := (v5 + 1)) F zd_XReader_read_159 rfl rfl (by decide) ?_
                  refine zr_pcn 162 rfl ?_
                  refine zr_goto F 67 zd_XReader_read_162 (by decide) ?_
                  refine zr_loc (L' := [(0, .ref (b + v0)), (4, .int 0), (5, .int (v5 + 1))]) ⟨rfl, rfl, rfl, trivial⟩ ?_
                  exact ih _ _ _ _ _ h hx0
                ·
                  replace h := (if_neg hb63).symm.trans h
                  refine zr_iconstv (v := 1) F zd_XReader_read_152 (by decide) ?_
                  refine zr_goto F 157 zd_XReader_read_153 (by decide) ?_
                  refine zr_istore F zd_XReader_read_157 (by decide) ?_
                  refine zr_iinc (v := (v5 + 1)) F zd_XReader_read_159 rfl rfl (by decide) ?_
                  refine zr_goto F 67 zd_XReader_read_162 (by decide) ?_
                  refine zr_loc (L' := [(0, .ref (b + v0)), (4, .int 1), (5, .int (v5 + 1))]) ⟨rfl, rfl, rfl, trivial⟩ ?_
                  exact ih _ _ _ _ _ h hx0
          ·
            replace h := (if_pos hb46).symm.trans h
            refine zr_aload_n F zd_XReader_read_109 rfl ?_
            obtain ⟨le65, hs64, h⟩ := zoS_s h
            obtain ⟨p66, ep66, h⟩ := zoB_s h
            refine zr_callV0 F (k_XReader_readCamera l D tA b sh _ ep66) zd_XReader_read_110 (zW_o hs64 (by decide)) rfl zs_XReader_65 rfl zq_XReader_readCamera rfl rfl ⟨(Nat.le_of_ble_eq_true rfl), (Nat.le_of_ble_eq_true rfl)⟩ (Nat.le_of_ble_eq_true rfl) ⟨(Nat.le_of_ble_eq_true rfl), (Nat.le_of_ble_eq_true rfl)⟩ ?_
            refine zr_pcn 113 rfl ?_
            refine zr_goto F 136 zd_XReader_read_113 (by decide) ?_
            refine zr_iload F zd_XReader_read_136 rfl ?_
            refine zr_bipushv (v := 6) F zd_XReader_read_138 (by decide) ?_
            refine zr_icmp_ge F 156 zd_XReader_read_140 (by decide) (fun hb67 => ?_) (fun hb67 => ?_)
            ·
              replace h := (if_pos hb67).symm.trans h
              refine zr_iconstv (v := 0) F zd_XReader_read_156 (by decide) ?_
              refine zr_istore F zd_XReader_read_157 (by decide) ?_
              refine zr_iinc (v := (v5 + 1)) F zd_XReader_read_159 rfl rfl (by decide) ?_
              refine zr_goto F 67 zd_XReader_read_162 (by decide) ?_
              refine zr_loc (L' := [(0, .ref (b + v0)), (4, .int 0), (5, .int (v5 + 1))]) ⟨rfl, rfl, rfl, trivial⟩ ?_
              exact ih _ _ _ _ _ h hx0
            ·
              replace h := (if_neg hb67).symm.trans h
              refine zr_pcn 143 rfl ?_
              refine zr_aload_n F zd_XReader_read_143 rfl ?_
              refine zr_bipushv (v := 44) F zd_XReader_read_144 (by decide) ?_
              obtain ⟨le69, hs68, h⟩ := zoS_s h
              obtain ⟨p70, ep70, h⟩ := zoB_s h
              refine zr_callV1 F (k_XReader_takes l D tA b sh _ ep70) zd_XReader_read_146 (zW_o hs68 (by decide)) rfl zs_XReader_74 rfl zq_XReader_takes rfl rfl ⟨(Nat.le_of_ble_eq_true rfl), (Nat.le_of_ble_eq_true rfl)⟩ (Nat.le_of_ble_eq_true rfl) ⟨(Nat.le_of_ble_eq_true rfl), (Nat.le_of_ble_eq_true rfl)⟩ ?_
              refine zr_if_eq F 156 zd_XReader_read_149 (by decide) (fun hb71 => ?_) (fun hb71 => ?_)
              ·
                replace h := (if_pos hb71).symm.trans h
                refine zr_iconstv (v := 0) F zd_XReader_read_156 (by decide) ?_
                refine zr_istore F zd_XReader_read_157 (by decide) ?_
                refine zr_iinc (v := (v5 + 1)) F zd_XReader_read_159 rfl rfl (by decide) ?_
                refine zr_goto F 67 zd_XReader_read_162 (by decide) ?_
                refine zr_loc (L' := [(0, .ref (b + v0)), (4, .int 0), (5, .int (v5 + 1))]) ⟨rfl, rfl, rfl, trivial⟩ ?_
                exact ih _ _ _ _ _ h hx0
              ·
                replace h := (if_neg hb71).symm.trans h
                refine zr_pcn 152 rfl ?_
                refine zr_iconstv (v := 1) F zd_XReader_read_152 (by decide) ?_
                refine zr_goto F 157 zd_XReader_read_153 (by decide) ?_
                refine zr_istore F zd_XReader_read_157 (by decide) ?_
                refine zr_iinc (v := (v5 + 1)) F zd_XReader_read_159 rfl rfl (by decide) ?_
                refine zr_goto F 67 zd_XReader_read_162 (by decide) ?_
                refine zr_loc (L' := [(0, .ref (b + v0)), (4, .int 1), (5, .int (v5 + 1))]) ⟨rfl, rfl, rfl, trivial⟩ ?_
                exact ih _ _ _ _ _ h hx0
        ·
          replace h := (if_pos hb41).symm.trans h
          refine zr_goto F 159 zd_XReader_read_91 (by decide) ?_
          refine zr_iinc (v := (v5 + 1)) F zd_XReader_read_159 rfl rfl (by decide) ?_
          refine zr_goto F 67 zd_XReader_read_162 (by decide) ?_
          refine zr_loc (L' := [(0, .ref (b + v0)), (4, .int v4), (5, .int (v5 + 1))]) ⟨rfl, rfl, rfl, trivial⟩ ?_
          exact ih _ _ _ _ _ h hx0
def F_XReader_read (sh : zSh) (mm : zMem) (o : Nat) (x0_ : Nat) (x1_ : Int32) (x2_ : Nat) : Option zMem := zoS (sh o) 7 (fun le2 => zoL (mR mm o 3 (some x0_)) (fun mm3 => zoS (sh o) 7 (fun le5 => zoL (mI mm3 o 4 x1_) (fun mm6 => zoS (sh o) 7 (fun le8 => zoL (mR mm6 o 7 (some x2_)) (fun mm9 => zoS (sh o) 7 (fun le11 => zoL (mI mm9 o 5 0) (fun mm12 => zoS (sh o) 7 (fun le14 => zoL (mI mm12 o 0 0) (fun mm15 => zoS (sh o) 7 (fun le17 => zoL (mI mm15 o 1 0) (fun mm18 => zoS (sh o) 7 (fun le20 => Option.bind (mm18.2.2 o 7) (fun a21 => zoS (sh a21) 8 (fun le23 => Option.bind (F_XScene_clear sh mm18 a21) (fun p24 => zoS (sh o) 7 (fun le26 => Option.bind (F_XReader_step sh p24 o 0) (fun p27 => zoS (sh o) 7 (fun le29 => Option.bind (F_XReader_need sh p27 o 123) (fun p30 => zoS (sh o) 7 (fun le32 => Option.bind (F_XReader_sees sh p30 o 125) (fun p33 => (if p33.1 = 0 then Option.bind (L_XReader_read_67 sh zfuel o 1 0 (p33.2)) (fun q92 => (if q92.2.1 = 0 then zoS (sh (q92.1)) 7 (fun le95 => Option.bind (F_XReader_need sh (q92.2.2.2) (q92.1) 125) (fun p96 => zoS (sh (q92.1)) 7 (fun le98 => zoS (sh (q92.1)) 7 (fun le100 => (if (p96.1 (q92.1) 4) ≤ (p96.1 (q92.1) 5) then some p96 else zoS (sh (q92.1)) 7 (fun le103 => zoS (sh (q92.1)) 7 (fun le105 => none))))))) else zoS (sh (q92.1)) 7 (fun le108 => zoS (sh (q92.1)) 7 (fun le110 => none)))) else Option.bind (L_XReader_read_67 sh zfuel o 0 0 (p33.2)) (fun q72 => (if q72.2.1 = 0 then zoS (sh (q72.1)) 7 (fun le75 => Option.bind (F_XReader_need sh (q72.2.2.2) (q72.1) 125) (fun p76 => zoS (sh (q72.1)) 7 (fun le78 => zoS (sh (q72.1)) 7 (fun le80 => (if (p76.1 (q72.1) 4) ≤ (p76.1 (q72.1) 5) then some p76 else zoS (sh (q72.1)) 7 (fun le83 => zoS (sh (q72.1)) 7 (fun le85 => none))))))) else zoS (sh (q72.1)) 7 (fun le88 => zoS (sh (q72.1)) 7 (fun le90 => none)))))))))))))))))))))))))))
set_option maxHeartbeats 4000000 in
set_option maxRecDepth 100000 in
theorem k_XReader_read (l : Launch) (D : va_G) (tA : Nat → ClassId) (b : Nat) (sh : zSh) (n : Nat) {mm : zMem} {o : Nat} {x0_ : Nat} {x1_ : Int32} {x2_ : Nat} {r : zMem} (h : F_XReader_read sh mm o x0_ x1_ x2_ = some r) : zM l D tA b zy_XReader_read zb_XReader_read 6 none 9 205 0 0 [.ref (b + o), .ref (b + x0_), .int x1_, .ref (b + x2_)] (zW tA b sh mm) n (zE none (zW tA b sh r) n) := by
  unfold F_XReader_read at h
  refine zM_of (own := "OrreryBox$Reader") (plainFor_of_name (by decide)) rfl (Nat.le_of_ble_eq_true rfl) (fun p e s m below meth c F hr hin hH => ?_)
  refine zr_aload_n F zd_XReader_read_0 rfl ?_
  refine zr_aload_n F zd_XReader_read_1 rfl ?_
  obtain ⟨le2, hs1, h⟩ := zoS_s h
  refine zr_put F 7 3 zd_XReader_read_2 (zW_o hs1 (by decide)) rfl (by decide) zw_51 rfl rfl rfl rfl (by exact (Nat.le_of_ble_eq_true rfl)) ?_
  obtain ⟨mm3, emm3, h⟩ := zoL_s h
  refine zr_norm (zW tA b sh mm3) _ (by rw [emm3]; exact zW_pR (v := (some x0_)) hs1 (by decide) (zf_R_7_3 b _ _ _)) rfl ?_
  refine zr_aload_n F zd_XReader_read_5 rfl ?_
  refine zr_iload_n F zd_XReader_read_6 rfl ?_
  obtain ⟨le5, hs4, h⟩ := zoS_s h
  refine zr_put F 7 4 zd_XReader_read_7 (zW_o hs4 (by decide)) rfl (by decide) zw_52 rfl rfl rfl rfl (by exact (Nat.le_of_ble_eq_true rfl)) ?_
  obtain ⟨mm6, emm6, h⟩ := zoL_s h
  refine zr_norm (zW tA b sh mm6) _ (by rw [emm6]; exact zW_pI (v := x1_) hs4 (by decide) (zf_I_7_4 b _ _ _)) rfl ?_
  refine zr_aload_n F zd_XReader_read_10 rfl ?_
  refine zr_pcn 11 rfl ?_
  refine zr_aload_n F zd_XReader_read_11 rfl ?_
  obtain ⟨le8, hs7, h⟩ := zoS_s h
  refine zr_put F 7 7 zd_XReader_read_12 (zW_o hs7 (by decide)) rfl (by decide) zw_55 rfl rfl rfl rfl (by exact (Nat.le_of_ble_eq_true rfl)) ?_
  obtain ⟨mm9, emm9, h⟩ := zoL_s h
  refine zr_norm (zW tA b sh mm9) _ (by rw [emm9]; exact zW_pR (v := (some x2_)) hs7 (by decide) (zf_R_7_7 b _ _ _)) rfl ?_
  refine zr_aload_n F zd_XReader_read_15 rfl ?_
  refine zr_iconstv (v := 0) F zd_XReader_read_16 (by decide) ?_
  obtain ⟨le11, hs10, h⟩ := zoS_s h
  refine zr_put F 7 5 zd_XReader_read_17 (zW_o hs10 (by decide)) rfl (by decide) zw_53 rfl rfl rfl rfl (by exact (Nat.le_of_ble_eq_true rfl)) ?_
  obtain ⟨mm12, emm12, h⟩ := zoL_s h
  refine zr_norm (zW tA b sh mm12) _ (by rw [emm12]; exact zW_pI (v := 0) hs10 (by decide) (zf_I_7_5 b _ _ _)) rfl ?_
  refine zr_aload_n F zd_XReader_read_20 rfl ?_
  refine zr_iconstv (v := 0) F zd_XReader_read_21 (by decide) ?_
  obtain ⟨le14, hs13, h⟩ := zoS_s h
  refine zr_put F 7 0 zd_XReader_read_22 (zW_o hs13 (by decide)) rfl (by decide) zw_46 rfl rfl rfl rfl (by exact (Nat.le_of_ble_eq_true rfl)) ?_
  obtain ⟨mm15, emm15, h⟩ := zoL_s h
  refine zr_norm (zW tA b sh mm15) _ (by rw [emm15]; exact zW_pI (v := 0) hs13 (by decide) (zf_I_7_0 b _ _ _)) rfl ?_
  refine zr_pcn 25 rfl ?_
  refine zr_aload_n F zd_XReader_read_25 rfl ?_
  refine zr_iconstv (v := 0) F zd_XReader_read_26 (by decide) ?_
  obtain ⟨le17, hs16, h⟩ := zoS_s h
  refine zr_put F 7 1 zd_XReader_read_27 (zW_o hs16 (by decide)) rfl (by decide) zw_48 rfl rfl rfl rfl (by exact (Nat.le_of_ble_eq_true rfl)) ?_
  obtain ⟨mm18, emm18, h⟩ := zoL_s h
  refine zr_norm (zW tA b sh mm18) _ (by rw [emm18]; exact zW_pI (v := 0) hs16 (by decide) (zf_I_7_1 b _ _ _)) rfl ?_
  refine zr_aload_n F zd_XReader_read_30 rfl ?_
  obtain ⟨le20, hs19, h⟩ := zoS_s h
  obtain ⟨a21, ea21, h⟩ := zoB_s h
  refine zr_get F 7 7 zd_XReader_read_31 (zW_o hs19 (by decide)) rfl (by decide) zw_55 rfl (by rfl) ?_
  refine zr_tor ea21 ?_
  obtain ⟨le23, hs22, h⟩ := zoS_s h
  obtain ⟨p24, ep24, h⟩ := zoB_s h
  refine zr_callVN0 F (k_XScene_clear l D tA b sh _ ep24) zd_XReader_read_34 (zW_o hs22 (by decide)) rfl zs_XReader_36 rfl zq_XScene_clear rfl rfl ⟨(Nat.le_of_ble_eq_true rfl), (Nat.le_of_ble_eq_true rfl)⟩ (Nat.le_of_ble_eq_true rfl) ⟨(Nat.le_of_ble_eq_true rfl), (Nat.le_of_ble_eq_true rfl)⟩ ?_
  refine zr_aload_n F zd_XReader_read_37 rfl ?_
  refine zr_iconstv (v := 0) F zd_XReader_read_38 (by decide) ?_
  refine zr_pcn 39 rfl ?_
  obtain ⟨le26, hs25, h⟩ := zoS_s h
  obtain ⟨p27, ep27, h⟩ := zoB_s h
  refine zr_callV0 F (k_XReader_step l D tA b sh _ ep27) zd_XReader_read_39 (zW_o hs25 (by decide)) rfl zs_XReader_41 rfl zq_XReader_step rfl rfl ⟨(Nat.le_of_ble_eq_true rfl), (Nat.le_of_ble_eq_true rfl)⟩ (Nat.le_of_ble_eq_true rfl) ⟨(Nat.le_of_ble_eq_true rfl), (Nat.le_of_ble_eq_true rfl)⟩ ?_
  refine zr_aload_n F zd_XReader_read_42 rfl ?_
  refine zr_bipushv (v := 123) F zd_XReader_read_43 (by decide) ?_
  obtain ⟨le29, hs28, h⟩ := zoS_s h
  obtain ⟨p30, ep30, h⟩ := zoB_s h
  refine zr_callV0 F (k_XReader_need l D tA b sh _ ep30) zd_XReader_read_45 (zW_o hs28 (by decide)) rfl zs_XReader_45 rfl zq_XReader_need rfl rfl ⟨(Nat.le_of_ble_eq_true rfl), (Nat.le_of_ble_eq_true rfl)⟩ (Nat.le_of_ble_eq_true rfl) ⟨(Nat.le_of_ble_eq_true rfl), (Nat.le_of_ble_eq_true rfl)⟩ ?_
  refine zr_aload_n F zd_XReader_read_48 rfl ?_
  refine zr_bipushv (v := 125) F zd_XReader_read_49 (by decide) ?_
  obtain ⟨le32, hs31, h⟩ := zoS_s h
  obtain ⟨p33, ep33, h⟩ := zoB_s h
  refine zr_callV1 F (k_XReader_sees l D tA b sh _ ep33) zd_XReader_read_51 (zW_o hs31 (by decide)) rfl zs_XReader_49 rfl zq_XReader_sees rfl rfl ⟨(Nat.le_of_ble_eq_true rfl), (Nat.le_of_ble_eq_true rfl)⟩ (Nat.le_of_ble_eq_true rfl) ⟨(Nat.le_of_ble_eq_true rfl), (Nat.le_of_ble_eq_true rfl)⟩ ?_
  refine zr_if_ne F 61 zd_XReader_read_54 (by decide) (fun hb34 => ?_) (fun hb34 => ?_)
  ·
    replace h := (if_neg hb34).symm.trans h
    refine zr_pcn 61 rfl ?_
    refine zr_iconstv (v := 0) F zd_XReader_read_61 (by decide) ?_
    refine zr_istore F zd_XReader_read_62 (by decide) ?_
    refine zr_iconstv (v := 0) F zd_XReader_read_64 (by decide) ?_
    refine zr_istore F zd_XReader_read_65 (by decide) ?_
    obtain ⟨q72, eq72, h⟩ := zoB_s h
    refine zr_loc (L' := [(0, .ref (b + o)), (4, .int 0), (5, .int 0)]) ⟨rfl, rfl, rfl, trivial⟩ ?_
    refine lp_XReader_read_67 F _ _ _ _ _ _ eq72 ?_
    ·
      refine zr_pcn 165 rfl ?_
      refine zr_iload F zd_XReader_read_165 rfl ?_
      refine zr_if_eq F 179 zd_XReader_read_167 (by decide) (fun hb73 => ?_) (fun hb73 => ?_)
      ·
        replace h := (if_pos hb73).symm.trans h
        refine zr_aload_n F zd_XReader_read_179 rfl ?_
        refine zr_bipushv (v := 125) F zd_XReader_read_180 (by decide) ?_
        obtain ⟨le75, hs74, h⟩ := zoS_s h
        obtain ⟨p76, ep76, h⟩ := zoB_s h
        refine zr_callV0 F (k_XReader_need l D tA b sh _ ep76) zd_XReader_read_182 (zW_o hs74 (by decide)) rfl zs_XReader_45 rfl zq_XReader_need rfl rfl ⟨(Nat.le_of_ble_eq_true rfl), (Nat.le_of_ble_eq_true rfl)⟩ (Nat.le_of_ble_eq_true rfl) ⟨(Nat.le_of_ble_eq_true rfl), (Nat.le_of_ble_eq_true rfl)⟩ ?_
        refine zr_aload_n F zd_XReader_read_185 rfl ?_
        obtain ⟨le78, hs77, h⟩ := zoS_s h
        refine zr_get F 7 5 zd_XReader_read_186 (zW_o hs77 (by decide)) rfl (by decide) zw_53 rfl (by rfl) ?_
        refine zr_aload_n F zd_XReader_read_189 rfl ?_
        refine zr_pcn 190 rfl ?_
        obtain ⟨le80, hs79, h⟩ := zoS_s h
        refine zr_get F 7 4 zd_XReader_read_190 (zW_o hs79 (by decide)) rfl (by decide) zw_52 rfl (by rfl) ?_
        refine zr_icmp_ge F 205 zd_XReader_read_193 (by decide) (fun hb81 => ?_) (fun hb81 => ?_)
        ·
          replace h := (if_pos hb81).symm.trans h
          obtain rfl := Option.some.inj h
          exact zr_vret F hr zd_XReader_read_205 (Nat.le_of_ble_eq_true rfl) (Nat.le_of_ble_eq_true rfl) ⟨rfl, rfl, rfl⟩
        ·
          replace h := (if_neg hb81).symm.trans h
          refine zr_aload_n F zd_XReader_read_196 rfl ?_
          refine zr_iconstv (v := 1) F zd_XReader_read_197 (by decide) ?_
          refine zr_aload_n F zd_XReader_read_198 rfl ?_
          obtain ⟨le83, hs82, h⟩ := zoS_s h
          refine zr_get F 7 5 zd_XReader_read_199 (zW_o hs82 (by decide)) rfl (by decide) zw_53 rfl (by rfl) ?_
          obtain ⟨le85, hs84, h⟩ := zoS_s h
          cases h
      ·
        replace h := (if_neg hb73).symm.trans h
        refine zr_pcn 170 rfl ?_
        refine zr_aload_n F zd_XReader_read_170 rfl ?_
        refine zr_iconstv (v := 1) F zd_XReader_read_171 (by decide) ?_
        refine zr_aload_n F zd_XReader_read_172 rfl ?_
        obtain ⟨le88, hs87, h⟩ := zoS_s h
        refine zr_get F 7 5 zd_XReader_read_173 (zW_o hs87 (by decide)) rfl (by decide) zw_53 rfl (by rfl) ?_
        obtain ⟨le90, hs89, h⟩ := zoS_s h
        cases h
  ·
    replace h := (if_pos hb34).symm.trans h
    refine zr_iconstv (v := 1) F zd_XReader_read_57 (by decide) ?_
    refine zr_goto F 62 zd_XReader_read_58 (by decide) ?_
    refine zr_istore F zd_XReader_read_62 (by decide) ?_
    refine zr_pcn 64 rfl ?_
    refine zr_iconstv (v := 0) F zd_XReader_read_64 (by decide) ?_
    refine zr_istore F zd_XReader_read_65 (by decide) ?_
    obtain ⟨q92, eq92, h⟩ := zoB_s h
    refine zr_loc (L' := [(0, .ref (b + o)), (4, .int 1), (5, .int 0)]) ⟨rfl, rfl, rfl, trivial⟩ ?_
    refine lp_XReader_read_67 F _ _ _ _ _ _ eq92 ?_
    ·
      refine zr_iload F zd_XReader_read_165 rfl ?_
      refine zr_if_eq F 179 zd_XReader_read_167 (by decide) (fun hb93 => ?_) (fun hb93 => ?_)
      ·
        replace h := (if_pos hb93).symm.trans h
        refine zr_aload_n F zd_XReader_read_179 rfl ?_
        refine zr_bipushv (v := 125) F zd_XReader_read_180 (by decide) ?_
        obtain ⟨le95, hs94, h⟩ := zoS_s h
        obtain ⟨p96, ep96, h⟩ := zoB_s h
        refine zr_callV0 F (k_XReader_need l D tA b sh _ ep96) zd_XReader_read_182 (zW_o hs94 (by decide)) rfl zs_XReader_45 rfl zq_XReader_need rfl rfl ⟨(Nat.le_of_ble_eq_true rfl), (Nat.le_of_ble_eq_true rfl)⟩ (Nat.le_of_ble_eq_true rfl) ⟨(Nat.le_of_ble_eq_true rfl), (Nat.le_of_ble_eq_true rfl)⟩ ?_
        refine zr_aload_n F zd_XReader_read_185 rfl ?_
        refine zr_pcn 186 rfl ?_
        obtain ⟨le98, hs97, h⟩ := zoS_s h
        refine zr_get F 7 5 zd_XReader_read_186 (zW_o hs97 (by decide)) rfl (by decide) zw_53 rfl (by rfl) ?_
        refine zr_aload_n F zd_XReader_read_189 rfl ?_
        obtain ⟨le100, hs99, h⟩ := zoS_s h
        refine zr_get F 7 4 zd_XReader_read_190 (zW_o hs99 (by decide)) rfl (by decide) zw_52 rfl (by rfl) ?_
        refine zr_icmp_ge F 205 zd_XReader_read_193 (by decide) (fun hb101 => ?_) (fun hb101 => ?_)
        ·
          replace h := (if_pos hb101).symm.trans h
          obtain rfl := Option.some.inj h
          exact zr_vret F hr zd_XReader_read_205 (Nat.le_of_ble_eq_true rfl) (Nat.le_of_ble_eq_true rfl) ⟨rfl, rfl, rfl⟩
        ·
          replace h := (if_neg hb101).symm.trans h
          refine zr_aload_n F zd_XReader_read_196 rfl ?_
          refine zr_iconstv (v := 1) F zd_XReader_read_197 (by decide) ?_
          refine zr_aload_n F zd_XReader_read_198 rfl ?_
          refine zr_pcn 199 rfl ?_
          obtain ⟨le103, hs102, h⟩ := zoS_s h
          refine zr_get F 7 5 zd_XReader_read_199 (zW_o hs102 (by decide)) rfl (by decide) zw_53 rfl (by rfl) ?_
          obtain ⟨le105, hs104, h⟩ := zoS_s h
          cases h
      ·
        replace h := (if_neg hb93).symm.trans h
        refine zr_aload_n F zd_XReader_read_170 rfl ?_
        refine zr_iconstv (v := 1) F zd_XReader_read_171 (by decide) ?_
        refine zr_aload_n F zd_XReader_read_172 rfl ?_
        obtain ⟨le108, hs107, h⟩ := zoS_s h
        refine zr_get F 7 5 zd_XReader_read_173 (zW_o hs107 (by decide)) rfl (by decide) zw_53 rfl (by rfl) ?_
        obtain ⟨le110, hs109, h⟩ := zoS_s h
        cases h
def L_T_XReader_read_67 (sh : zSh) (fuel : Nat) (v0 : Nat) (v4 : Int32) (v5 : Int32) (mm : zMem) : Option (Nat × Nat × Int32 × Int32 × zMem) := match fuel with
  | 0 => none
  | fu + 1 => (if 6 < v5 then some (1, v0, v4, v5, mm) else (if v4 = 0 then some (1, v0, v4, v5, mm) else Option.bind (F_XReader_wordOf sh mm v5) (fun p37 => zoS (sh v0) 7 (fun le39 => Option.bind (F_XReader_seesWord sh (p37.2) v0 (p37.1)) (fun p40 => (if p40.1 = 0 then L_T_XReader_read_67 sh fu v0 v4 (v5 + 1) (p40.2) else Option.bind (F_XReader_wordOf sh (p40.2) v5) (fun p42 => zoS (sh v0) 7 (fun le44 => zoX (F_XReader_needName sh (p42.2) v0 (p42.1)) (Option.bind (T_XReader_needName sh (p42.2) v0 (p42.1)) (fun mq46 => some (0, (0 : Nat), (0 : Int32), (0 : Int32), mq46))) (fun p45 => (if v5 = 5 then zoS (sh v0) 7 (fun le68 => zoX (F_XReader_readCamera sh p45 v0) (Option.bind (T_XReader_readCamera sh p45 v0) (fun mq70 => some (0, (0 : Nat), (0 : Int32), (0 : Int32), mq70))) (fun p69 => (if 6 ≤ v5 then L_T_XReader_read_67 sh fu v0 0 (v5 + 1) p69 else zoS (sh v0) 7 (fun le73 => Option.bind (F_XReader_takes sh p69 v0 44) (fun p74 => (if p74.1 = 0 then L_T_XReader_read_67 sh fu v0 0 (v5 + 1) (p74.2) else L_T_XReader_read_67 sh fu v0 1 (v5 + 1) (p74.2))))))) else (if v5 = 6 then zoS (sh v0) 7 (fun le59 => zoX (F_XReader_readLight sh p45 v0) (Option.bind (T_XReader_readLight sh p45 v0) (fun mq61 => some (0, (0 : Nat), (0 : Int32), (0 : Int32), mq61))) (fun p60 => (if 6 ≤ v5 then L_T_XReader_read_67 sh fu v0 0 (v5 + 1) p60 else zoS (sh v0) 7 (fun le64 => Option.bind (F_XReader_takes sh p60 v0 44) (fun p65 => (if p65.1 = 0 then L_T_XReader_read_67 sh fu v0 0 (v5 + 1) (p65.2) else L_T_XReader_read_67 sh fu v0 1 (v5 + 1) (p65.2))))))) else zoS (sh v0) 7 (fun le50 => zoX (F_XReader_readThings sh p45 v0 v5) (Option.bind (T_XReader_readThings sh p45 v0 v5) (fun mq52 => some (0, (0 : Nat), (0 : Int32), (0 : Int32), mq52))) (fun p51 => (if 6 ≤ v5 then L_T_XReader_read_67 sh fu v0 0 (v5 + 1) p51 else zoS (sh v0) 7 (fun le55 => Option.bind (F_XReader_takes sh p51 v0 44) (fun p56 => (if p56.1 = 0 then L_T_XReader_read_67 sh fu v0 0 (v5 + 1) (p56.2) else L_T_XReader_read_67 sh fu v0 1 (v5 + 1) (p56.2))))))))))))))))))
set_option maxHeartbeats 4000000 in
set_option maxRecDepth 100000 in
theorem lp_T_XReader_read_67 {p : Program} {l : Launch} {e : Env} {s : State} {m : MethodId} {args : Array Value} {below : List Frame} {meth : Method} {c : Code} {D : va_G} {tA : Nat → ClassId} {b n : Nat} {fT : zV} {nT : Nat} {sh : zSh} (F : zF p s m args meth c zb_XReader_read 6 "OrreryBox$Reader" D tA b) (hl : l.stackTraces = false) (hno : c.exceptionTable.toList = []) : ∀ (fuel : Nat) (v0 : Nat) (v4 : Int32) (v5 : Int32) (mm : zMem) (r : Nat × Nat × Int32 × Int32 × zMem), L_T_XReader_read_67 sh fuel v0 v4 v5 mm = some r → (r.1 = 1 → Z p l e { frames := 11, cells := 1, slots := 6, locals := 213 } s m args below meth c D b 6 (zTQ below D b "java/lang/IllegalArgumentException" fT nT args s 1 6) (zW tA b sh r.2.2.2.2) n 0 0 165 [(0, .ref (b + (r.2.1))), (4, .int (r.2.2.1)), (5, .int (r.2.2.2.1))] []) → (r.1 = 0 → zW tA b sh r.2.2.2.2 = fT ∧ n + 1 = nT) → Z p l e { frames := 11, cells := 1, slots := 6, locals := 213 } s m args below meth c D b 6 (zTQ below D b "java/lang/IllegalArgumentException" fT nT args s 1 6) (zW tA b sh mm) n 0 0 67 [(0, .ref (b + v0)), (4, .int v4), (5, .int v5)] [] := by
  intro fuel
  induction fuel with
  | zero =>
    intro v0 v4 v5 mm r h
    cases h
  | succ fu ih =>
    intro v0 v4 v5 mm r h hx0 hp
    rw [L_T_XReader_read_67] at h
    refine zr_iload F zd_XReader_read_67 rfl ?_
    refine zr_bipushv (v := 6) F zd_XReader_read_69 (by decide) ?_
    refine zr_icmp_gt F 165 zd_XReader_read_71 (by decide) (fun hb35 => ?_) (fun hb35 => ?_)
    ·
      replace h := (if_pos hb35).symm.trans h
      obtain rfl := Option.some.inj h
      refine zr_loc (L' := [(0, .ref (b + v0)), (4, .int v4), (5, .int v5)]) ⟨rfl, rfl, rfl, trivial⟩ ?_
      exact hx0 rfl
    ·
      replace h := (if_neg hb35).symm.trans h
      refine zr_iload F zd_XReader_read_74 rfl ?_
      refine zr_pcn 76 rfl ?_
      refine zr_if_eq F 165 zd_XReader_read_76 (by decide) (fun hb36 => ?_) (fun hb36 => ?_)
      ·
        replace h := (if_pos hb36).symm.trans h
        obtain rfl := Option.some.inj h
        refine zr_loc (L' := [(0, .ref (b + v0)), (4, .int v4), (5, .int v5)]) ⟨rfl, rfl, rfl, trivial⟩ ?_
        exact hx0 rfl
      ·
        replace h := (if_neg hb36).symm.trans h
        refine zr_aload_n F zd_XReader_read_79 rfl ?_
        refine zr_iload F zd_XReader_read_80 rfl ?_
        obtain ⟨p37, ep37, h⟩ := zoB_s h
        refine zr_callS1 F (k_XReader_wordOf l D tA b sh _ ep37) zd_XReader_read_82 zs_XReader_53 zq_XReader_wordOf rfl rfl ⟨(Nat.le_of_ble_eq_true rfl), (Nat.le_of_ble_eq_true rfl)⟩ (Nat.le_of_ble_eq_true rfl) ⟨(Nat.le_of_ble_eq_true rfl), (Nat.le_of_ble_eq_true rfl)⟩ ?_
        obtain ⟨le39, hs38, h⟩ := zoS_s h
        obtain ⟨p40, ep40, h⟩ := zoB_s h
        refine zr_callV1 F (k_XReader_seesWord l D tA b sh _ ep40) zd_XReader_read_85 (zW_o hs38 (by decide)) rfl zs_XReader_57 rfl zq_XReader_seesWord rfl rfl ⟨(Nat.le_of_ble_eq_true rfl), (Nat.le_of_ble_eq_true rfl)⟩ (Nat.le_of_ble_eq_true rfl) ⟨(Nat.le_of_ble_eq_true rfl), (Nat.le_of_ble_eq_true rfl)⟩ ?_
        refine zr_if_ne F 94 zd_XReader_read_88 (by decide) (fun hb41 => ?_) (fun hb41 => ?_)
        ·
          replace h := (if_neg hb41).symm.trans h
          refine zr_aload_n F zd_XReader_read_94 rfl ?_
          refine zr_iload F zd_XReader_read_95 rfl ?_
          refine zr_pcn 97 rfl ?_
          obtain ⟨p42, ep42, h⟩ := zoB_s h
          refine zr_callS1 F (k_XReader_wordOf l D tA b sh _ ep42) zd_XReader_read_97 zs_XReader_53 zq_XReader_wordOf rfl rfl ⟨(Nat.le_of_ble_eq_true rfl), (Nat.le_of_ble_eq_true rfl)⟩ (Nat.le_of_ble_eq_true rfl) ⟨(Nat.le_of_ble_eq_true rfl), (Nat.le_of_ble_eq_true rfl)⟩ ?_
          obtain ⟨le44, hs43, h⟩ := zoS_s h
          cases ep45 : F_XReader_needName sh (p42.2) v0 (p42.1) with
          | none =>
            rw [ep45] at h
            dsimp only [zoX] at h
            obtain ⟨mq46, emq46, h⟩ := zoB_s h
            obtain rfl := Option.some.inj h
            obtain ⟨ef, en⟩ := hp rfl
            subst ef
            subst en
            exact zr_thrV F hno (kT_XReader_needName l D tA b sh _ hl emq46) zd_XReader_read_100 (zW_o hs43 (by decide)) rfl zs_XReader_61 rfl zq_XReader_needName rfl rfl ⟨(Nat.le_of_ble_eq_true rfl), (Nat.le_of_ble_eq_true rfl)⟩ (Nat.le_of_ble_eq_true rfl) ⟨(Nat.le_of_ble_eq_true rfl), (Nat.le_of_ble_eq_true rfl)⟩ ⟨(Nat.le_of_ble_eq_true rfl), (Nat.le_of_ble_eq_true rfl)⟩
          | some p45 =>
            rw [ep45] at h
            dsimp only [zoX] at h
            refine zr_callV0 F (k_XReader_needName l D tA b sh _ ep45) zd_XReader_read_100 (zW_o hs43 (by decide)) rfl zs_XReader_61 rfl zq_XReader_needName rfl rfl ⟨(Nat.le_of_ble_eq_true rfl), (Nat.le_of_ble_eq_true rfl)⟩ (Nat.le_of_ble_eq_true rfl) ⟨(Nat.le_of_ble_eq_true rfl), (Nat.le_of_ble_eq_true rfl)⟩ ?_
            refine zr_iload F zd_XReader_read_103 rfl ?_
            refine zr_iconstv (v := 5) F zd_XReader_read_105 (by decide) ?_
            refine zr_icmp_ne F 116 zd_XReader_read_106 (by decide) (fun hb47 => ?_) (fun hb47 => ?_)
            ·
              replace h := (if_neg hb47).symm.trans h
              refine zr_iload F zd_XReader_read_116 rfl ?_
              refine zr_bipushv (v := 6) F zd_XReader_read_118 (by decide) ?_
              refine zr_icmp_ne F 130 zd_XReader_read_120 (by decide) (fun hb48 => ?_) (fun hb48 => ?_)
              ·
                replace h := (if_neg hb48).symm.trans h
                refine zr_pcn 130 rfl ?_
                refine zr_aload_n F zd_XReader_read_130 rfl ?_
                refine zr_iload F zd_XReader_read_131 rfl ?_
                obtain ⟨le50, hs49, h⟩ := zoS_s h
                cases ep51 : F_XReader_readThings sh p45 v0 v5 with
                | none =>
                  rw [ep51] at h
                  dsimp only [zoX] at h
                  obtain ⟨mq52, emq52, h⟩ := zoB_s h
                  obtain rfl := Option.some.inj h
                  obtain ⟨ef, en⟩ := hp rfl
                  subst ef
                  subst en
                  exact zr_thrV F hno (kT_XReader_readThings l D tA b sh _ hl emq52) zd_XReader_read_133 (zW_o hs49 (by decide)) rfl zs_XReader_71 rfl zq_XReader_readThings rfl rfl ⟨(Nat.le_of_ble_eq_true rfl), (Nat.le_of_ble_eq_true rfl)⟩ (Nat.le_of_ble_eq_true rfl) ⟨(Nat.le_of_ble_eq_true rfl), (Nat.le_of_ble_eq_true rfl)⟩ ⟨(Nat.le_of_ble_eq_true rfl), (Nat.le_of_ble_eq_true rfl)⟩
                | some p51 =>
                  rw [ep51] at h
                  dsimp only [zoX] at h
                  refine zr_callV0 F (k_XReader_readThings l D tA b sh _ ep51) zd_XReader_read_133 (zW_o hs49 (by decide)) rfl zs_XReader_71 rfl zq_XReader_readThings rfl rfl ⟨(Nat.le_of_ble_eq_true rfl), (Nat.le_of_ble_eq_true rfl)⟩ (Nat.le_of_ble_eq_true rfl) ⟨(Nat.le_of_ble_eq_true rfl), (Nat.le_of_ble_eq_true rfl)⟩ ?_
                  refine zr_iload F zd_XReader_read_136 rfl ?_
                  refine zr_bipushv (v := 6) F zd_XReader_read_138 (by decide) ?_
                  refine zr_icmp_ge F 156 zd_XReader_read_140 (by decide) (fun hb53 => ?_) (fun hb53 => ?_)
                  ·
                    replace h := (if_pos hb53).symm.trans h
                    refine zr_iconstv (v := 0) F zd_XReader_read_156 (by decide) ?_
                    refine zr_istore F zd_XReader_read_157 (by decide) ?_
                    refine zr_pcn 159 rfl ?_
                    refine zr_iinc (v := (v5 + 1)) F zd_XReader_read_159 rfl rfl (by decide) ?_
                    refine zr_goto F 67 zd_XReader_read_162 (by decide) ?_
                    refine zr_loc (L' := [(0, .ref (b + v0)), (4, .int 0), (5, .int (v5 + 1))]) ⟨rfl, rfl, rfl, trivial⟩ ?_
                    exact ih _ _ _ _ _ h hx0 hp
                  ·
                    replace h := (if_neg hb53).symm.trans h
                    refine zr_aload_n F zd_XReader_read_143 rfl ?_
                    refine zr_bipushv (v := 44) F zd_XReader_read_144 (by decide) ?_
                    obtain ⟨le55, hs54, h⟩ := zoS_s h
                    obtain ⟨p56, ep56, h⟩ := zoB_s h
                    refine zr_callV1 F (k_XReader_takes l D tA b sh _ ep56) zd_XReader_read_146 (zW_o hs54 (by decide)) rfl zs_XReader_74 rfl zq_XReader_takes rfl rfl ⟨(Nat.le_of_ble_eq_true rfl), (Nat.le_of_ble_eq_true rfl)⟩ (Nat.le_of_ble_eq_true rfl) ⟨(Nat.le_of_ble_eq_true rfl), (Nat.le_of_ble_eq_true rfl)⟩ ?_
                    refine zr_if_eq F 156 zd_XReader_read_149 (by decide) (fun hb57 => ?_) (fun hb57 => ?_)
                    ·
                      replace h := (if_pos hb57).symm.trans h
                      refine zr_iconstv (v := 0) F zd_XReader_read_156 (by decide) ?_
                      refine zr_istore F zd_XReader_read_157 (by decide) ?_
                      refine zr_pcn 159 rfl ?_
                      refine zr_iinc (v := (v5 + 1)) F zd_XReader_read_159 rfl rfl (by decide) ?_
                      refine zr_goto F 67 zd_XReader_read_162 (by decide) ?_
                      refine zr_loc (L' := [(0, .ref (b + v0)), (4, .int 0), (5, .int (v5 + 1))]) ⟨rfl, rfl, rfl, trivial⟩ ?_
                      exact ih _ _ _ _ _ h hx0 hp
                    ·
                      replace h := (if_neg hb57).symm.trans h
                      refine zr_iconstv (v := 1) F zd_XReader_read_152 (by decide) ?_
                      refine zr_goto F 157 zd_XReader_read_153 (by decide) ?_
                      refine zr_istore F zd_XReader_read_157 (by decide) ?_
                      refine zr_iinc (v := (v5 + 1)) F zd_XReader_read_159 rfl rfl (by decide) ?_
                      refine zr_goto F 67 zd_XReader_read_162 (by decide) ?_
                      refine zr_loc (L' := [(0, .ref (b + v0)), (4, .int 1), (5, .int (v5 + 1))]) ⟨rfl, rfl, rfl, trivial⟩ ?_
                      exact ih _ _ _ _ _ h hx0 hp
              ·
                replace h := (if_pos hb48).symm.trans h
                refine zr_aload_n F zd_XReader_read_123 rfl ?_
                refine zr_pcn 124 rfl ?_
                obtain ⟨le59, hs58, h⟩ := zoS_s h
                cases ep60 : F_XReader_readLight sh p45 v0 with
                | none =>
                  rw [ep60] at h
                  dsimp only [zoX] at h
                  obtain ⟨mq61, emq61, h⟩ := zoB_s h
                  obtain rfl := Option.some.inj h
                  obtain ⟨ef, en⟩ := hp rfl
                  subst ef
                  subst en
                  exact zr_thrV F hno (kT_XReader_readLight l D tA b sh _ hl emq61) zd_XReader_read_124 (zW_o hs58 (by decide)) rfl zs_XReader_68 rfl zq_XReader_readLight rfl rfl ⟨(Nat.le_of_ble_eq_true rfl), (Nat.le_of_ble_eq_true rfl)⟩ (Nat.le_of_ble_eq_true rfl) ⟨(Nat.le_of_ble_eq_true rfl), (Nat.le_of_ble_eq_true rfl)⟩ ⟨(Nat.le_of_ble_eq_true rfl), (Nat.le_of_ble_eq_true rfl)⟩
                | some p60 =>
                  rw [ep60] at h
                  dsimp only [zoX] at h
                  refine zr_callV0 F (k_XReader_readLight l D tA b sh _ ep60) zd_XReader_read_124 (zW_o hs58 (by decide)) rfl zs_XReader_68 rfl zq_XReader_readLight rfl rfl ⟨(Nat.le_of_ble_eq_true rfl), (Nat.le_of_ble_eq_true rfl)⟩ (Nat.le_of_ble_eq_true rfl) ⟨(Nat.le_of_ble_eq_true rfl), (Nat.le_of_ble_eq_true rfl)⟩ ?_
                  refine zr_goto F 136 zd_XReader_read_127 (by decide) ?_
                  refine zr_iload F zd_XReader_read_136 rfl ?_
                  refine zr_bipushv (v := 6) F zd_XReader_read_138 (by decide) ?_
                  refine zr_icmp_ge F 156 zd_XReader_read_140 (by decide) (fun hb62 => ?_) (fun hb62 => ?_)
                  ·
                    replace h := (if_pos hb62).symm.trans h
                    refine zr_iconstv (v := 0) F zd_XReader_read_156 (by decide) ?_
                    refine zr_istore F zd_XReader_read_157 (by decide) ?_
                    refine zr_iinc (v := (v5 + 1)) F zd_XReader_read_159 rfl rfl (by decide) ?_
                    refine zr_pcn 162 rfl ?_
                    refine zr_goto F 67 zd_XReader_read_162 (by decide) ?_
                    refine zr_loc (L' := [(0, .ref (b + v0)), (4, .int 0), (5, .int (v5 + 1))]) ⟨rfl, rfl, rfl, trivial⟩ ?_
                    exact ih _ _ _ _ _ h hx0 hp
                  ·
                    replace h := (if_neg hb62).symm.trans h
                    refine zr_aload_n F zd_XReader_read_143 rfl ?_
                    refine zr_bipushv (v := 44) F zd_XReader_read_144 (by decide) ?_
                    obtain ⟨le64, hs63, h⟩ := zoS_s h
                    obtain ⟨p65, ep65, h⟩ := zoB_s h
                    refine zr_callV1 F (k_XReader_takes l D tA b sh _ ep65) zd_XReader_read_146 (zW_o hs63 (by decide)) rfl zs_XReader_74 rfl zq_XReader_takes rfl rfl ⟨(Nat.le_of_ble_eq_true rfl), (Nat.le_of_ble_eq_true rfl)⟩ (Nat.le_of_ble_eq_true rfl) ⟨(Nat.le_of_ble_eq_true rfl), (Nat.le_of_ble_eq_true rfl)⟩ ?_
                    refine zr_if_eq F 156 zd_XReader_read_149 (by decide) (fun hb66 => ?_) (fun hb66 => ?_)
                    ·
                      replace h := (if_pos hb66).symm.trans h
                      refine zr_iconstv (v := 0) F zd_XReader_read_156 (by decide) ?_
                      refine zr_istore F zd_XReader_read_157 (by decide) ?_
                      refine zr_iinc (v := (v5 + 1)) F zd_XReader_read_159 rfl rfl (by decide) ?_
                      refine zr_pcn 162 rfl ?_
                      refine zr_goto F 67 zd_XReader_read_162 (by decide) ?_
                      refine zr_loc (L' := [(0, .ref (b + v0)), (4, .int 0), (5, .int (v5 + 1))]) ⟨rfl, rfl, rfl, trivial⟩ ?_
                      exact ih _ _ _ _ _ h hx0 hp
                    ·
                      replace h := (if_neg hb66).symm.trans h
                      refine zr_iconstv (v := 1) F zd_XReader_read_152 (by decide) ?_
                      refine zr_goto F 157 zd_XReader_read_153 (by decide) ?_
                      refine zr_istore F zd_XReader_read_157 (by decide) ?_
                      refine zr_iinc (v := (v5 + 1)) F zd_XReader_read_159 rfl rfl (by decide) ?_
                      refine zr_goto F 67 zd_XReader_read_162 (by decide) ?_
                      refine zr_loc (L' := [(0, .ref (b + v0)), (4, .int 1), (5, .int (v5 + 1))]) ⟨rfl, rfl, rfl, trivial⟩ ?_
                      exact ih _ _ _ _ _ h hx0 hp
            ·
              replace h := (if_pos hb47).symm.trans h
              refine zr_aload_n F zd_XReader_read_109 rfl ?_
              obtain ⟨le68, hs67, h⟩ := zoS_s h
              cases ep69 : F_XReader_readCamera sh p45 v0 with
              | none =>
                rw [ep69] at h
                dsimp only [zoX] at h
                obtain ⟨mq70, emq70, h⟩ := zoB_s h
                obtain rfl := Option.some.inj h
                obtain ⟨ef, en⟩ := hp rfl
                subst ef
                subst en
                exact zr_thrV F hno (kT_XReader_readCamera l D tA b sh _ hl emq70) zd_XReader_read_110 (zW_o hs67 (by decide)) rfl zs_XReader_65 rfl zq_XReader_readCamera rfl rfl ⟨(Nat.le_of_ble_eq_true rfl), (Nat.le_of_ble_eq_true rfl)⟩ (Nat.le_of_ble_eq_true rfl) ⟨(Nat.le_of_ble_eq_true rfl), (Nat.le_of_ble_eq_true rfl)⟩ ⟨(Nat.le_of_ble_eq_true rfl), (Nat.le_of_ble_eq_true rfl)⟩
              | some p69 =>
                rw [ep69] at h
                dsimp only [zoX] at h
                refine zr_callV0 F (k_XReader_readCamera l D tA b sh _ ep69) zd_XReader_read_110 (zW_o hs67 (by decide)) rfl zs_XReader_65 rfl zq_XReader_readCamera rfl rfl ⟨(Nat.le_of_ble_eq_true rfl), (Nat.le_of_ble_eq_true rfl)⟩ (Nat.le_of_ble_eq_true rfl) ⟨(Nat.le_of_ble_eq_true rfl), (Nat.le_of_ble_eq_true rfl)⟩ ?_
                refine zr_pcn 113 rfl ?_
                refine zr_goto F 136 zd_XReader_read_113 (by decide) ?_
                refine zr_iload F zd_XReader_read_136 rfl ?_
                refine zr_bipushv (v := 6) F zd_XReader_read_138 (by decide) ?_
                refine zr_icmp_ge F 156 zd_XReader_read_140 (by decide) (fun hb71 => ?_) (fun hb71 => ?_)
                ·
                  replace h := (if_pos hb71).symm.trans h
                  refine zr_iconstv (v := 0) F zd_XReader_read_156 (by decide) ?_
                  refine zr_istore F zd_XReader_read_157 (by decide) ?_
                  refine zr_iinc (v := (v5 + 1)) F zd_XReader_read_159 rfl rfl (by decide) ?_
                  refine zr_goto F 67 zd_XReader_read_162 (by decide) ?_
                  refine zr_loc (L' := [(0, .ref (b + v0)), (4, .int 0), (5, .int (v5 + 1))]) ⟨rfl, rfl, rfl, trivial⟩ ?_
                  exact ih _ _ _ _ _ h hx0 hp
                ·
                  replace h := (if_neg hb71).symm.trans h
                  refine zr_pcn 143 rfl ?_
                  refine zr_aload_n F zd_XReader_read_143 rfl ?_
                  refine zr_bipushv (v := 44) F zd_XReader_read_144 (by decide) ?_
                  obtain ⟨le73, hs72, h⟩ := zoS_s h
                  obtain ⟨p74, ep74, h⟩ := zoB_s h
                  refine zr_callV1 F (k_XReader_takes l D tA b sh _ ep74) zd_XReader_read_146 (zW_o hs72 (by decide)) rfl zs_XReader_74 rfl zq_XReader_takes rfl rfl ⟨(Nat.le_of_ble_eq_true rfl), (Nat.le_of_ble_eq_true rfl)⟩ (Nat.le_of_ble_eq_true rfl) ⟨(Nat.le_of_ble_eq_true rfl), (Nat.le_of_ble_eq_true rfl)⟩ ?_
                  refine zr_if_eq F 156 zd_XReader_read_149 (by decide) (fun hb75 => ?_) (fun hb75 => ?_)
                  ·
                    replace h := (if_pos hb75).symm.trans h
                    refine zr_iconstv (v := 0) F zd_XReader_read_156 (by decide) ?_
                    refine zr_istore F zd_XReader_read_157 (by decide) ?_
                    refine zr_iinc (v := (v5 + 1)) F zd_XReader_read_159 rfl rfl (by decide) ?_
                    refine zr_goto F 67 zd_XReader_read_162 (by decide) ?_
                    refine zr_loc (L' := [(0, .ref (b + v0)), (4, .int 0), (5, .int (v5 + 1))]) ⟨rfl, rfl, rfl, trivial⟩ ?_
                    exact ih _ _ _ _ _ h hx0 hp
                  ·
                    replace h := (if_neg hb75).symm.trans h
                    refine zr_pcn 152 rfl ?_
                    refine zr_iconstv (v := 1) F zd_XReader_read_152 (by decide) ?_
                    refine zr_goto F 157 zd_XReader_read_153 (by decide) ?_
                    refine zr_istore F zd_XReader_read_157 (by decide) ?_
                    refine zr_iinc (v := (v5 + 1)) F zd_XReader_read_159 rfl rfl (by decide) ?_
                    refine zr_goto F 67 zd_XReader_read_162 (by decide) ?_
                    refine zr_loc (L' := [(0, .ref (b + v0)), (4, .int 1), (5, .int (v5 + 1))]) ⟨rfl, rfl, rfl, trivial⟩ ?_
                    exact ih _ _ _ _ _ h hx0 hp
        ·
          replace h := (if_pos hb41).symm.trans h
          refine zr_goto F 159 zd_XReader_read_91 (by decide) ?_
          refine zr_iinc (v := (v5 + 1)) F zd_XReader_read_159 rfl rfl (by decide) ?_
          refine zr_goto F 67 zd_XReader_read_162 (by decide) ?_
          refine zr_loc (L' := [(0, .ref (b + v0)), (4, .int v4), (5, .int (v5 + 1))]) ⟨rfl, rfl, rfl, trivial⟩ ?_
          exact ih _ _ _ _ _ h hx0 hp
def T_XReader_read (sh : zSh) (mm : zMem) (o : Nat) (x0_ : Nat) (x1_ : Int32) (x2_ : Nat) : Option zMem := zoS (sh o) 7 (fun le2 => zoL (mR mm o 3 (some x0_)) (fun mm3 => zoS (sh o) 7 (fun le5 => zoL (mI mm3 o 4 x1_) (fun mm6 => zoS (sh o) 7 (fun le8 => zoL (mR mm6 o 7 (some x2_)) (fun mm9 => zoS (sh o) 7 (fun le11 => zoL (mI mm9 o 5 0) (fun mm12 => zoS (sh o) 7 (fun le14 => zoL (mI mm12 o 0 0) (fun mm15 => zoS (sh o) 7 (fun le17 => zoL (mI mm15 o 1 0) (fun mm18 => zoS (sh o) 7 (fun le20 => Option.bind (mm18.2.2 o 7) (fun a21 => zoS (sh a21) 8 (fun le23 => Option.bind (F_XScene_clear sh mm18 a21) (fun p24 => zoS (sh o) 7 (fun le26 => Option.bind (F_XReader_step sh p24 o 0) (fun p27 => zoS (sh o) 7 (fun le29 => zoX (F_XReader_need sh p27 o 123) (T_XReader_need sh p27 o 123) (fun p30 => zoS (sh o) 7 (fun le32 => Option.bind (F_XReader_sees sh p30 o 125) (fun p33 => (if p33.1 = 0 then Option.bind (L_T_XReader_read_67 sh zfuel o 1 0 (p33.2)) (fun q96 => (if q96.1 = 1 then (if q96.2.2.1 = 0 then zoS (sh (q96.2.1)) 7 (fun le99 => zoX (F_XReader_need sh (q96.2.2.2.2) (q96.2.1) 125) (T_XReader_need sh (q96.2.2.2.2) (q96.2.1) 125) (fun p100 => zoS (sh (q96.2.1)) 7 (fun le102 => zoS (sh (q96.2.1)) 7 (fun le104 => (if (p100.1 (q96.2.1) 4) ≤ (p100.1 (q96.2.1) 5) then none else zoS (sh (q96.2.1)) 7 (fun le107 => zoS (sh (q96.2.1)) 7 (fun le109 => T_XReader_refuse sh p100 (q96.2.1) 1 (p100.1 (q96.2.1) 5)))))))) else zoS (sh (q96.2.1)) 7 (fun le112 => zoS (sh (q96.2.1)) 7 (fun le114 => T_XReader_refuse sh (q96.2.2.2.2) (q96.2.1) 1 ((q96.2.2.2.2).1 (q96.2.1) 5)))) else some (q96.2.2.2.2))) else Option.bind (L_T_XReader_read_67 sh zfuel o 0 0 (p33.2)) (fun q76 => (if q76.1 = 1 then (if q76.2.2.1 = 0 then zoS (sh (q76.2.1)) 7 (fun le79 => zoX (F_XReader_need sh (q76.2.2.2.2) (q76.2.1) 125) (T_XReader_need sh (q76.2.2.2.2) (q76.2.1) 125) (fun p80 => zoS (sh (q76.2.1)) 7 (fun le82 => zoS (sh (q76.2.1)) 7 (fun le84 => (if (p80.1 (q76.2.1) 4) ≤ (p80.1 (q76.2.1) 5) then none else zoS (sh (q76.2.1)) 7 (fun le87 => zoS (sh (q76.2.1)) 7 (fun le89 => T_XReader_refuse sh p80 (q76.2.1) 1 (p80.1 (q76.2.1) 5)))))))) else zoS (sh (q76.2.1)) 7 (fun le92 => zoS (sh (q76.2.1)) 7 (fun le94 => T_XReader_refuse sh (q76.2.2.2.2) (q76.2.1) 1 ((q76.2.2.2.2).1 (q76.2.1) 5)))) else some (q76.2.2.2.2))))))))))))))))))))))))))
set_option maxHeartbeats 4000000 in
set_option maxRecDepth 100000 in
theorem kT_XReader_read (l : Launch) (D : va_G) (tA : Nat → ClassId) (b : Nat) (sh : zSh) (n : Nat) (hl : l.stackTraces = false) {mm : zMem} {o : Nat} {x0_ : Nat} {x1_ : Int32} {x2_ : Nat} {r : zMem} (h : T_XReader_read sh mm o x0_ x1_ x2_ = some r) : zMT l D tA b zy_XReader_read zb_XReader_read 6 none 11 213 1 6 [.ref (b + o), .ref (b + x0_), .int x1_, .ref (b + x2_)] (zW tA b sh mm) n "java/lang/IllegalArgumentException" (zW tA b sh r) (n + 1) := by
  unfold T_XReader_read at h
  refine zMT_of (own := "OrreryBox$Reader") (plainFor_of_name (by decide)) rfl (Nat.le_of_ble_eq_true rfl) (fun p e s m below meth c F hno hH => ?_)
  refine zr_aload_n F zd_XReader_read_0 rfl ?_
  refine zr_aload_n F zd_XReader_read_1 rfl ?_
  obtain ⟨le2, hs1, h⟩ := zoS_s h
  refine zr_put F 7 3 zd_XReader_read_2 (zW_o hs1 (by decide)) rfl (by decide) zw_51 rfl rfl rfl rfl (by exact (Nat.le_of_ble_eq_true rfl)) ?_
  obtain ⟨mm3, emm3, h⟩ := zoL_s h
  refine zr_norm (zW tA b sh mm3) _ (by rw [emm3]; exact zW_pR (v := (some x0_)) hs1 (by decide) (zf_R_7_3 b _ _ _)) rfl ?_
  refine zr_aload_n F zd_XReader_read_5 rfl ?_
  refine zr_iload_n F zd_XReader_read_6 rfl ?_
  obtain ⟨le5, hs4, h⟩ := zoS_s h
  refine zr_put F 7 4 zd_XReader_read_7 (zW_o hs4 (by decide)) rfl (by decide) zw_52 rfl rfl rfl rfl (by exact (Nat.le_of_ble_eq_true rfl)) ?_
  obtain ⟨mm6, emm6, h⟩ := zoL_s h
  refine zr_norm (zW tA b sh mm6) _ (by rw [emm6]; exact zW_pI (v := x1_) hs4 (by decide) (zf_I_7_4 b _ _ _)) rfl ?_
  refine zr_aload_n F zd_XReader_read_10 rfl ?_
  refine zr_pcn 11 rfl ?_
  refine zr_aload_n F zd_XReader_read_11 rfl ?_
  obtain ⟨le8, hs7, h⟩ := zoS_s h
  refine zr_put F 7 7 zd_XReader_read_12 (zW_o hs7 (by decide)) rfl (by decide) zw_55 rfl rfl rfl rfl (by exact (Nat.le_of_ble_eq_true rfl)) ?_
  obtain ⟨mm9, emm9, h⟩ := zoL_s h
  refine zr_norm (zW tA b sh mm9) _ (by rw [emm9]; exact zW_pR (v := (some x2_)) hs7 (by decide) (zf_R_7_7 b _ _ _)) rfl ?_
  refine zr_aload_n F zd_XReader_read_15 rfl ?_
  refine zr_iconstv (v := 0) F zd_XReader_read_16 (by decide) ?_
  obtain ⟨le11, hs10, h⟩ := zoS_s h
  refine zr_put F 7 5 zd_XReader_read_17 (zW_o hs10 (by decide)) rfl (by decide) zw_53 rfl rfl rfl rfl (by exact (Nat.le_of_ble_eq_true rfl)) ?_
  obtain ⟨mm12, emm12, h⟩ := zoL_s h
  refine zr_norm (zW tA b sh mm12) _ (by rw [emm12]; exact zW_pI (v := 0) hs10 (by decide) (zf_I_7_5 b _ _ _)) rfl ?_
  refine zr_aload_n F zd_XReader_read_20 rfl ?_
  refine zr_iconstv (v := 0) F zd_XReader_read_21 (by decide) ?_
  obtain ⟨le14, hs13, h⟩ := zoS_s h
  refine zr_put F 7 0 zd_XReader_read_22 (zW_o hs13 (by decide)) rfl (by decide) zw_46 rfl rfl rfl rfl (by exact (Nat.le_of_ble_eq_true rfl)) ?_
  obtain ⟨mm15, emm15, h⟩ := zoL_s h
  refine zr_norm (zW tA b sh mm15) _ (by rw [emm15]; exact zW_pI (v := 0) hs13 (by decide) (zf_I_7_0 b _ _ _)) rfl ?_
  refine zr_pcn 25 rfl ?_
  refine zr_aload_n F zd_XReader_read_25 rfl ?_
  refine zr_iconstv (v := 0) F zd_XReader_read_26 (by decide) ?_
  obtain ⟨le17, hs16, h⟩ := zoS_s h
  refine zr_put F 7 1 zd_XReader_read_27 (zW_o hs16 (by decide)) rfl (by decide) zw_48 rfl rfl rfl rfl (by exact (Nat.le_of_ble_eq_true rfl)) ?_
  obtain ⟨mm18, emm18, h⟩ := zoL_s h
  refine zr_norm (zW tA b sh mm18) _ (by rw [emm18]; exact zW_pI (v := 0) hs16 (by decide) (zf_I_7_1 b _ _ _)) rfl ?_
  refine zr_aload_n F zd_XReader_read_30 rfl ?_
  obtain ⟨le20, hs19, h⟩ := zoS_s h
  obtain ⟨a21, ea21, h⟩ := zoB_s h
  refine zr_get F 7 7 zd_XReader_read_31 (zW_o hs19 (by decide)) rfl (by decide) zw_55 rfl (by rfl) ?_
  refine zr_tor ea21 ?_
  obtain ⟨le23, hs22, h⟩ := zoS_s h
  obtain ⟨p24, ep24, h⟩ := zoB_s h
  refine zr_callVN0 F (k_XScene_clear l D tA b sh _ ep24) zd_XReader_read_34 (zW_o hs22 (by decide)) rfl zs_XReader_36 rfl zq_XScene_clear rfl rfl ⟨(Nat.le_of_ble_eq_true rfl), (Nat.le_of_ble_eq_true rfl)⟩ (Nat.le_of_ble_eq_true rfl) ⟨(Nat.le_of_ble_eq_true rfl), (Nat.le_of_ble_eq_true rfl)⟩ ?_
  refine zr_aload_n F zd_XReader_read_37 rfl ?_
  refine zr_iconstv (v := 0) F zd_XReader_read_38 (by decide) ?_
  refine zr_pcn 39 rfl ?_
  obtain ⟨le26, hs25, h⟩ := zoS_s h
  obtain ⟨p27, ep27, h⟩ := zoB_s h
  refine zr_callV0 F (k_XReader_step l D tA b sh _ ep27) zd_XReader_read_39 (zW_o hs25 (by decide)) rfl zs_XReader_41 rfl zq_XReader_step rfl rfl ⟨(Nat.le_of_ble_eq_true rfl), (Nat.le_of_ble_eq_true rfl)⟩ (Nat.le_of_ble_eq_true rfl) ⟨(Nat.le_of_ble_eq_true rfl), (Nat.le_of_ble_eq_true rfl)⟩ ?_
  refine zr_aload_n F zd_XReader_read_42 rfl ?_
  refine zr_bipushv (v := 123) F zd_XReader_read_43 (by decide) ?_
  obtain ⟨le29, hs28, h⟩ := zoS_s h
  cases ep30 : F_XReader_need sh p27 o 123 with
  | none =>
    rw [ep30] at h
    dsimp only [zoX] at h
    exact zr_thrV F hno (kT_XReader_need l D tA b sh _ hl h) zd_XReader_read_45 (zW_o hs28 (by decide)) rfl zs_XReader_45 rfl zq_XReader_need rfl rfl ⟨(Nat.le_of_ble_eq_true rfl), (Nat.le_of_ble_eq_true rfl)⟩ (Nat.le_of_ble_eq_true rfl) ⟨(Nat.le_of_ble_eq_true rfl), (Nat.le_of_ble_eq_true rfl)⟩ ⟨(Nat.le_of_ble_eq_true rfl), (Nat.le_of_ble_eq_true rfl)⟩
  | some p30 =>
    rw [ep30] at h
    dsimp only [zoX] at h
    refine zr_callV0 F (k_XReader_need l D tA b sh _ ep30) zd_XReader_read_45 (zW_o hs28 (by decide)) rfl zs_XReader_45 rfl zq_XReader_need rfl rfl ⟨(Nat.le_of_ble_eq_true rfl), (Nat.le_of_ble_eq_true rfl)⟩ (Nat.le_of_ble_eq_true rfl) ⟨(Nat.le_of_ble_eq_true rfl), (Nat.le_of_ble_eq_true rfl)⟩ ?_
    refine zr_aload_n F zd_XReader_read_48 rfl ?_
    refine zr_bipushv (v := 125) F zd_XReader_read_49 (by decide) ?_
    obtain ⟨le32, hs31, h⟩ := zoS_s h
    obtain ⟨p33, ep33, h⟩ := zoB_s h
    refine zr_callV1 F (k_XReader_sees l D tA b sh _ ep33) zd_XReader_read_51 (zW_o hs31 (by decide)) rfl zs_XReader_49 rfl zq_XReader_sees rfl rfl ⟨(Nat.le_of_ble_eq_true rfl), (Nat.le_of_ble_eq_true rfl)⟩ (Nat.le_of_ble_eq_true rfl) ⟨(Nat.le_of_ble_eq_true rfl), (Nat.le_of_ble_eq_true rfl)⟩ ?_
    refine zr_if_ne F 61 zd_XReader_read_54 (by decide) (fun hb34 => ?_) (fun hb34 => ?_)
    ·
      replace h := (if_neg hb34).symm.trans h
      refine zr_pcn 61 rfl ?_
      refine zr_iconstv (v := 0) F zd_XReader_read_61 (by decide) ?_
      refine zr_istore F zd_XReader_read_62 (by decide) ?_
      refine zr_iconstv (v := 0) F zd_XReader_read_64 (by decide) ?_
      refine zr_istore F zd_XReader_read_65 (by decide) ?_
      obtain ⟨q76, eq76, h⟩ := zoB_s h
      refine zr_loc (L' := [(0, .ref (b + o)), (4, .int 0), (5, .int 0)]) ⟨rfl, rfl, rfl, trivial⟩ ?_
      refine lp_T_XReader_read_67 F hl hno _ _ _ _ _ _ eq76 ?_ ?_
      ·
        intro ec
        rw [if_pos ec] at h
        refine zr_pcn 165 rfl ?_
        refine zr_iload F zd_XReader_read_165 rfl ?_
        refine zr_if_eq F 179 zd_XReader_read_167 (by decide) (fun hb77 => ?_) (fun hb77 => ?_)
        ·
          replace h := (if_pos hb77).symm.trans h
          refine zr_aload_n F zd_XReader_read_179 rfl ?_
          refine zr_bipushv (v := 125) F zd_XReader_read_180 (by decide) ?_
          obtain ⟨le79, hs78, h⟩ := zoS_s h
          cases ep80 : F_XReader_need sh (q76.2.2.2.2) (q76.2.1) 125 with
          | none =>
            rw [ep80] at h
            dsimp only [zoX] at h
            exact zr_thrV F hno (kT_XReader_need l D tA b sh _ hl h) zd_XReader_read_182 (zW_o hs78 (by decide)) rfl zs_XReader_45 rfl zq_XReader_need rfl rfl ⟨(Nat.le_of_ble_eq_true rfl), (Nat.le_of_ble_eq_true rfl)⟩ (Nat.le_of_ble_eq_true rfl) ⟨(Nat.le_of_ble_eq_true rfl), (Nat.le_of_ble_eq_true rfl)⟩ ⟨(Nat.le_of_ble_eq_true rfl), (Nat.le_of_ble_eq_true rfl)⟩
          | some p80 =>
            rw [ep80] at h
            dsimp only [zoX] at h
            refine zr_callV0 F (k_XReader_need l D tA b sh _ ep80) zd_XReader_read_182 (zW_o hs78 (by decide)) rfl zs_XReader_45 rfl zq_XReader_need rfl rfl ⟨(Nat.le_of_ble_eq_true rfl), (Nat.le_of_ble_eq_true rfl)⟩ (Nat.le_of_ble_eq_true rfl) ⟨(Nat.le_of_ble_eq_true rfl), (Nat.le_of_ble_eq_true rfl)⟩ ?_
            refine zr_aload_n F zd_XReader_read_185 rfl ?_
            obtain ⟨le82, hs81, h⟩ := zoS_s h
            refine zr_get F 7 5 zd_XReader_read_186 (zW_o hs81 (by decide)) rfl (by decide) zw_53 rfl (by rfl) ?_
            refine zr_aload_n F zd_XReader_read_189 rfl ?_
            refine zr_pcn 190 rfl ?_
            obtain ⟨le84, hs83, h⟩ := zoS_s h
            refine zr_get F 7 4 zd_XReader_read_190 (zW_o hs83 (by decide)) rfl (by decide) zw_52 rfl (by rfl) ?_
            refine zr_icmp_ge F 205 zd_XReader_read_193 (by decide) (fun hb85 => ?_) (fun hb85 => ?_)
            ·
              replace h := (if_pos hb85).symm.trans h
              cases h
            ·
              replace h := (if_neg hb85).symm.trans h
              refine zr_aload_n F zd_XReader_read_196 rfl ?_
              refine zr_iconstv (v := 1) F zd_XReader_read_197 (by decide) ?_
              refine zr_aload_n F zd_XReader_read_198 rfl ?_
              obtain ⟨le87, hs86, h⟩ := zoS_s h
              refine zr_get F 7 5 zd_XReader_read_199 (zW_o hs86 (by decide)) rfl (by decide) zw_53 rfl (by rfl) ?_
              obtain ⟨le89, hs88, h⟩ := zoS_s h
              exact zr_thrV F hno (kT_XReader_refuse l D tA b sh _ hl h) zd_XReader_read_202 (zW_o hs88 (by decide)) rfl zs_XReader_77 rfl zq_XReader_refuse rfl rfl ⟨(Nat.le_of_ble_eq_true rfl), (Nat.le_of_ble_eq_true rfl)⟩ (Nat.le_of_ble_eq_true rfl) ⟨(Nat.le_of_ble_eq_true rfl), (Nat.le_of_ble_eq_true rfl)⟩ ⟨(Nat.le_of_ble_eq_true rfl), (Nat.le_of_ble_eq_true rfl)⟩
        ·
          replace h := (if_neg hb77).symm.trans h
          refine zr_pcn 170 rfl ?_
          refine zr_aload_n F zd_XReader_read_170 rfl ?_
          refine zr_iconstv (v := 1) F zd_XReader_read_171 (by decide) ?_
          refine zr_aload_n F zd_XReader_read_172 rfl ?_
          obtain ⟨le92, hs91, h⟩ := zoS_s h
          refine zr_get F 7 5 zd_XReader_read_173 (zW_o hs91 (by decide)) rfl (by decide) zw_53 rfl (by rfl) ?_
          obtain ⟨le94, hs93, h⟩ := zoS_s h
          exact zr_thrV F hno (kT_XReader_refuse l D tA b sh _ hl h) zd_XReader_read_176 (zW_o hs93 (by decide)) rfl zs_XReader_77 rfl zq_XReader_refuse rfl rfl ⟨(Nat.le_of_ble_eq_true rfl), (Nat.le_of_ble_eq_true rfl)⟩ (Nat.le_of_ble_eq_true rfl) ⟨(Nat.le_of_ble_eq_true rfl), (Nat.le_of_ble_eq_true rfl)⟩ ⟨(Nat.le_of_ble_eq_true rfl), (Nat.le_of_ble_eq_true rfl)⟩
      ·
        intro ec
        rw [if_neg (by rw [ec]; decide)] at h
        obtain rfl := Option.some.inj h
        exact ⟨rfl, rfl⟩
    ·
      replace h := (if_pos hb34).symm.trans h
      refine zr_iconstv (v := 1) F zd_XReader_read_57 (by decide) ?_
      refine zr_goto F 62 zd_XReader_read_58 (by decide) ?_
      refine zr_istore F zd_XReader_read_62 (by decide) ?_
      refine zr_pcn 64 rfl ?_
      refine zr_iconstv (v := 0) F zd_XReader_read_64 (by decide) ?_
      refine zr_istore F zd_XReader_read_65 (by decide) ?_
      obtain ⟨q96, eq96, h⟩ := zoB_s h
      refine zr_loc (L' := [(0, .ref (b + o)), (4, .int 1), (5, .int 0)]) ⟨rfl, rfl, rfl, trivial⟩ ?_
      refine lp_T_XReader_read_67 F hl hno _ _ _ _ _ _ eq96 ?_ ?_
      ·
        intro ec
        rw [if_pos ec] at h
        refine zr_iload F zd_XReader_read_165 rfl ?_
        refine zr_if_eq F 179 zd_XReader_read_167 (by decide) (fun hb97 => ?_) (fun hb97 => ?_)
        ·
          replace h := (if_pos hb97).symm.trans h
          refine zr_aload_n F zd_XReader_read_179 rfl ?_
          refine zr_bipushv (v := 125) F zd_XReader_read_180 (by decide) ?_
          obtain ⟨le99, hs98, h⟩ := zoS_s h
          cases ep100 : F_XReader_need sh (q96.2.2.2.2) (q96.2.1) 125 with
          | none =>
            rw [ep100] at h
            dsimp only [zoX] at h
            exact zr_thrV F hno (kT_XReader_need l D tA b sh _ hl h) zd_XReader_read_182 (zW_o hs98 (by decide)) rfl zs_XReader_45 rfl zq_XReader_need rfl rfl ⟨(Nat.le_of_ble_eq_true rfl), (Nat.le_of_ble_eq_true rfl)⟩ (Nat.le_of_ble_eq_true rfl) ⟨(Nat.le_of_ble_eq_true rfl), (Nat.le_of_ble_eq_true rfl)⟩ ⟨(Nat.le_of_ble_eq_true rfl), (Nat.le_of_ble_eq_true rfl)⟩
          | some p100 =>
            rw [ep100] at h
            dsimp only [zoX] at h
            refine zr_callV0 F (k_XReader_need l D tA b sh _ ep100) zd_XReader_read_182 (zW_o hs98 (by decide)) rfl zs_XReader_45 rfl zq_XReader_need rfl rfl ⟨(Nat.le_of_ble_eq_true rfl), (Nat.le_of_ble_eq_true rfl)⟩ (Nat.le_of_ble_eq_true rfl) ⟨(Nat.le_of_ble_eq_true rfl), (Nat.le_of_ble_eq_true rfl)⟩ ?_
            refine zr_aload_n F zd_XReader_read_185 rfl ?_
            refine zr_pcn 186 rfl ?_
            obtain ⟨le102, hs101, h⟩ := zoS_s h
            refine zr_get F 7 5 zd_XReader_read_186 (zW_o hs101 (by decide)) rfl (by decide) zw_53 rfl (by rfl) ?_
            refine zr_aload_n F zd_XReader_read_189 rfl ?_
            obtain ⟨le104, hs103, h⟩ := zoS_s h
            refine zr_get F 7 4 zd_XReader_read_190 (zW_o hs103 (by decide)) rfl (by decide) zw_52 rfl (by rfl) ?_
            refine zr_icmp_ge F 205 zd_XReader_read_193 (by decide) (fun hb105 => ?_) (fun hb105 => ?_)
            ·
              replace h := (if_pos hb105).symm.trans h
              cases h
            ·
              replace h := (if_neg hb105).symm.trans h
              refine zr_aload_n F zd_XReader_read_196 rfl ?_
              refine zr_iconstv (v := 1) F zd_XReader_read_197 (by decide) ?_
              refine zr_aload_n F zd_XReader_read_198 rfl ?_
              refine zr_pcn 199 rfl ?_
              obtain ⟨le107, hs106, h⟩ := zoS_s h
              refine zr_get F 7 5 zd_XReader_read_199 (zW_o hs106 (by decide)) rfl (by decide) zw_53 rfl (by rfl) ?_
              obtain ⟨le109, hs108, h⟩ := zoS_s h
              exact zr_thrV F hno (kT_XReader_refuse l D tA b sh _ hl h) zd_XReader_read_202 (zW_o hs108 (by decide)) rfl zs_XReader_77 rfl zq_XReader_refuse rfl rfl ⟨(Nat.le_of_ble_eq_true rfl), (Nat.le_of_ble_eq_true rfl)⟩ (Nat.le_of_ble_eq_true rfl) ⟨(Nat.le_of_ble_eq_true rfl), (Nat.le_of_ble_eq_true rfl)⟩ ⟨(Nat.le_of_ble_eq_true rfl), (Nat.le_of_ble_eq_true rfl)⟩
        ·
          replace h := (if_neg hb97).symm.trans h
          refine zr_aload_n F zd_XReader_read_170 rfl ?_
          refine zr_iconstv (v := 1) F zd_XReader_read_171 (by decide) ?_
          refine zr_aload_n F zd_XReader_read_172 rfl ?_
          obtain ⟨le112, hs111, h⟩ := zoS_s h
          refine zr_get F 7 5 zd_XReader_read_173 (zW_o hs111 (by decide)) rfl (by decide) zw_53 rfl (by rfl) ?_
          obtain ⟨le114, hs113, h⟩ := zoS_s h
          exact zr_thrV F hno (kT_XReader_refuse l D tA b sh _ hl h) zd_XReader_read_176 (zW_o hs113 (by decide)) rfl zs_XReader_77 rfl zq_XReader_refuse rfl rfl ⟨(Nat.le_of_ble_eq_true rfl), (Nat.le_of_ble_eq_true rfl)⟩ (Nat.le_of_ble_eq_true rfl) ⟨(Nat.le_of_ble_eq_true rfl), (Nat.le_of_ble_eq_true rfl)⟩ ⟨(Nat.le_of_ble_eq_true rfl), (Nat.le_of_ble_eq_true rfl)⟩
      ·
        intro ec
        rw [if_neg (by rw [ec]; decide)] at h
        obtain rfl := Option.some.inj h
        exact ⟨rfl, rfl⟩
