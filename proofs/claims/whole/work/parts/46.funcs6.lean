abbrev zb_MReader_part : ByteArray := prog_17_method_25_code
def zy_MReader_part : MethodName := ⟨"OrreryBoxModel$Reader", "part", "()V"⟩
theorem zc_MReader_part : Cond.code zy_MReader_part zb_MReader_part 2 none ∈ gw := gw_t 1784 (by decide +kernel) rfl
theorem zq_MReader_part : zy_MReader_part.cls ≠ "java/lang/invoke/MethodHandle" ∧ zy_MReader_part.cls ≠ "java/lang/invoke/VarHandle" ∧ (parseMethodDescriptor zy_MReader_part.desc).map (fun d => d.parameters.length) = some 0 := by decide +kernel
theorem zd_MReader_part_0 : decode zb_MReader_part 0 = .ok (.aload_n 0, 1) := by decide +kernel
theorem zd_MReader_part_1 : decode zb_MReader_part 1 = .ok (.getfield 287, 3) := by decide +kernel
theorem zd_MReader_part_4 : decode zb_MReader_part 4 = .ok (.istore_n 1, 1) := by decide +kernel
theorem zd_MReader_part_5 : decode zb_MReader_part 5 = .ok (.iload_n 1, 1) := by decide +kernel
theorem zd_MReader_part_6 : decode zb_MReader_part 6 = .ok (.bipush 7, 2) := by decide +kernel
theorem zd_MReader_part_8 : decode zb_MReader_part 8 = .ok (.if_icmp .ge 20, 3) := by decide +kernel
theorem zd_MReader_part_11 : decode zb_MReader_part 11 = .ok (.aload_n 0, 1) := by decide +kernel
theorem zd_MReader_part_12 : decode zb_MReader_part 12 = .ok (.iload_n 1, 1) := by decide +kernel
theorem zd_MReader_part_13 : decode zb_MReader_part 13 = .ok (.invokestatic 290, 3) := by decide +kernel
theorem zd_MReader_part_16 : decode zb_MReader_part 16 = .ok (.invokevirtual 51, 3) := by decide +kernel
theorem zd_MReader_part_19 : decode zb_MReader_part 19 = .ok (.ifCond .ne 9, 3) := by decide +kernel
theorem zd_MReader_part_22 : decode zb_MReader_part 22 = .ok (.iinc 1 1, 3) := by decide +kernel
theorem zd_MReader_part_25 : decode zb_MReader_part 25 = .ok (.goto (-20), 3) := by decide +kernel
theorem zd_MReader_part_28 : decode zb_MReader_part 28 = .ok (.iload_n 1, 1) := by decide +kernel
theorem zd_MReader_part_29 : decode zb_MReader_part 29 = .ok (.bipush 7, 2) := by decide +kernel
theorem zd_MReader_part_31 : decode zb_MReader_part 31 = .ok (.if_icmp .ne 13, 3) := by decide +kernel
theorem zd_MReader_part_34 : decode zb_MReader_part 34 = .ok (.aload_n 0, 1) := by decide +kernel
theorem zd_MReader_part_35 : decode zb_MReader_part 35 = .ok (.iconst 1, 1) := by decide +kernel
theorem zd_MReader_part_36 : decode zb_MReader_part 36 = .ok (.aload_n 0, 1) := by decide +kernel
theorem zd_MReader_part_37 : decode zb_MReader_part 37 = .ok (.getfield 27, 3) := by decide +kernel
theorem zd_MReader_part_40 : decode zb_MReader_part 40 = .ok (.invokevirtual 38, 3) := by decide +kernel
theorem zd_MReader_part_43 : decode zb_MReader_part 43 = .ok (.return_, 1) := by decide +kernel
theorem zd_MReader_part_44 : decode zb_MReader_part 44 = .ok (.aload_n 0, 1) := by decide +kernel
theorem zd_MReader_part_45 : decode zb_MReader_part 45 = .ok (.iload_n 1, 1) := by decide +kernel
theorem zd_MReader_part_46 : decode zb_MReader_part 46 = .ok (.invokestatic 290, 3) := by decide +kernel
theorem zd_MReader_part_49 : decode zb_MReader_part 49 = .ok (.invokevirtual 83, 3) := by decide +kernel
theorem zd_MReader_part_52 : decode zb_MReader_part 52 = .ok (.iload_n 1, 1) := by decide +kernel
theorem zd_MReader_part_53 : decode zb_MReader_part 53 = .ok (.iconst 5, 1) := by decide +kernel
theorem zd_MReader_part_54 : decode zb_MReader_part 54 = .ok (.if_icmp .ge 39, 3) := by decide +kernel
theorem zd_MReader_part_57 : decode zb_MReader_part 57 = .ok (.aload_n 0, 1) := by decide +kernel
theorem zd_MReader_part_58 : decode zb_MReader_part 58 = .ok (.iload_n 1, 1) := by decide +kernel
theorem zd_MReader_part_59 : decode zb_MReader_part 59 = .ok (.iload_n 1, 1) := by decide +kernel
theorem zd_MReader_part_60 : decode zb_MReader_part 60 = .ok (.ifCond .ne 8, 3) := by decide +kernel
theorem zd_MReader_part_63 : decode zb_MReader_part 63 = .ok (.bipush 8, 2) := by decide +kernel
theorem zd_MReader_part_65 : decode zb_MReader_part 65 = .ok (.goto 25, 3) := by decide +kernel
theorem zd_MReader_part_68 : decode zb_MReader_part 68 = .ok (.iload_n 1, 1) := by decide +kernel
theorem zd_MReader_part_69 : decode zb_MReader_part 69 = .ok (.iconst 3, 1) := by decide +kernel
theorem zd_MReader_part_70 : decode zb_MReader_part 70 = .ok (.if_icmp .ne 8, 3) := by decide +kernel
theorem zd_MReader_part_73 : decode zb_MReader_part 73 = .ok (.bipush 48, 2) := by decide +kernel
theorem zd_MReader_part_75 : decode zb_MReader_part 75 = .ok (.goto 15, 3) := by decide +kernel
theorem zd_MReader_part_78 : decode zb_MReader_part 78 = .ok (.iload_n 1, 1) := by decide +kernel
theorem zd_MReader_part_79 : decode zb_MReader_part 79 = .ok (.iconst 4, 1) := by decide +kernel
theorem zd_MReader_part_80 : decode zb_MReader_part 80 = .ok (.if_icmp .ne 8, 3) := by decide +kernel
theorem zd_MReader_part_83 : decode zb_MReader_part 83 = .ok (.bipush 32, 2) := by decide +kernel
theorem zd_MReader_part_85 : decode zb_MReader_part 85 = .ok (.goto 5, 3) := by decide +kernel
theorem zd_MReader_part_88 : decode zb_MReader_part 88 = .ok (.bipush 16, 2) := by decide +kernel
theorem zd_MReader_part_90 : decode zb_MReader_part 90 = .ok (.invokevirtual 294, 3) := by decide +kernel
theorem zd_MReader_part_93 : decode zb_MReader_part 93 = .ok (.iload_n 1, 1) := by decide +kernel
theorem zd_MReader_part_94 : decode zb_MReader_part 94 = .ok (.iconst 5, 1) := by decide +kernel
theorem zd_MReader_part_95 : decode zb_MReader_part 95 = .ok (.if_icmp .ne 7, 3) := by decide +kernel
theorem zd_MReader_part_98 : decode zb_MReader_part 98 = .ok (.aload_n 0, 1) := by decide +kernel
theorem zd_MReader_part_99 : decode zb_MReader_part 99 = .ok (.invokevirtual 297, 3) := by decide +kernel
theorem zd_MReader_part_102 : decode zb_MReader_part 102 = .ok (.iload_n 1, 1) := by decide +kernel
theorem zd_MReader_part_103 : decode zb_MReader_part 103 = .ok (.bipush 6, 2) := by decide +kernel
theorem zd_MReader_part_105 : decode zb_MReader_part 105 = .ok (.if_icmp .ne 7, 3) := by decide +kernel
theorem zd_MReader_part_108 : decode zb_MReader_part 108 = .ok (.aload_n 0, 1) := by decide +kernel
theorem zd_MReader_part_109 : decode zb_MReader_part 109 = .ok (.invokevirtual 299, 3) := by decide +kernel
theorem zd_MReader_part_112 : decode zb_MReader_part 112 = .ok (.aload_n 0, 1) := by decide +kernel
theorem zd_MReader_part_113 : decode zb_MReader_part 113 = .ok (.iload_n 1, 1) := by decide +kernel
theorem zd_MReader_part_114 : decode zb_MReader_part 114 = .ok (.iconst 1, 1) := by decide +kernel
theorem zd_MReader_part_115 : decode zb_MReader_part 115 = .ok (.iadd, 1) := by decide +kernel
theorem zd_MReader_part_116 : decode zb_MReader_part 116 = .ok (.putfield 287, 3) := by decide +kernel
theorem zd_MReader_part_119 : decode zb_MReader_part 119 = .ok (.return_, 1) := by decide +kernel
theorem zw_1785 : (Jvm.Cond.methodLink "OrreryBoxModel$Reader" (290 : Nat) ({ cls := "OrreryBoxModel$Reader", name := "partName", desc := "(I)Ljava/lang/String;" } : Jvm.MethodName)) ∈ gw := gw_t 1785 (by decide +kernel) rfl
theorem zw_1786 : (Jvm.Cond.static ({ cls := "OrreryBoxModel$Reader", name := "partName", desc := "(I)Ljava/lang/String;" } : Jvm.MethodName)) ∈ gw := gw_t 1786 (by decide +kernel) rfl
theorem zs_MReader_290 : zwS "OrreryBoxModel$Reader" 290 zy_MReader_partName zb_MReader_partName 1 (some (.object "java/lang/String")) := ⟨zw_1785, zw_1786, zw_15, zc_MReader_partName⟩
def L_MReader_part_5 (sh : zSh) (fuel : Nat) (v0 : Nat) (v1 : Int32) (mm : zMem) : Option (Nat × Int32 × zMem) := match fuel with
  | 0 => none
  | fu + 1 => (if 7 ≤ v1 then some (v0, v1, mm) else Option.bind (F_MReader_partName sh mm v1) (fun p5 => zoS (sh v0) 14 (fun le7 => Option.bind (F_MReader_isWord sh (p5.2) v0 (p5.1)) (fun p8 => (if p8.1 = 0 then L_MReader_part_5 sh fu v0 (v1 + 1) (p8.2) else some (v0, v1, p8.2))))))
set_option maxHeartbeats 4000000 in
set_option maxRecDepth 100000 in
theorem lp_MReader_part_5 {p : Program} {l : Launch} {e : Env} {s : State} {m : MethodId} {args : Array Value} {below : List Frame} {meth : Method} {c : Code} {D : va_G} {tA : Nat → ClassId} {b n : Nat} {post : Option Value → zV → Nat → Prop} {sh : zSh} (F : zF p s m args meth c zb_MReader_part 2 "OrreryBoxModel$Reader" D tA b) : ∀ (fuel : Nat) (v0 : Nat) (v1 : Int32) (mm : zMem) (r : Nat × Int32 × zMem), L_MReader_part_5 sh fuel v0 v1 mm = some r → (Z p l e { frames := 11, cells := 0, slots := 0, locals := 249 } s m args below meth c D b 2 (MQ below (zQ D b post) args s 0 0 (fun q => b ≤ q)) (zW tA b sh r.2.2) n 0 0 28 [(0, .ref (b + (r.1))), (1, .int (r.2.1))] []) → Z p l e { frames := 11, cells := 0, slots := 0, locals := 249 } s m args below meth c D b 2 (MQ below (zQ D b post) args s 0 0 (fun q => b ≤ q)) (zW tA b sh mm) n 0 0 5 [(0, .ref (b + v0)), (1, .int v1)] [] := by
  intro fuel
  induction fuel with
  | zero =>
    intro v0 v1 mm r h
    cases h
  | succ fu ih =>
    intro v0 v1 mm r h hx0
    rw [L_MReader_part_5] at h
    refine zr_iload_n F zd_MReader_part_5 rfl ?_
    refine zr_bipushv (v := 7) F zd_MReader_part_6 (by decide) ?_
    refine zr_icmp_ge F 28 zd_MReader_part_8 (by decide) (fun hb4 => ?_) (fun hb4 => ?_)
    ·
      rw [if_pos hb4] at h
      obtain rfl := Option.some.inj h
      refine zr_loc (L' := [(0, .ref (b + v0)), (1, .int v1)]) ⟨rfl, rfl, trivial⟩ ?_
      exact hx0 
    ·
      rw [if_neg hb4] at h
      refine zr_aload_n F zd_MReader_part_11 rfl ?_
      refine zr_pcn 12 rfl ?_
      refine zr_iload_n F zd_MReader_part_12 rfl ?_
      obtain ⟨p5, ep5, h⟩ := zoB_s h
      refine zr_callS1 F (k_MReader_partName l D tA b sh _ ep5) zd_MReader_part_13 zs_MReader_290 zq_MReader_partName rfl rfl ⟨(Nat.le_of_ble_eq_true rfl), (Nat.le_of_ble_eq_true rfl)⟩ (Nat.le_of_ble_eq_true rfl) ⟨(Nat.le_of_ble_eq_true rfl), (Nat.le_of_ble_eq_true rfl)⟩ ?_
      obtain ⟨le7, hs6, h⟩ := zoS_s h
      obtain ⟨p8, ep8, h⟩ := zoB_s h
      refine zr_callV1 F (k_MReader_isWord l D tA b sh _ ep8) zd_MReader_part_16 (zW_o hs6 (by decide)) rfl zs_MReader_51 rfl zq_MReader_isWord rfl rfl ⟨(Nat.le_of_ble_eq_true rfl), (Nat.le_of_ble_eq_true rfl)⟩ (Nat.le_of_ble_eq_true rfl) ⟨(Nat.le_of_ble_eq_true rfl), (Nat.le_of_ble_eq_true rfl)⟩ ?_
      refine zr_if_ne F 28 zd_MReader_part_19 (by decide) (fun hb9 => ?_) (fun hb9 => ?_)
      ·
        rw [if_neg hb9] at h
        obtain rfl := Option.some.inj h
        refine zr_loc (L' := [(0, .ref (b + v0)), (1, .int v1)]) ⟨rfl, rfl, trivial⟩ ?_
        exact hx0 
      ·
        rw [if_pos hb9] at h
        refine zr_iinc (v := (v1 + 1)) F zd_MReader_part_22 rfl rfl (by decide) ?_
        refine zr_goto F 5 zd_MReader_part_25 (by decide) ?_
        refine zr_loc (L' := [(0, .ref (b + v0)), (1, .int (v1 + 1))]) ⟨rfl, rfl, trivial⟩ ?_
        exact ih _ _ _ _ h hx0
theorem zf_I_14_10 (b : Nat) (m : zMem) (k : Nat) (v : Int32) : (zfl b 14 m k).set 10 (.int v) = zfl b 14 (mI m k 10 v) k := by simp [zfl, mI, upd, vp_updL]
theorem zw_1901 : (Jvm.Cond.methodLink "OrreryBoxModel$Reader" (299 : Nat) ({ cls := "OrreryBoxModel$Reader", name := "light", desc := "()V" } : Jvm.MethodName)) ∈ gw := gw_t 1901 (by decide +kernel) rfl
theorem zw_1903 : (Jvm.Cond.instanceMethod ({ cls := "OrreryBoxModel$Reader", name := "light", desc := "()V" } : Jvm.MethodName)) ∈ gw := gw_t 1903 (by decide +kernel) rfl
theorem zv_89 : (Jvm.Cond.selects "OrreryBoxModel$Reader" (⟨"OrreryBoxModel$Reader", "light", "()V"⟩ : MethodName) ⟨"OrreryBoxModel$Reader", "light", "()V"⟩) ∈ gw := gw_s 89 (by decide +kernel) rfl
theorem zs_MReader_299 : zwV "OrreryBoxModel$Reader" 299 "OrreryBoxModel$Reader" zy_MReader_light zb_MReader_light 1 none := ⟨zw_1901, zw_1903, zv_89, zw_15, zc_MReader_light⟩
theorem zw_1896 : (Jvm.Cond.methodLink "OrreryBoxModel$Reader" (297 : Nat) ({ cls := "OrreryBoxModel$Reader", name := "camera", desc := "()V" } : Jvm.MethodName)) ∈ gw := gw_t 1896 (by decide +kernel) rfl
theorem zw_1898 : (Jvm.Cond.instanceMethod ({ cls := "OrreryBoxModel$Reader", name := "camera", desc := "()V" } : Jvm.MethodName)) ∈ gw := gw_t 1898 (by decide +kernel) rfl
theorem zv_88 : (Jvm.Cond.selects "OrreryBoxModel$Reader" (⟨"OrreryBoxModel$Reader", "camera", "()V"⟩ : MethodName) ⟨"OrreryBoxModel$Reader", "camera", "()V"⟩) ∈ gw := gw_s 88 (by decide +kernel) rfl
theorem zs_MReader_297 : zwV "OrreryBoxModel$Reader" 297 "OrreryBoxModel$Reader" zy_MReader_camera zb_MReader_camera 1 none := ⟨zw_1896, zw_1898, zv_88, zw_15, zc_MReader_camera⟩
theorem zw_1805 : (Jvm.Cond.methodLink "OrreryBoxModel$Reader" (294 : Nat) ({ cls := "OrreryBoxModel$Reader", name := "things", desc := "(II)V" } : Jvm.MethodName)) ∈ gw := gw_t 1805 (by decide +kernel) rfl
theorem zw_1807 : (Jvm.Cond.instanceMethod ({ cls := "OrreryBoxModel$Reader", name := "things", desc := "(II)V" } : Jvm.MethodName)) ∈ gw := gw_t 1807 (by decide +kernel) rfl
theorem zv_75 : (Jvm.Cond.selects "OrreryBoxModel$Reader" (⟨"OrreryBoxModel$Reader", "things", "(II)V"⟩ : MethodName) ⟨"OrreryBoxModel$Reader", "things", "(II)V"⟩) ∈ gw := gw_s 75 (by decide +kernel) rfl
theorem zs_MReader_294 : zwV "OrreryBoxModel$Reader" 294 "OrreryBoxModel$Reader" zy_MReader_things zb_MReader_things 5 none := ⟨zw_1805, zw_1807, zv_75, zw_15, zc_MReader_things⟩
def F_MReader_part (sh : zSh) (mm : zMem) (o : Nat) : Option zMem := zoS (sh o) 14 (fun le2 => zoL (mm.1 o 10) (fun x3 => Option.bind (L_MReader_part_5 sh zfuel o x3 mm) (fun q10 => (if q10.2.1 = 7 then zoS (sh (q10.1)) 14 (fun le173 => zoS (sh (q10.1)) 14 (fun le175 => Option.bind (F_MReader_fail sh (q10.2.2) (q10.1) 1 ((q10.2.2).1 (q10.1) 3)) (fun p176 => some p176))) else Option.bind (F_MReader_partName sh (q10.2.2) (q10.2.1)) (fun p12 => zoS (sh (q10.1)) 14 (fun le14 => Option.bind (F_MReader_name sh (p12.2) (q10.1) (p12.1)) (fun p15 => (if 5 ≤ q10.2.1 then (if q10.2.1 = 5 then zoS (sh (q10.1)) 14 (fun le31 => Option.bind (F_MReader_camera sh p15 (q10.1)) (fun p32 => (if q10.2.1 = 6 then zoS (sh (q10.1)) 14 (fun le39 => Option.bind (F_MReader_light sh p32 (q10.1)) (fun p40 => zoL (q10.2.1 + 1) (fun x41 => zoS (sh (q10.1)) 14 (fun le43 => zoL (mI p40 (q10.1) 10 x41) (fun mm44 => some mm44))))) else zoL (q10.2.1 + 1) (fun x34 => zoS (sh (q10.1)) 14 (fun le36 => zoL (mI p32 (q10.1) 10 x34) (fun mm37 => some mm37)))))) else (if q10.2.1 = 6 then zoS (sh (q10.1)) 14 (fun le24 => Option.bind (F_MReader_light sh p15 (q10.1)) (fun p25 => zoL (q10.2.1 + 1) (fun x26 => zoS (sh (q10.1)) 14 (fun le28 => zoL (mI p25 (q10.1) 10 x26) (fun mm29 => some mm29))))) else zoL (q10.2.1 + 1) (fun x19 => zoS (sh (q10.1)) 14 (fun le21 => zoL (mI p15 (q10.1) 10 x19) (fun mm22 => some mm22))))) else (if q10.2.1 = 0 then zoS (sh (q10.1)) 14 (fun le142 => Option.bind (F_MReader_things sh p15 (q10.1) (q10.2.1) 8) (fun p143 => (if q10.2.1 = 5 then zoS (sh (q10.1)) 14 (fun le158 => Option.bind (F_MReader_camera sh p143 (q10.1)) (fun p159 => (if q10.2.1 = 6 then zoS (sh (q10.1)) 14 (fun le166 => Option.bind (F_MReader_light sh p159 (q10.1)) (fun p167 => zoL (q10.2.1 + 1) (fun x168 => zoS (sh (q10.1)) 14 (fun le170 => zoL (mI p167 (q10.1) 10 x168) (fun mm171 => some mm171))))) else zoL (q10.2.1 + 1) (fun x161 => zoS (sh (q10.1)) 14 (fun le163 => zoL (mI p159 (q10.1) 10 x161) (fun mm164 => some mm164)))))) else (if q10.2.1 = 6 then zoS (sh (q10.1)) 14 (fun le151 => Option.bind (F_MReader_light sh p143 (q10.1)) (fun p152 => zoL (q10.2.1 + 1) (fun x153 => zoS (sh (q10.1)) 14 (fun le155 => zoL (mI p152 (q10.1) 10 x153) (fun mm156 => some mm156))))) else zoL (q10.2.1 + 1) (fun x146 => zoS (sh (q10.1)) 14 (fun le148 => zoL (mI p143 (q10.1) 10 x146) (fun mm149 => some mm149))))))) else (if q10.2.1 = 3 then zoS (sh (q10.1)) 14 (fun le111 => Option.bind (F_MReader_things sh p15 (q10.1) (q10.2.1) 48) (fun p112 => (if q10.2.1 = 5 then zoS (sh (q10.1)) 14 (fun le127 => Option.bind (F_MReader_camera sh p112 (q10.1)) (fun p128 => (if q10.2.1 = 6 then zoS (sh (q10.1)) 14 (fun le135 => Option.bind (F_MReader_light sh p128 (q10.1)) (fun p136 => zoL (q10.2.1 + 1) (fun x137 => zoS (sh (q10.1)) 14 (fun le139 => zoL (mI p136 (q10.1) 10 x137) (fun mm140 => some mm140))))) else zoL (q10.2.1 + 1) (fun x130 => zoS (sh (q10.1)) 14 (fun le132 => zoL (mI p128 (q10.1) 10 x130) (fun mm133 => some mm133)))))) else (if q10.2.1 = 6 then zoS (sh (q10.1)) 14 (fun le120 => Option.bind (F_MReader_light sh p112 (q10.1)) (fun p121 => zoL (q10.2.1 + 1) (fun x122 => zoS (sh (q10.1)) 14 (fun le124 => zoL (mI p121 (q10.1) 10 x122) (fun mm125 => some mm125))))) else zoL (q10.2.1 + 1) (fun x115 => zoS (sh (q10.1)) 14 (fun le117 => zoL (mI p112 (q10.1) 10 x115) (fun mm118 => some mm118))))))) else (if q10.2.1 = 4 then zoS (sh (q10.1)) 14 (fun le80 => Option.bind (F_MReader_things sh p15 (q10.1) (q10.2.1) 32) (fun p81 => (if q10.2.1 = 5 then zoS (sh (q10.1)) 14 (fun le96 => Option.bind (F_MReader_camera sh p81 (q10.1)) (fun p97 => (if q10.2.1 = 6 then zoS (sh (q10.1)) 14 (fun le104 => Option.bind (F_MReader_light sh p97 (q10.1)) (fun p105 => zoL (q10.2.1 + 1) (fun x106 => zoS (sh (q10.1)) 14 (fun le108 => zoL (mI p105 (q10.1) 10 x106) (fun mm109 => some mm109))))) else zoL (q10.2.1 + 1) (fun x99 => zoS (sh (q10.1)) 14 (fun le101 => zoL (mI p97 (q10.1) 10 x99) (fun mm102 => some mm102)))))) else (if q10.2.1 = 6 then zoS (sh (q10.1)) 14 (fun le89 => Option.bind (F_MReader_light sh p81 (q10.1)) (fun p90 => zoL (q10.2.1 + 1) (fun x91 => zoS (sh (q10.1)) 14 (fun le93 => zoL (mI p90 (q10.1) 10 x91) (fun mm94 => some mm94))))) else zoL (q10.2.1 + 1) (fun x84 => zoS (sh (q10.1)) 14 (fun le86 => zoL (mI p81 (q10.1) 10 x84) (fun mm87 => some mm87))))))) else zoS (sh (q10.1)) 14 (fun le49 => Option.bind (F_MReader_things sh p15 (q10.1) (q10.2.1) 16) (fun p50 => (if q10.2.1 = 5 then zoS (sh (q10.1)) 14 (fun le65 => Option.bind (F_MReader_camera sh p50 (q10.1)) (fun p66 => (if q10.2.1 = 6 then zoS (sh (q10.1)) 14 (fun le73 => Option.bind (F_MReader_light sh p66 (q10.1)) (fun p74 => zoL (q10.2.1 + 1) (fun x75 => zoS (sh (q10.1)) 14 (fun le77 => zoL (mI p74 (q10.1) 10 x75) (fun mm78 => some mm78))))) else zoL (q10.2.1 + 1) (fun x68 => zoS (sh (q10.1)) 14 (fun le70 => zoL (mI p66 (q10.1) 10 x68) (fun mm71 => some mm71)))))) else (if q10.2.1 = 6 then zoS (sh (q10.1)) 14 (fun le58 => Option.bind (F_MReader_light sh p50 (q10.1)) (fun p59 => zoL (q10.2.1 + 1) (fun x60 => zoS (sh (q10.1)) 14 (fun le62 => zoL (mI p59 (q10.1) 10 x60) (fun mm63 => some mm63))))) else zoL (q10.2.1 + 1) (fun x53 => zoS (sh (q10.1)) 14 (fun le55 => zoL (mI p50 (q10.1) 10 x53) (fun mm56 => some mm56))))))))))))))))))
set_option maxHeartbeats 4000000 in
set_option maxRecDepth 100000 in
theorem k_MReader_part (l : Launch) (D : va_G) (tA : Nat → ClassId) (b : Nat) (sh : zSh) (n : Nat) {mm : zMem} {o : Nat} {r : zMem} (h : F_MReader_part sh mm o = some r) : zM l D tA b zy_MReader_part zb_MReader_part 2 none 11 249 0 0 [.ref (b + o)] (zW tA b sh mm) n (zE none (zW tA b sh r) n) := by
  unfold F_MReader_part at h
  refine zM_of (own := "OrreryBoxModel$Reader") (plainFor_of_name (by decide)) rfl (Nat.le_of_ble_eq_true rfl) (fun p e s m below meth c F hr hin hH => ?_)
  refine zr_aload_n F zd_MReader_part_0 rfl ?_
  obtain ⟨le2, hs1, h⟩ := zoS_s h
  refine zr_get F 14 10 zd_MReader_part_1 (zW_o hs1 (by decide)) rfl (by decide) zw_1516 rfl (by rfl) ?_
  obtain ⟨x3, ex3, h⟩ := zoL_s h
  rw [← ex3]
  refine zr_istore_n F zd_MReader_part_4 (by decide) ?_
  obtain ⟨q10, eq10, h⟩ := zoB_s h
  refine zr_loc (L' := [(0, .ref (b + o)), (1, .int x3)]) ⟨rfl, rfl, trivial⟩ ?_
  refine lp_MReader_part_5 F _ _ _ _ _ eq10 ?_
  ·
    refine zr_iload_n F zd_MReader_part_28 rfl ?_
    refine zr_bipushv (v := 7) F zd_MReader_part_29 (by decide) ?_
    refine zr_pcn 31 rfl ?_
    refine zr_icmp_ne F 44 zd_MReader_part_31 (by decide) (fun hb11 => ?_) (fun hb11 => ?_)
    ·
      rw [if_neg hb11] at h
      refine zr_aload_n F zd_MReader_part_44 rfl ?_
      refine zr_iload_n F zd_MReader_part_45 rfl ?_
      obtain ⟨p12, ep12, h⟩ := zoB_s h
      refine zr_callS1 F (k_MReader_partName l D tA b sh _ ep12) zd_MReader_part_46 zs_MReader_290 zq_MReader_partName rfl rfl ⟨(Nat.le_of_ble_eq_true rfl), (Nat.le_of_ble_eq_true rfl)⟩ (Nat.le_of_ble_eq_true rfl) ⟨(Nat.le_of_ble_eq_true rfl), (Nat.le_of_ble_eq_true rfl)⟩ ?_
      obtain ⟨le14, hs13, h⟩ := zoS_s h
      obtain ⟨p15, ep15, h⟩ := zoB_s h
      refine zr_callV0 F (k_MReader_name l D tA b sh _ ep15) zd_MReader_part_49 (zW_o hs13 (by decide)) rfl zs_MReader_83 rfl zq_MReader_name rfl rfl ⟨(Nat.le_of_ble_eq_true rfl), (Nat.le_of_ble_eq_true rfl)⟩ (Nat.le_of_ble_eq_true rfl) ⟨(Nat.le_of_ble_eq_true rfl), (Nat.le_of_ble_eq_true rfl)⟩ ?_
      refine zr_iload_n F zd_MReader_part_52 rfl ?_
      refine zr_iconstv (v := 5) F zd_MReader_part_53 (by decide) ?_
      refine zr_icmp_ge F 93 zd_MReader_part_54 (by decide) (fun hb16 => ?_) (fun hb16 => ?_)
      ·
        rw [if_pos hb16] at h
        refine zr_pcn 93 rfl ?_
        refine zr_iload_n F zd_MReader_part_93 rfl ?_
        refine zr_iconstv (v := 5) F zd_MReader_part_94 (by decide) ?_
        refine zr_icmp_ne F 102 zd_MReader_part_95 (by decide) (fun hb17 => ?_) (fun hb17 => ?_)
        ·
          rw [if_neg hb17] at h
          refine zr_iload_n F zd_MReader_part_102 rfl ?_
          refine zr_bipushv (v := 6) F zd_MReader_part_103 (by decide) ?_
          refine zr_icmp_ne F 112 zd_MReader_part_105 (by decide) (fun hb18 => ?_) (fun hb18 => ?_)
          ·
            rw [if_neg hb18] at h
            refine zr_aload_n F zd_MReader_part_112 rfl ?_
            refine zr_iload_n F zd_MReader_part_113 rfl ?_
            refine zr_pcn 114 rfl ?_
            refine zr_iconstv (v := 1) F zd_MReader_part_114 (by decide) ?_
            refine zr_iadd F zd_MReader_part_115 ?_
            obtain ⟨x19, ex19, h⟩ := zoL_s h
            rw [← ex19]
            obtain ⟨le21, hs20, h⟩ := zoS_s h
            refine zr_put F 14 10 zd_MReader_part_116 (zW_o hs20 (by decide)) rfl (by decide) zw_1516 rfl rfl rfl rfl (by exact (Nat.le_of_ble_eq_true rfl)) ?_
            obtain ⟨mm22, emm22, h⟩ := zoL_s h
            refine zr_norm (zW tA b sh mm22) _ (by rw [emm22]; exact zW_pI (v := x19) hs20 (by decide) (zf_I_14_10 b _ _ _)) rfl ?_
            obtain rfl := Option.some.inj h
            exact zr_vret F hr zd_MReader_part_119 (Nat.le_of_ble_eq_true rfl) (Nat.le_of_ble_eq_true rfl) ⟨rfl, rfl, rfl⟩
          ·
            rw [if_pos hb18] at h
            refine zr_aload_n F zd_MReader_part_108 rfl ?_
            obtain ⟨le24, hs23, h⟩ := zoS_s h
            obtain ⟨p25, ep25, h⟩ := zoB_s h
            refine zr_callV0 F (k_MReader_light l D tA b sh _ ep25) zd_MReader_part_109 (zW_o hs23 (by decide)) rfl zs_MReader_299 rfl zq_MReader_light rfl rfl ⟨(Nat.le_of_ble_eq_true rfl), (Nat.le_of_ble_eq_true rfl)⟩ (Nat.le_of_ble_eq_true rfl) ⟨(Nat.le_of_ble_eq_true rfl), (Nat.le_of_ble_eq_true rfl)⟩ ?_
            refine zr_aload_n F zd_MReader_part_112 rfl ?_
            refine zr_iload_n F zd_MReader_part_113 rfl ?_
            refine zr_pcn 114 rfl ?_
            refine zr_iconstv (v := 1) F zd_MReader_part_114 (by decide) ?_
            refine zr_iadd F zd_MReader_part_115 ?_
            obtain ⟨x26, ex26, h⟩ := zoL_s h
            rw [← ex26]
            obtain ⟨le28, hs27, h⟩ := zoS_s h
            refine zr_put F 14 10 zd_MReader_part_116 (zW_o hs27 (by decide)) rfl (by decide) zw_1516 rfl rfl rfl rfl (by exact (Nat.le_of_ble_eq_true rfl)) ?_
            obtain ⟨mm29, emm29, h⟩ := zoL_s h
            refine zr_norm (zW tA b sh mm29) _ (by rw [emm29]; exact zW_pI (v := x26) hs27 (by decide) (zf_I_14_10 b _ _ _)) rfl ?_
            obtain rfl := Option.some.inj h
            exact zr_vret F hr zd_MReader_part_119 (Nat.le_of_ble_eq_true rfl) (Nat.le_of_ble_eq_true rfl) ⟨rfl, rfl, rfl⟩
        ·
          rw [if_pos hb17] at h
          refine zr_aload_n F zd_MReader_part_98 rfl ?_
          obtain ⟨le31, hs30, h⟩ := zoS_s h
          obtain ⟨p32, ep32, h⟩ := zoB_s h
          refine zr_callV0 F (k_MReader_camera l D tA b sh _ ep32) zd_MReader_part_99 (zW_o hs30 (by decide)) rfl zs_MReader_297 rfl zq_MReader_camera rfl rfl ⟨(Nat.le_of_ble_eq_true rfl), (Nat.le_of_ble_eq_true rfl)⟩ (Nat.le_of_ble_eq_true rfl) ⟨(Nat.le_of_ble_eq_true rfl), (Nat.le_of_ble_eq_true rfl)⟩ ?_
          refine zr_iload_n F zd_MReader_part_102 rfl ?_
          refine zr_bipushv (v := 6) F zd_MReader_part_103 (by decide) ?_
          refine zr_pcn 105 rfl ?_
          refine zr_icmp_ne F 112 zd_MReader_part_105 (by decide) (fun hb33 => ?_) (fun hb33 => ?_)
          ·
            rw [if_neg hb33] at h
            refine zr_aload_n F zd_MReader_part_112 rfl ?_
            refine zr_iload_n F zd_MReader_part_113 rfl ?_
            refine zr_iconstv (v := 1) F zd_MReader_part_114 (by decide) ?_
            refine zr_iadd F zd_MReader_part_115 ?_
            obtain ⟨x34, ex34, h⟩ := zoL_s h
            rw [← ex34]
            obtain ⟨le36, hs35, h⟩ := zoS_s h
            refine zr_put F 14 10 zd_MReader_part_116 (zW_o hs35 (by decide)) rfl (by decide) zw_1516 rfl rfl rfl rfl (by exact (Nat.le_of_ble_eq_true rfl)) ?_
            obtain ⟨mm37, emm37, h⟩ := zoL_s h
            refine zr_norm (zW tA b sh mm37) _ (by rw [emm37]; exact zW_pI (v := x34) hs35 (by decide) (zf_I_14_10 b _ _ _)) rfl ?_
            obtain rfl := Option.some.inj h
            exact zr_vret F hr zd_MReader_part_119 (Nat.le_of_ble_eq_true rfl) (Nat.le_of_ble_eq_true rfl) ⟨rfl, rfl, rfl⟩
          ·
            rw [if_pos hb33] at h
            refine zr_aload_n F zd_MReader_part_108 rfl ?_
            refine zr_pcn 109 rfl ?_
            obtain ⟨le39, hs38, h⟩ := zoS_s h
            obtain ⟨p40, ep40, h⟩ := zoB_s h
            refine zr_callV0 F (k_MReader_light l D tA b sh _ ep40) zd_MReader_part_109 (zW_o hs38 (by decide)) rfl zs_MReader_299 rfl zq_MReader_light rfl rfl ⟨(Nat.le_of_ble_eq_true rfl), (Nat.le_of_ble_eq_true rfl)⟩ (Nat.le_of_ble_eq_true rfl) ⟨(Nat.le_of_ble_eq_true rfl), (Nat.le_of_ble_eq_true rfl)⟩ ?_
            refine zr_aload_n F zd_MReader_part_112 rfl ?_
            refine zr_iload_n F zd_MReader_part_113 rfl ?_
            refine zr_iconstv (v := 1) F zd_MReader_part_114 (by decide) ?_
            refine zr_iadd F zd_MReader_part_115 ?_
            obtain ⟨x41, ex41, h⟩ := zoL_s h
            rw [← ex41]
            obtain ⟨le43, hs42, h⟩ := zoS_s h
            refine zr_put F 14 10 zd_MReader_part_116 (zW_o hs42 (by decide)) rfl (by decide) zw_1516 rfl rfl rfl rfl (by exact (Nat.le_of_ble_eq_true rfl)) ?_
            obtain ⟨mm44, emm44, h⟩ := zoL_s h
            refine zr_norm (zW tA b sh mm44) _ (by rw [emm44]; exact zW_pI (v := x41) hs42 (by decide) (zf_I_14_10 b _ _ _)) rfl ?_
            obtain rfl := Option.some.inj h
            exact zr_vret F hr zd_MReader_part_119 (Nat.le_of_ble_eq_true rfl) (Nat.le_of_ble_eq_true rfl) ⟨rfl, rfl, rfl⟩
      ·
        rw [if_neg hb16] at h
        refine zr_aload_n F zd_MReader_part_57 rfl ?_
        refine zr_pcn 58 rfl ?_
        refine zr_iload_n F zd_MReader_part_58 rfl ?_
        refine zr_iload_n F zd_MReader_part_59 rfl ?_
        refine zr_if_ne F 68 zd_MReader_part_60 (by decide) (fun hb45 => ?_) (fun hb45 => ?_)
        ·
          rw [if_neg hb45] at h
          refine zr_iload_n F zd_MReader_part_68 rfl ?_
          refine zr_iconstv (v := 3) F zd_MReader_part_69 (by decide) ?_
          refine zr_icmp_ne F 78 zd_MReader_part_70 (by decide) (fun hb46 => ?_) (fun hb46 => ?_)
          ·
            rw [if_neg hb46] at h
            refine zr_iload_n F zd_MReader_part_78 rfl ?_
            refine zr_iconstv (v := 4) F zd_MReader_part_79 (by decide) ?_
            refine zr_pcn 80 rfl ?_
            refine zr_icmp_ne F 88 zd_MReader_part_80 (by decide) (fun hb47 => ?_) (fun hb47 => ?_)
            ·
              rw [if_neg hb47] at h
              refine zr_bipushv (v := 16) F zd_MReader_part_88 (by decide) ?_
              obtain ⟨le49, hs48, h⟩ := zoS_s h
              obtain ⟨p50, ep50, h⟩ := zoB_s h
              refine zr_callV0 F (k_MReader_things l D tA b sh _ ep50) zd_MReader_part_90 (zW_o hs48 (by decide)) rfl zs_MReader_294 rfl zq_MReader_things rfl rfl ⟨(Nat.le_of_ble_eq_true rfl), (Nat.le_of_ble_eq_true rfl)⟩ (Nat.le_of_ble_eq_true rfl) ⟨(Nat.le_of_ble_eq_true rfl), (Nat.le_of_ble_eq_true rfl)⟩ ?_
              refine zr_iload_n F zd_MReader_part_93 rfl ?_
              refine zr_iconstv (v := 5) F zd_MReader_part_94 (by decide) ?_
              refine zr_icmp_ne F 102 zd_MReader_part_95 (by decide) (fun hb51 => ?_) (fun hb51 => ?_)
              ·
                rw [if_neg hb51] at h
                refine zr_iload_n F zd_MReader_part_102 rfl ?_
                refine zr_bipushv (v := 6) F zd_MReader_part_103 (by decide) ?_
                refine zr_pcn 105 rfl ?_
                refine zr_icmp_ne F 112 zd_MReader_part_105 (by decide) (fun hb52 => ?_) (fun hb52 => ?_)
                ·
                  rw [if_neg hb52] at h
                  refine zr_aload_n F zd_MReader_part_112 rfl ?_
                  refine zr_iload_n F zd_MReader_part_113 rfl ?_
                  refine zr_iconstv (v := 1) F zd_MReader_part_114 (by decide) ?_
                  refine zr_iadd F zd_MReader_part_115 ?_
                  obtain ⟨x53, ex53, h⟩ := zoL_s h
                  rw [← ex53]
                  obtain ⟨le55, hs54, h⟩ := zoS_s h
                  refine zr_put F 14 10 zd_MReader_part_116 (zW_o hs54 (by decide)) rfl (by decide) zw_1516 rfl rfl rfl rfl (by exact (Nat.le_of_ble_eq_true rfl)) ?_
                  obtain ⟨mm56, emm56, h⟩ := zoL_s h
                  refine zr_norm (zW tA b sh mm56) _ (by rw [emm56]; exact zW_pI (v := x53) hs54 (by decide) (zf_I_14_10 b _ _ _)) rfl ?_
                  obtain rfl := Option.some.inj h
                  exact zr_vret F hr zd_MReader_part_119 (Nat.le_of_ble_eq_true rfl) (Nat.le_of_ble_eq_true rfl) ⟨rfl, rfl, rfl⟩
                ·
                  rw [if_pos hb52] at h
                  refine zr_aload_n F zd_MReader_part_108 rfl ?_
                  refine zr_pcn 109 rfl ?_
                  obtain ⟨le58, hs57, h⟩ := zoS_s h
                  obtain ⟨p59, ep59, h⟩ := zoB_s h
                  refine zr_callV0 F (k_MReader_light l D tA b sh _ ep59) zd_MReader_part_109 (zW_o hs57 (by decide)) rfl zs_MReader_299 rfl zq_MReader_light rfl rfl ⟨(Nat.le_of_ble_eq_true rfl), (Nat.le_of_ble_eq_true rfl)⟩ (Nat.le_of_ble_eq_true rfl) ⟨(Nat.le_of_ble_eq_true rfl), (Nat.le_of_ble_eq_true rfl)⟩ ?_
                  refine zr_aload_n F zd_MReader_part_112 rfl ?_
                  refine zr_iload_n F zd_MReader_part_113 rfl ?_
                  refine zr_iconstv (v := 1) F zd_MReader_part_114 (by decide) ?_
                  refine zr_iadd F zd_MReader_part_115 ?_
                  obtain ⟨x60, ex60, h⟩ := zoL_s h
                  rw [← ex60]
                  obtain ⟨le62, hs61, h⟩ := zoS_s h
                  refine zr_put F 14 10 zd_MReader_part_116 (zW_o hs61 (by decide)) rfl (by decide) zw_1516 rfl rfl rfl rfl (by exact (Nat.le_of_ble_eq_true rfl)) ?_
                  obtain ⟨mm63, emm63, h⟩ := zoL_s h
                  refine zr_norm (zW tA b sh mm63) _ (by rw [emm63]; exact zW_pI (v := x60) hs61 (by decide) (zf_I_14_10 b _ _ _)) rfl ?_
                  obtain rfl := Option.some.inj h
                  exact zr_vret F hr zd_MReader_part_119 (Nat.le_of_ble_eq_true rfl) (Nat.le_of_ble_eq_true rfl) ⟨rfl, rfl, rfl⟩
              ·
                rw [if_pos hb51] at h
                refine zr_aload_n F zd_MReader_part_98 rfl ?_
                refine zr_pcn 99 rfl ?_
                obtain ⟨le65, hs64, h⟩ := zoS_s h
                obtain ⟨p66, ep66, h⟩ := zoB_s h
                refine zr_callV0 F (k_MReader_camera l D tA b sh _ ep66) zd_MReader_part_99 (zW_o hs64 (by decide)) rfl zs_MReader_297 rfl zq_MReader_camera rfl rfl ⟨(Nat.le_of_ble_eq_true rfl), (Nat.le_of_ble_eq_true rfl)⟩ (Nat.le_of_ble_eq_true rfl) ⟨(Nat.le_of_ble_eq_true rfl), (Nat.le_of_ble_eq_true rfl)⟩ ?_
                refine zr_iload_n F zd_MReader_part_102 rfl ?_
                refine zr_bipushv (v := 6) F zd_MReader_part_103 (by decide) ?_
                refine zr_icmp_ne F 112 zd_MReader_part_105 (by decide) (fun hb67 => ?_) (fun hb67 => ?_)
                ·
                  rw [if_neg hb67] at h
                  refine zr_aload_n F zd_MReader_part_112 rfl ?_
                  refine zr_iload_n F zd_MReader_part_113 rfl ?_
                  refine zr_iconstv (v := 1) F zd_MReader_part_114 (by decide) ?_
                  refine zr_iadd F zd_MReader_part_115 ?_
                  refine zr_pcn 116 rfl ?_
                  obtain ⟨x68, ex68, h⟩ := zoL_s h
                  rw [← ex68]
                  obtain ⟨le70, hs69, h⟩ := zoS_s h
                  refine zr_put F 14 10 zd_MReader_part_116 (zW_o hs69 (by decide)) rfl (by decide) zw_1516 rfl rfl rfl rfl (by exact (Nat.le_of_ble_eq_true rfl)) ?_
                  obtain ⟨mm71, emm71, h⟩ := zoL_s h
                  refine zr_norm (zW tA b sh mm71) _ (by rw [emm71]; exact zW_pI (v := x68) hs69 (by decide) (zf_I_14_10 b _ _ _)) rfl ?_
                  obtain rfl := Option.some.inj h
                  exact zr_vret F hr zd_MReader_part_119 (Nat.le_of_ble_eq_true rfl) (Nat.le_of_ble_eq_true rfl) ⟨rfl, rfl, rfl⟩
                ·
                  rw [if_pos hb67] at h
                  refine zr_aload_n F zd_MReader_part_108 rfl ?_
                  obtain ⟨le73, hs72, h⟩ := zoS_s h
                  obtain ⟨p74, ep74, h⟩ := zoB_s h
                  refine zr_callV0 F (k_MReader_light l D tA b sh _ ep74) zd_MReader_part_109 (zW_o hs72 (by decide)) rfl zs_MReader_299 rfl zq_MReader_light rfl rfl ⟨(Nat.le_of_ble_eq_true rfl), (Nat.le_of_ble_eq_true rfl)⟩ (Nat.le_of_ble_eq_true rfl) ⟨(Nat.le_of_ble_eq_true rfl), (Nat.le_of_ble_eq_true rfl)⟩ ?_
                  refine zr_aload_n F zd_MReader_part_112 rfl ?_
                  refine zr_iload_n F zd_MReader_part_113 rfl ?_
                  refine zr_iconstv (v := 1) F zd_MReader_part_114 (by decide) ?_
                  refine zr_iadd F zd_MReader_part_115 ?_
                  refine zr_pcn 116 rfl ?_
                  obtain ⟨x75, ex75, h⟩ := zoL_s h
                  rw [← ex75]
                  obtain ⟨le77, hs76, h⟩ := zoS_s h
                  refine zr_put F 14 10 zd_MReader_part_116 (zW_o hs76 (by decide)) rfl (by decide) zw_1516 rfl rfl rfl rfl (by exact (Nat.le_of_ble_eq_true rfl)) ?_
                  obtain ⟨mm78, emm78, h⟩ := zoL_s h
                  refine zr_norm (zW tA b sh mm78) _ (by rw [emm78]; exact zW_pI (v := x75) hs76 (by decide) (zf_I_14_10 b _ _ _)) rfl ?_
                  obtain rfl := Option.some.inj h
                  exact zr_vret F hr zd_MReader_part_119 (Nat.le_of_ble_eq_true rfl) (Nat.le_of_ble_eq_true rfl) ⟨rfl, rfl, rfl⟩
            ·
              rw [if_pos hb47] at h
              refine zr_bipushv (v := 32) F zd_MReader_part_83 (by decide) ?_
              refine zr_goto F 90 zd_MReader_part_85 (by decide) ?_
              obtain ⟨le80, hs79, h⟩ := zoS_s h
              obtain ⟨p81, ep81, h⟩ := zoB_s h
              refine zr_callV0 F (k_MReader_things l D tA b sh _ ep81) zd_MReader_part_90 (zW_o hs79 (by decide)) rfl zs_MReader_294 rfl zq_MReader_things rfl rfl ⟨(Nat.le_of_ble_eq_true rfl), (Nat.le_of_ble_eq_true rfl)⟩ (Nat.le_of_ble_eq_true rfl) ⟨(Nat.le_of_ble_eq_true rfl), (Nat.le_of_ble_eq_true rfl)⟩ ?_
              refine zr_iload_n F zd_MReader_part_93 rfl ?_
              refine zr_iconstv (v := 5) F zd_MReader_part_94 (by decide) ?_
              refine zr_icmp_ne F 102 zd_MReader_part_95 (by decide) (fun hb82 => ?_) (fun hb82 => ?_)
              ·
                rw [if_neg hb82] at h
                refine zr_pcn 102 rfl ?_
                refine zr_iload_n F zd_MReader_part_102 rfl ?_
                refine zr_bipushv (v := 6) F zd_MReader_part_103 (by decide) ?_
                refine zr_icmp_ne F 112 zd_MReader_part_105 (by decide) (fun hb83 => ?_) (fun hb83 => ?_)
                ·
                  rw [if_neg hb83] at h
                  refine zr_aload_n F zd_MReader_part_112 rfl ?_
                  refine zr_iload_n F zd_MReader_part_113 rfl ?_
                  refine zr_iconstv (v := 1) F zd_MReader_part_114 (by decide) ?_
                  refine zr_iadd F zd_MReader_part_115 ?_
                  obtain ⟨x84, ex84, h⟩ := zoL_s h
                  rw [← ex84]
                  obtain ⟨le86, hs85, h⟩ := zoS_s h
                  refine zr_put F 14 10 zd_MReader_part_116 (zW_o hs85 (by decide)) rfl (by decide) zw_1516 rfl rfl rfl rfl (by exact (Nat.le_of_ble_eq_true rfl)) ?_
                  obtain ⟨mm87, emm87, h⟩ := zoL_s h
                  refine zr_norm (zW tA b sh mm87) _ (by rw [emm87]; exact zW_pI (v := x84) hs85 (by decide) (zf_I_14_10 b _ _ _)) rfl ?_
                  refine zr_pcn 119 rfl ?_
                  obtain rfl := Option.some.inj h
                  exact zr_vret F hr zd_MReader_part_119 (Nat.le_of_ble_eq_true rfl) (Nat.le_of_ble_eq_true rfl) ⟨rfl, rfl, rfl⟩
                ·
                  rw [if_pos hb83] at h
                  refine zr_aload_n F zd_MReader_part_108 rfl ?_
                  obtain ⟨le89, hs88, h⟩ := zoS_s h
                  obtain ⟨p90, ep90, h⟩ := zoB_s h
                  refine zr_callV0 F (k_MReader_light l D tA b sh _ ep90) zd_MReader_part_109 (zW_o hs88 (by decide)) rfl zs_MReader_299 rfl zq_MReader_light rfl rfl ⟨(Nat.le_of_ble_eq_true rfl), (Nat.le_of_ble_eq_true rfl)⟩ (Nat.le_of_ble_eq_true rfl) ⟨(Nat.le_of_ble_eq_true rfl), (Nat.le_of_ble_eq_true rfl)⟩ ?_
                  refine zr_aload_n F zd_MReader_part_112 rfl ?_
                  refine zr_iload_n F zd_MReader_part_113 rfl ?_
                  refine zr_iconstv (v := 1) F zd_MReader_part_114 (by decide) ?_
                  refine zr_iadd F zd_MReader_part_115 ?_
                  obtain ⟨x91, ex91, h⟩ := zoL_s h
                  rw [← ex91]
                  obtain ⟨le93, hs92, h⟩ := zoS_s h
                  refine zr_put F 14 10 zd_MReader_part_116 (zW_o hs92 (by decide)) rfl (by decide) zw_1516 rfl rfl rfl rfl (by exact (Nat.le_of_ble_eq_true rfl)) ?_
                  obtain ⟨mm94, emm94, h⟩ := zoL_s h
                  refine zr_norm (zW tA b sh mm94) _ (by rw [emm94]; exact zW_pI (v := x91) hs92 (by decide) (zf_I_14_10 b _ _ _)) rfl ?_
                  refine zr_pcn 119 rfl ?_
                  obtain rfl := Option.some.inj h
                  exact zr_vret F hr zd_MReader_part_119 (Nat.le_of_ble_eq_true rfl) (Nat.le_of_ble_eq_true rfl) ⟨rfl, rfl, rfl⟩
              ·
                rw [if_pos hb82] at h
                refine zr_aload_n F zd_MReader_part_98 rfl ?_
                obtain ⟨le96, hs95, h⟩ := zoS_s h
                obtain ⟨p97, ep97, h⟩ := zoB_s h
                refine zr_callV0 F (k_MReader_camera l D tA b sh _ ep97) zd_MReader_part_99 (zW_o hs95 (by decide)) rfl zs_MReader_297 rfl zq_MReader_camera rfl rfl ⟨(Nat.le_of_ble_eq_true rfl), (Nat.le_of_ble_eq_true rfl)⟩ (Nat.le_of_ble_eq_true rfl) ⟨(Nat.le_of_ble_eq_true rfl), (Nat.le_of_ble_eq_true rfl)⟩ ?_
                refine zr_iload_n F zd_MReader_part_102 rfl ?_
                refine zr_bipushv (v := 6) F zd_MReader_part_103 (by decide) ?_
                refine zr_icmp_ne F 112 zd_MReader_part_105 (by decide) (fun hb98 => ?_) (fun hb98 => ?_)
                ·
                  rw [if_neg hb98] at h
                  refine zr_aload_n F zd_MReader_part_112 rfl ?_
                  refine zr_iload_n F zd_MReader_part_113 rfl ?_
                  refine zr_pcn 114 rfl ?_
                  refine zr_iconstv (v := 1) F zd_MReader_part_114 (by decide) ?_
                  refine zr_iadd F zd_MReader_part_115 ?_
                  obtain ⟨x99, ex99, h⟩ := zoL_s h
                  rw [← ex99]
                  obtain ⟨le101, hs100, h⟩ := zoS_s h
                  refine zr_put F 14 10 zd_MReader_part_116 (zW_o hs100 (by decide)) rfl (by decide) zw_1516 rfl rfl rfl rfl (by exact (Nat.le_of_ble_eq_true rfl)) ?_
                  obtain ⟨mm102, emm102, h⟩ := zoL_s h
                  refine zr_norm (zW tA b sh mm102) _ (by rw [emm102]; exact zW_pI (v := x99) hs100 (by decide) (zf_I_14_10 b _ _ _)) rfl ?_
                  obtain rfl := Option.some.inj h
                  exact zr_vret F hr zd_MReader_part_119 (Nat.le_of_ble_eq_true rfl) (Nat.le_of_ble_eq_true rfl) ⟨rfl, rfl, rfl⟩
                ·
                  rw [if_pos hb98] at h
                  refine zr_aload_n F zd_MReader_part_108 rfl ?_
                  obtain ⟨le104, hs103, h⟩ := zoS_s h
                  obtain ⟨p105, ep105, h⟩ := zoB_s h
                  refine zr_callV0 F (k_MReader_light l D tA b sh _ ep105) zd_MReader_part_109 (zW_o hs103 (by decide)) rfl zs_MReader_299 rfl zq_MReader_light rfl rfl ⟨(Nat.le_of_ble_eq_true rfl), (Nat.le_of_ble_eq_true rfl)⟩ (Nat.le_of_ble_eq_true rfl) ⟨(Nat.le_of_ble_eq_true rfl), (Nat.le_of_ble_eq_true rfl)⟩ ?_
                  refine zr_aload_n F zd_MReader_part_112 rfl ?_
                  refine zr_iload_n F zd_MReader_part_113 rfl ?_
                  refine zr_pcn 114 rfl ?_
                  refine zr_iconstv (v := 1) F zd_MReader_part_114 (by decide) ?_
                  refine zr_iadd F zd_MReader_part_115 ?_
                  obtain ⟨x106, ex106, h⟩ := zoL_s h
                  rw [← ex106]
                  obtain ⟨le108, hs107, h⟩ := zoS_s h
                  refine zr_put F 14 10 zd_MReader_part_116 (zW_o hs107 (by decide)) rfl (by decide) zw_1516 rfl rfl rfl rfl (by exact (Nat.le_of_ble_eq_true rfl)) ?_
                  obtain ⟨mm109, emm109, h⟩ := zoL_s h
                  refine zr_norm (zW tA b sh mm109) _ (by rw [emm109]; exact zW_pI (v := x106) hs107 (by decide) (zf_I_14_10 b _ _ _)) rfl ?_
                  obtain rfl := Option.some.inj h
                  exact zr_vret F hr zd_MReader_part_119 (Nat.le_of_ble_eq_true rfl) (Nat.le_of_ble_eq_true rfl) ⟨rfl, rfl, rfl⟩
          ·
            rw [if_pos hb46] at h
            refine zr_bipushv (v := 48) F zd_MReader_part_73 (by decide) ?_
            refine zr_goto F 90 zd_MReader_part_75 (by decide) ?_
            obtain ⟨le111, hs110, h⟩ := zoS_s h
            obtain ⟨p112, ep112, h⟩ := zoB_s h
            refine zr_callV0 F (k_MReader_things l D tA b sh _ ep112) zd_MReader_part_90 (zW_o hs110 (by decide)) rfl zs_MReader_294 rfl zq_MReader_things rfl rfl ⟨(Nat.le_of_ble_eq_true rfl), (Nat.le_of_ble_eq_true rfl)⟩ (Nat.le_of_ble_eq_true rfl) ⟨(Nat.le_of_ble_eq_true rfl), (Nat.le_of_ble_eq_true rfl)⟩ ?_
            refine zr_iload_n F zd_MReader_part_93 rfl ?_
            refine zr_pcn 94 rfl ?_
            refine zr_iconstv (v := 5) F zd_MReader_part_94 (by decide) ?_
            refine zr_icmp_ne F 102 zd_MReader_part_95 (by decide) (fun hb113 => ?_) (fun hb113 => ?_)
            ·
              rw [if_neg hb113] at h
              refine zr_iload_n F zd_MReader_part_102 rfl ?_
              refine zr_bipushv (v := 6) F zd_MReader_part_103 (by decide) ?_
              refine zr_icmp_ne F 112 zd_MReader_part_105 (by decide) (fun hb114 => ?_) (fun hb114 => ?_)
              ·
                rw [if_neg hb114] at h
                refine zr_aload_n F zd_MReader_part_112 rfl ?_
                refine zr_iload_n F zd_MReader_part_113 rfl ?_
                refine zr_iconstv (v := 1) F zd_MReader_part_114 (by decide) ?_
                refine zr_pcn 115 rfl ?_
                refine zr_iadd F zd_MReader_part_115 ?_
                obtain ⟨x115, ex115, h⟩ := zoL_s h
                rw [← ex115]
                obtain ⟨le117, hs116, h⟩ := zoS_s h
                refine zr_put F 14 10 zd_MReader_part_116 (zW_o hs116 (by decide)) rfl (by decide) zw_1516 rfl rfl rfl rfl (by exact (Nat.le_of_ble_eq_true rfl)) ?_
                obtain ⟨mm118, emm118, h⟩ := zoL_s h
                refine zr_norm (zW tA b sh mm118) _ (by rw [emm118]; exact zW_pI (v := x115) hs116 (by decide) (zf_I_14_10 b _ _ _)) rfl ?_
                obtain rfl := Option.some.inj h
                exact zr_vret F hr zd_MReader_part_119 (Nat.le_of_ble_eq_true rfl) (Nat.le_of_ble_eq_true rfl) ⟨rfl, rfl, rfl⟩
              ·
                rw [if_pos hb114] at h
                refine zr_aload_n F zd_MReader_part_108 rfl ?_
                obtain ⟨le120, hs119, h⟩ := zoS_s h
                obtain ⟨p121, ep121, h⟩ := zoB_s h
                refine zr_callV0 F (k_MReader_light l D tA b sh _ ep121) zd_MReader_part_109 (zW_o hs119 (by decide)) rfl zs_MReader_299 rfl zq_MReader_light rfl rfl ⟨(Nat.le_of_ble_eq_true rfl), (Nat.le_of_ble_eq_true rfl)⟩ (Nat.le_of_ble_eq_true rfl) ⟨(Nat.le_of_ble_eq_true rfl), (Nat.le_of_ble_eq_true rfl)⟩ ?_
                refine zr_aload_n F zd_MReader_part_112 rfl ?_
                refine zr_iload_n F zd_MReader_part_113 rfl ?_
                refine zr_iconstv (v := 1) F zd_MReader_part_114 (by decide) ?_
                refine zr_pcn 115 rfl ?_
                refine zr_iadd F zd_MReader_part_115 ?_
                obtain ⟨x122, ex122, h⟩ := zoL_s h
                rw [← ex122]
                obtain ⟨le124, hs123, h⟩ := zoS_s h
                refine zr_put F 14 10 zd_MReader_part_116 (zW_o hs123 (by decide)) rfl (by decide) zw_1516 rfl rfl rfl rfl (by exact (Nat.le_of_ble_eq_true rfl)) ?_
                obtain ⟨mm125, emm125, h⟩ := zoL_s h
                refine zr_norm (zW tA b sh mm125) _ (by rw [emm125]; exact zW_pI (v := x122) hs123 (by decide) (zf_I_14_10 b _ _ _)) rfl ?_
                obtain rfl := Option.some.inj h
                exact zr_vret F hr zd_MReader_part_119 (Nat.le_of_ble_eq_true rfl) (Nat.le_of_ble_eq_true rfl) ⟨rfl, rfl, rfl⟩
            ·
              rw [if_pos hb113] at h
              refine zr_aload_n F zd_MReader_part_98 rfl ?_
              obtain ⟨le127, hs126, h⟩ := zoS_s h
              obtain ⟨p128, ep128, h⟩ := zoB_s h
              refine zr_callV0 F (k_MReader_camera l D tA b sh _ ep128) zd_MReader_part_99 (zW_o hs126 (by decide)) rfl zs_MReader_297 rfl zq_MReader_camera rfl rfl ⟨(Nat.le_of_ble_eq_true rfl), (Nat.le_of_ble_eq_true rfl)⟩ (Nat.le_of_ble_eq_true rfl) ⟨(Nat.le_of_ble_eq_true rfl), (Nat.le_of_ble_eq_true rfl)⟩ ?_
              refine zr_iload_n F zd_MReader_part_102 rfl ?_
              refine zr_bipushv (v := 6) F zd_MReader_part_103 (by decide) ?_
              refine zr_icmp_ne F 112 zd_MReader_part_105 (by decide) (fun hb129 => ?_) (fun hb129 => ?_)
              ·
                rw [if_neg hb129] at h
                refine zr_pcn 112 rfl ?_
                refine zr_aload_n F zd_MReader_part_112 rfl ?_
                refine zr_iload_n F zd_MReader_part_113 rfl ?_
                refine zr_iconstv (v := 1) F zd_MReader_part_114 (by decide) ?_
                refine zr_iadd F zd_MReader_part_115 ?_
                obtain ⟨x130, ex130, h⟩ := zoL_s h
                rw [← ex130]
                obtain ⟨le132, hs131, h⟩ := zoS_s h
                refine zr_put F 14 10 zd_MReader_part_116 (zW_o hs131 (by decide)) rfl (by decide) zw_1516 rfl rfl rfl rfl (by exact (Nat.le_of_ble_eq_true rfl)) ?_
                obtain ⟨mm133, emm133, h⟩ := zoL_s h
                refine zr_norm (zW tA b sh mm133) _ (by rw [emm133]; exact zW_pI (v := x130) hs131 (by decide) (zf_I_14_10 b _ _ _)) rfl ?_
                obtain rfl := Option.some.inj h
                exact zr_vret F hr zd_MReader_part_119 (Nat.le_of_ble_eq_true rfl) (Nat.le_of_ble_eq_true rfl) ⟨rfl, rfl, rfl⟩
              ·
                rw [if_pos hb129] at h
                refine zr_aload_n F zd_MReader_part_108 rfl ?_
                obtain ⟨le135, hs134, h⟩ := zoS_s h
                obtain ⟨p136, ep136, h⟩ := zoB_s h
                refine zr_callV0 F (k_MReader_light l D tA b sh _ ep136) zd_MReader_part_109 (zW_o hs134 (by decide)) rfl zs_MReader_299 rfl zq_MReader_light rfl rfl ⟨(Nat.le_of_ble_eq_true rfl), (Nat.le_of_ble_eq_true rfl)⟩ (Nat.le_of_ble_eq_true rfl) ⟨(Nat.le_of_ble_eq_true rfl), (Nat.le_of_ble_eq_true rfl)⟩ ?_
                refine zr_pcn 112 rfl ?_
                refine zr_aload_n F zd_MReader_part_112 rfl ?_
                refine zr_iload_n F zd_MReader_part_113 rfl ?_
                refine zr_iconstv (v := 1) F zd_MReader_part_114 (by decide) ?_
                refine zr_iadd F zd_MReader_part_115 ?_
                obtain ⟨x137, ex137, h⟩ := zoL_s h
                rw [← ex137]
                obtain ⟨le139, hs138, h⟩ := zoS_s h
                refine zr_put F 14 10 zd_MReader_part_116 (zW_o hs138 (by decide)) rfl (by decide) zw_1516 rfl rfl rfl rfl (by exact (Nat.le_of_ble_eq_true rfl)) ?_
                obtain ⟨mm140, emm140, h⟩ := zoL_s h
                refine zr_norm (zW tA b sh mm140) _ (by rw [emm140]; exact zW_pI (v := x137) hs138 (by decide) (zf_I_14_10 b _ _ _)) rfl ?_
                obtain rfl := Option.some.inj h
                exact zr_vret F hr zd_MReader_part_119 (Nat.le_of_ble_eq_true rfl) (Nat.le_of_ble_eq_true rfl) ⟨rfl, rfl, rfl⟩
        ·
          rw [if_pos hb45] at h
          refine zr_bipushv (v := 8) F zd_MReader_part_63 (by decide) ?_
          refine zr_goto F 90 zd_MReader_part_65 (by decide) ?_
          refine zr_pcn 90 rfl ?_
          obtain ⟨le142, hs141, h⟩ := zoS_s h
          obtain ⟨p143, ep143, h⟩ := zoB_s h
          refine zr_callV0 F (k_MReader_things l D tA b sh _ ep143) zd_MReader_part_90 (zW_o hs141 (by decide)) rfl zs_MReader_294 rfl zq_MReader_things rfl rfl ⟨(Nat.le_of_ble_eq_true rfl), (Nat.le_of_ble_eq_true rfl)⟩ (Nat.le_of_ble_eq_true rfl) ⟨(Nat.le_of_ble_eq_true rfl), (Nat.le_of_ble_eq_true rfl)⟩ ?_
          refine zr_iload_n F zd_MReader_part_93 rfl ?_
          refine zr_iconstv (v := 5) F zd_MReader_part_94 (by decide) ?_
          refine zr_icmp_ne F 102 zd_MReader_part_95 (by decide) (fun hb144 => ?_) (fun hb144 => ?_)
          ·
            rw [if_neg hb144] at h
            refine zr_iload_n F zd_MReader_part_102 rfl ?_
            refine zr_bipushv (v := 6) F zd_MReader_part_103 (by decide) ?_
            refine zr_icmp_ne F 112 zd_MReader_part_105 (by decide) (fun hb145 => ?_) (fun hb145 => ?_)
            ·
              rw [if_neg hb145] at h
              refine zr_aload_n F zd_MReader_part_112 rfl ?_
              refine zr_pcn 113 rfl ?_
              refine zr_iload_n F zd_MReader_part_113 rfl ?_
              refine zr_iconstv (v := 1) F zd_MReader_part_114 (by decide) ?_
              refine zr_iadd F zd_MReader_part_115 ?_
              obtain ⟨x146, ex146, h⟩ := zoL_s h
              rw [← ex146]
              obtain ⟨le148, hs147, h⟩ := zoS_s h
              refine zr_put F 14 10 zd_MReader_part_116 (zW_o hs147 (by decide)) rfl (by decide) zw_1516 rfl rfl rfl rfl (by exact (Nat.le_of_ble_eq_true rfl)) ?_
              obtain ⟨mm149, emm149, h⟩ := zoL_s h
              refine zr_norm (zW tA b sh mm149) _ (by rw [emm149]; exact zW_pI (v := x146) hs147 (by decide) (zf_I_14_10 b _ _ _)) rfl ?_
              obtain rfl := Option.some.inj h
              exact zr_vret F hr zd_MReader_part_119 (Nat.le_of_ble_eq_true rfl) (Nat.le_of_ble_eq_true rfl) ⟨rfl, rfl, rfl⟩
            ·
              rw [if_pos hb145] at h
              refine zr_aload_n F zd_MReader_part_108 rfl ?_
              obtain ⟨le151, hs150, h⟩ := zoS_s h
              obtain ⟨p152, ep152, h⟩ := zoB_s h
              refine zr_callV0 F (k_MReader_light l D tA b sh _ ep152) zd_MReader_part_109 (zW_o hs150 (by decide)) rfl zs_MReader_299 rfl zq_MReader_light rfl rfl ⟨(Nat.le_of_ble_eq_true rfl), (Nat.le_of_ble_eq_true rfl)⟩ (Nat.le_of_ble_eq_true rfl) ⟨(Nat.le_of_ble_eq_true rfl), (Nat.le_of_ble_eq_true rfl)⟩ ?_
              refine zr_aload_n F zd_MReader_part_112 rfl ?_
              refine zr_pcn 113 rfl ?_
              refine zr_iload_n F zd_MReader_part_113 rfl ?_
              refine zr_iconstv (v := 1) F zd_MReader_part_114 (by decide) ?_
              refine zr_iadd F zd_MReader_part_115 ?_
              obtain ⟨x153, ex153, h⟩ := zoL_s h
              rw [← ex153]
              obtain ⟨le155, hs154, h⟩ := zoS_s h
              refine zr_put F 14 10 zd_MReader_part_116 (zW_o hs154 (by decide)) rfl (by decide) zw_1516 rfl rfl rfl rfl (by exact (Nat.le_of_ble_eq_true rfl)) ?_
              obtain ⟨mm156, emm156, h⟩ := zoL_s h
              refine zr_norm (zW tA b sh mm156) _ (by rw [emm156]; exact zW_pI (v := x153) hs154 (by decide) (zf_I_14_10 b _ _ _)) rfl ?_
              obtain rfl := Option.some.inj h
              exact zr_vret F hr zd_MReader_part_119 (Nat.le_of_ble_eq_true rfl) (Nat.le_of_ble_eq_true rfl) ⟨rfl, rfl, rfl⟩
          ·
            rw [if_pos hb144] at h
            refine zr_aload_n F zd_MReader_part_98 rfl ?_
            obtain ⟨le158, hs157, h⟩ := zoS_s h
            obtain ⟨p159, ep159, h⟩ := zoB_s h
            refine zr_callV0 F (k_MReader_camera l D tA b sh _ ep159) zd_MReader_part_99 (zW_o hs157 (by decide)) rfl zs_MReader_297 rfl zq_MReader_camera rfl rfl ⟨(Nat.le_of_ble_eq_true rfl), (Nat.le_of_ble_eq_true rfl)⟩ (Nat.le_of_ble_eq_true rfl) ⟨(Nat.le_of_ble_eq_true rfl), (Nat.le_of_ble_eq_true rfl)⟩ ?_
            refine zr_iload_n F zd_MReader_part_102 rfl ?_
            refine zr_pcn 103 rfl ?_
            refine zr_bipushv (v := 6) F zd_MReader_part_103 (by decide) ?_
            refine zr_icmp_ne F 112 zd_MReader_part_105 (by decide) (fun hb160 => ?_) (fun hb160 => ?_)
            ·
              rw [if_neg hb160] at h
              refine zr_aload_n F zd_MReader_part_112 rfl ?_
              refine zr_iload_n F zd_MReader_part_113 rfl ?_
              refine zr_iconstv (v := 1) F zd_MReader_part_114 (by decide) ?_
              refine zr_iadd F zd_MReader_part_115 ?_
              obtain ⟨x161, ex161, h⟩ := zoL_s h
              rw [← ex161]
              obtain ⟨le163, hs162, h⟩ := zoS_s h
              refine zr_put F 14 10 zd_MReader_part_116 (zW_o hs162 (by decide)) rfl (by decide) zw_1516 rfl rfl rfl rfl (by exact (Nat.le_of_ble_eq_true rfl)) ?_
              obtain ⟨mm164, emm164, h⟩ := zoL_s h
              refine zr_norm (zW tA b sh mm164) _ (by rw [emm164]; exact zW_pI (v := x161) hs162 (by decide) (zf_I_14_10 b _ _ _)) rfl ?_
              obtain rfl := Option.some.inj h
              exact zr_vret F hr zd_MReader_part_119 (Nat.le_of_ble_eq_true rfl) (Nat.le_of_ble_eq_true rfl) ⟨rfl, rfl, rfl⟩
            ·
              rw [if_pos hb160] at h
              refine zr_pcn 108 rfl ?_
              refine zr_aload_n F zd_MReader_part_108 rfl ?_
              obtain ⟨le166, hs165, h⟩ := zoS_s h
              obtain ⟨p167, ep167, h⟩ := zoB_s h
              refine zr_callV0 F (k_MReader_light l D tA b sh _ ep167) zd_MReader_part_109 (zW_o hs165 (by decide)) rfl zs_MReader_299 rfl zq_MReader_light rfl rfl ⟨(Nat.le_of_ble_eq_true rfl), (Nat.le_of_ble_eq_true rfl)⟩ (Nat.le_of_ble_eq_true rfl) ⟨(Nat.le_of_ble_eq_true rfl), (Nat.le_of_ble_eq_true rfl)⟩ ?_
              refine zr_aload_n F zd_MReader_part_112 rfl ?_
              refine zr_iload_n F zd_MReader_part_113 rfl ?_
              refine zr_iconstv (v := 1) F zd_MReader_part_114 (by decide) ?_
              refine zr_iadd F zd_MReader_part_115 ?_
              obtain ⟨x168, ex168, h⟩ := zoL_s h
              rw [← ex168]
              obtain ⟨le170, hs169, h⟩ := zoS_s h
              refine zr_put F 14 10 zd_MReader_part_116 (zW_o hs169 (by decide)) rfl (by decide) zw_1516 rfl rfl rfl rfl (by exact (Nat.le_of_ble_eq_true rfl)) ?_
              obtain ⟨mm171, emm171, h⟩ := zoL_s h
              refine zr_norm (zW tA b sh mm171) _ (by rw [emm171]; exact zW_pI (v := x168) hs169 (by decide) (zf_I_14_10 b _ _ _)) rfl ?_
              obtain rfl := Option.some.inj h
              exact zr_vret F hr zd_MReader_part_119 (Nat.le_of_ble_eq_true rfl) (Nat.le_of_ble_eq_true rfl) ⟨rfl, rfl, rfl⟩
    ·
      rw [if_pos hb11] at h
      refine zr_pcn 34 rfl ?_
      refine zr_aload_n F zd_MReader_part_34 rfl ?_
      refine zr_iconstv (v := 1) F zd_MReader_part_35 (by decide) ?_
      refine zr_aload_n F zd_MReader_part_36 rfl ?_
      obtain ⟨le173, hs172, h⟩ := zoS_s h
      refine zr_get F 14 3 zd_MReader_part_37 (zW_o hs172 (by decide)) rfl (by decide) zw_1507 rfl (by rfl) ?_
      obtain ⟨le175, hs174, h⟩ := zoS_s h
      obtain ⟨p176, ep176, h⟩ := zoB_s h
      refine zr_callV0 F (k_MReader_fail l D tA b sh _ ep176) zd_MReader_part_40 (zW_o hs174 (by decide)) rfl zs_MReader_38 rfl zq_MReader_fail rfl rfl ⟨(Nat.le_of_ble_eq_true rfl), (Nat.le_of_ble_eq_true rfl)⟩ (Nat.le_of_ble_eq_true rfl) ⟨(Nat.le_of_ble_eq_true rfl), (Nat.le_of_ble_eq_true rfl)⟩ ?_
      obtain rfl := Option.some.inj h
      exact zr_vret F hr zd_MReader_part_43 (Nat.le_of_ble_eq_true rfl) (Nat.le_of_ble_eq_true rfl) ⟨rfl, rfl, rfl⟩
theorem zf_I_14_2 (b : Nat) (m : zMem) (k : Nat) (v : Int32) : (zfl b 14 m k).set 2 (.int v) = zfl b 14 (mI m k 2 v) k := by simp [zfl, mI, upd, vp_updL]
theorem zw_1781 : (Jvm.Cond.methodLink "OrreryBoxModel$Reader" (301 : Nat) ({ cls := "OrreryBoxModel$Reader", name := "part", desc := "()V" } : Jvm.MethodName)) ∈ gw := gw_t 1781 (by decide +kernel) rfl
theorem zw_1783 : (Jvm.Cond.instanceMethod ({ cls := "OrreryBoxModel$Reader", name := "part", desc := "()V" } : Jvm.MethodName)) ∈ gw := gw_t 1783 (by decide +kernel) rfl
theorem zv_72 : (Jvm.Cond.selects "OrreryBoxModel$Reader" (⟨"OrreryBoxModel$Reader", "part", "()V"⟩ : MethodName) ⟨"OrreryBoxModel$Reader", "part", "()V"⟩) ∈ gw := gw_s 72 (by decide +kernel) rfl
theorem zs_MReader_301 : zwV "OrreryBoxModel$Reader" 301 "OrreryBoxModel$Reader" zy_MReader_part zb_MReader_part 2 none := ⟨zw_1781, zw_1783, zv_72, zw_15, zc_MReader_part⟩
def L_MReader_read_53 (sh : zSh) (fuel : Nat) (v0 : Nat) (v2 : Int32) (mm : zMem) : Option (Nat × Int32 × zMem) := match fuel with
  | 0 => none
  | fu + 1 => (if v2 = 0 then some (v0, v2, mm) else zoS (sh v0) 14 (fun le24 => (if (mm.1 v0 4) = 0 then zoS (sh v0) 14 (fun le27 => Option.bind (F_MReader_part sh mm v0) (fun p28 => zoS (sh v0) 14 (fun le30 => (if (p28.1 v0 4) = 0 then zoS (sh v0) 14 (fun le33 => (if 7 ≤ (p28.1 v0 10) then L_MReader_read_53 sh fu v0 0 p28 else zoS (sh v0) 14 (fun le36 => Option.bind (F_MReader_next sh p28 v0) (fun p37 => (if p37.1 = 44 then zoS (sh v0) 14 (fun le40 => zoL (((p37.2).1 v0 3) + 1) (fun x41 => zoS (sh v0) 14 (fun le43 => zoL (mI (p37.2) v0 3 x41) (fun mm44 => L_MReader_read_53 sh fu v0 1 mm44)))) else L_MReader_read_53 sh fu v0 0 (p37.2)))))) else L_MReader_read_53 sh fu v0 0 p28)))) else some (v0, v2, mm))))
set_option maxHeartbeats 4000000 in
set_option maxRecDepth 100000 in
theorem lp_MReader_read_53 {p : Program} {l : Launch} {e : Env} {s : State} {m : MethodId} {args : Array Value} {below : List Frame} {meth : Method} {c : Code} {D : va_G} {tA : Nat → ClassId} {b n : Nat} {post : Option Value → zV → Nat → Prop} {sh : zSh} (F : zF p s m args meth c zb_MReader_read 3 "OrreryBoxModel$Reader" D tA b) : ∀ (fuel : Nat) (v0 : Nat) (v2 : Int32) (mm : zMem) (r : Nat × Int32 × zMem), L_MReader_read_53 sh fuel v0 v2 mm = some r → (Z p l e { frames := 12, cells := 0, slots := 0, locals := 270 } s m args below meth c D b 3 (MQ below (zQ D b post) args s 0 0 (fun q => b ≤ q)) (zW tA b sh r.2.2) n 0 0 116 [(0, .ref (b + (r.1))), (2, .int (r.2.1))] []) → Z p l e { frames := 12, cells := 0, slots := 0, locals := 270 } s m args below meth c D b 3 (MQ below (zQ D b post) args s 0 0 (fun q => b ≤ q)) (zW tA b sh mm) n 0 0 53 [(0, .ref (b + v0)), (2, .int v2)] [] := by
  intro fuel
  induction fuel with
  | zero =>
    intro v0 v2 mm r h
    cases h
  | succ fu ih =>
    intro v0 v2 mm r h hx0
    rw [L_MReader_read_53] at h
    refine zr_pcn 53 rfl ?_
    refine zr_iload_n F zd_MReader_read_53 rfl ?_
    refine zr_if_eq F 116 zd_MReader_read_54 (by decide) (fun hb22 => ?_) (fun hb22 => ?_)
    ·
      rw [if_pos hb22] at h
      obtain rfl := Option.some.inj h
      refine zr_loc (L' := [(0, .ref (b + v0)), (2, .int v2)]) ⟨rfl, rfl, trivial⟩ ?_
      exact hx0 
    ·
      rw [if_neg hb22] at h
      refine zr_aload_n F zd_MReader_read_57 rfl ?_
      obtain ⟨le24, hs23, h⟩ := zoS_s h
      refine zr_get F 14 4 zd_MReader_read_58 (zW_o hs23 (by decide)) rfl (by decide) zw_1508 rfl (by rfl) ?_
      refine zr_if_ne F 116 zd_MReader_read_61 (by decide) (fun hb25 => ?_) (fun hb25 => ?_)
      ·
        rw [if_neg hb25] at h
        obtain rfl := Option.some.inj h
        refine zr_loc (L' := [(0, .ref (b + v0)), (2, .int v2)]) ⟨rfl, rfl, trivial⟩ ?_
        exact hx0 
      ·
        rw [if_pos hb25] at h
        refine zr_aload_n F zd_MReader_read_64 rfl ?_
        obtain ⟨le27, hs26, h⟩ := zoS_s h
        obtain ⟨p28, ep28, h⟩ := zoB_s h
        refine zr_callV0 F (k_MReader_part l D tA b sh _ ep28) zd_MReader_read_65 (zW_o hs26 (by decide)) rfl zs_MReader_301 rfl zq_MReader_part rfl rfl ⟨(Nat.le_of_ble_eq_true rfl), (Nat.le_of_ble_eq_true rfl)⟩ (Nat.le_of_ble_eq_true rfl) ⟨(Nat.le_of_ble_eq_true rfl), (Nat.le_of_ble_eq_true rfl)⟩ ?_
        refine zr_aload_n F zd_MReader_read_68 rfl ?_
        refine zr_pcn 69 rfl ?_
        obtain ⟨le30, hs29, h⟩ := zoS_s h
        refine zr_get F 14 4 zd_MReader_read_69 (zW_o hs29 (by decide)) rfl (by decide) zw_1508 rfl (by rfl) ?_
        refine zr_if_ne F 97 zd_MReader_read_72 (by decide) (fun hb31 => ?_) (fun hb31 => ?_)
        ·
          rw [if_neg hb31] at h
          refine zr_iconstv (v := 0) F zd_MReader_read_97 (by decide) ?_
          refine zr_istore_n F zd_MReader_read_98 (by decide) ?_
          refine zr_iload_n F zd_MReader_read_99 rfl ?_
          refine zr_if_eq F 53 zd_MReader_read_100 (by decide) (fun _ => ?_) (fun hq => absurd hq (by decide))
          refine zr_loc (L' := [(0, .ref (b + v0)), (2, .int 0)]) ⟨rfl, rfl, trivial⟩ ?_
          exact ih _ _ _ _ h hx0
        ·
          rw [if_pos hb31] at h
          refine zr_aload_n F zd_MReader_read_75 rfl ?_
          obtain ⟨le33, hs32, h⟩ := zoS_s h
          refine zr_get F 14 10 zd_MReader_read_76 (zW_o hs32 (by decide)) rfl (by decide) zw_1516 rfl (by rfl) ?_
          refine zr_pcn 79 rfl ?_
          refine zr_bipushv (v := 7) F zd_MReader_read_79 (by decide) ?_
          refine zr_icmp_ge F 97 zd_MReader_read_81 (by decide) (fun hb34 => ?_) (fun hb34 => ?_)
          ·
            rw [if_pos hb34] at h
            refine zr_iconstv (v := 0) F zd_MReader_read_97 (by decide) ?_
            refine zr_istore_n F zd_MReader_read_98 (by decide) ?_
            refine zr_iload_n F zd_MReader_read_99 rfl ?_
            refine zr_if_eq F 53 zd_MReader_read_100 (by decide) (fun _ => ?_) (fun hq => absurd hq (by decide))
            refine zr_loc (L' := [(0, .ref (b + v0)), (2, .int 0)]) ⟨rfl, rfl, trivial⟩ ?_
            exact ih _ _ _ _ h hx0
          ·
            rw [if_neg hb34] at h
            refine zr_aload_n F zd_MReader_read_84 rfl ?_
            obtain ⟨le36, hs35, h⟩ := zoS_s h
            obtain ⟨p37, ep37, h⟩ := zoB_s h
            refine zr_callV1 F (k_MReader_next l D tA b sh _ ep37) zd_MReader_read_85 (zW_o hs35 (by decide)) rfl zs_MReader_34 rfl zq_MReader_next rfl rfl ⟨(Nat.le_of_ble_eq_true rfl), (Nat.le_of_ble_eq_true rfl)⟩ (Nat.le_of_ble_eq_true rfl) ⟨(Nat.le_of_ble_eq_true rfl), (Nat.le_of_ble_eq_true rfl)⟩ ?_
            refine zr_pcn 88 rfl ?_
            refine zr_bipushv (v := 44) F zd_MReader_read_88 (by decide) ?_
            refine zr_icmp_ne F 97 zd_MReader_read_90 (by decide) (fun hb38 => ?_) (fun hb38 => ?_)
            ·
              rw [if_neg hb38] at h
              refine zr_iconstv (v := 0) F zd_MReader_read_97 (by decide) ?_
              refine zr_istore_n F zd_MReader_read_98 (by decide) ?_
              refine zr_iload_n F zd_MReader_read_99 rfl ?_
              refine zr_if_eq F 53 zd_MReader_read_100 (by decide) (fun _ => ?_) (fun hq => absurd hq (by decide))
              refine zr_loc (L' := [(0, .ref (b + v0)), (2, .int 0)]) ⟨rfl, rfl, trivial⟩ ?_
              exact ih _ _ _ _ h hx0
            ·
              rw [if_pos hb38] at h
              refine zr_iconstv (v := 1) F zd_MReader_read_93 (by decide) ?_
              refine zr_goto F 98 zd_MReader_read_94 (by decide) ?_
              refine zr_pcn 98 rfl ?_
              refine zr_istore_n F zd_MReader_read_98 (by decide) ?_
              refine zr_iload_n F zd_MReader_read_99 rfl ?_
              refine zr_if_eq F 53 zd_MReader_read_100 (by decide) (fun hq => absurd hq (by decide)) (fun _ => ?_)
              refine zr_aload_n F zd_MReader_read_103 rfl ?_
              refine zr_dup F zd_MReader_read_104 rfl ?_
              obtain ⟨le40, hs39, h⟩ := zoS_s h
              refine zr_get F 14 3 zd_MReader_read_105 (zW_o hs39 (by decide)) rfl (by decide) zw_1507 rfl (by rfl) ?_
              refine zr_iconstv (v := 1) F zd_MReader_read_108 (by decide) ?_
              refine zr_iadd F zd_MReader_read_109 ?_
              refine zr_pcn 110 rfl ?_
              obtain ⟨x41, ex41, h⟩ := zoL_s h
              rw [← ex41]
              obtain ⟨le43, hs42, h⟩ := zoS_s h
              refine zr_put F 14 3 zd_MReader_read_110 (zW_o hs42 (by decide)) rfl (by decide) zw_1507 rfl rfl rfl rfl (by exact (Nat.le_of_ble_eq_true rfl)) ?_
              obtain ⟨mm44, emm44, h⟩ := zoL_s h
              refine zr_norm (zW tA b sh mm44) _ (by rw [emm44]; exact zW_pI (v := x41) hs42 (by decide) (zf_I_14_3 b _ _ _)) rfl ?_
              refine zr_goto F 53 zd_MReader_read_113 (by decide) ?_
              refine zr_loc (L' := [(0, .ref (b + v0)), (2, .int 1)]) ⟨rfl, rfl, trivial⟩ ?_
              exact ih _ _ _ _ h hx0
def F_MReader_read (sh : zSh) (mm : zMem) (o : Nat) (x0_ : Int32) : Option zMem := zoS (sh o) 14 (fun le2 => zoL (mI mm o 2 x0_) (fun mm3 => zoS (sh o) 14 (fun le5 => zoL (mI mm3 o 3 0) (fun mm6 => zoS (sh o) 14 (fun le8 => zoL (mI mm6 o 4 0) (fun mm9 => zoS (sh o) 14 (fun le11 => zoL (mI mm9 o 5 0) (fun mm12 => zoS (sh o) 14 (fun le14 => zoL (mI mm12 o 10 0) (fun mm15 => zoS (sh o) 14 (fun le17 => Option.bind (F_MReader_sign sh mm15 o 123) (fun p18 => zoS (sh o) 14 (fun le20 => (if (p18.1 o 4) = 0 then zoS (sh o) 14 (fun le62 => Option.bind (F_MReader_next sh p18 o) (fun p63 => (if p63.1 = 125 then Option.bind (L_MReader_read_53 sh zfuel o 0 (p63.2)) (fun q65 => zoS (sh (q65.1)) 14 (fun le67 => Option.bind (F_MReader_sign sh (q65.2.2) (q65.1) 125) (fun p68 => zoS (sh (q65.1)) 14 (fun le70 => (if (p68.1 (q65.1) 4) = 0 then zoS (sh (q65.1)) 14 (fun le73 => Option.bind (F_MReader_next sh p68 (q65.1)) (fun p74 => (if p74.1 = (-1) then some (p74.2) else zoS (sh (q65.1)) 14 (fun le77 => zoS (sh (q65.1)) 14 (fun le79 => Option.bind (F_MReader_fail sh (p74.2) (q65.1) 1 ((p74.2).1 (q65.1) 3)) (fun p80 => some p80)))))) else some p68))))) else Option.bind (L_MReader_read_53 sh zfuel o 1 (p63.2)) (fun q81 => zoS (sh (q81.1)) 14 (fun le83 => Option.bind (F_MReader_sign sh (q81.2.2) (q81.1) 125) (fun p84 => zoS (sh (q81.1)) 14 (fun le86 => (if (p84.1 (q81.1) 4) = 0 then zoS (sh (q81.1)) 14 (fun le89 => Option.bind (F_MReader_next sh p84 (q81.1)) (fun p90 => (if p90.1 = (-1) then some (p90.2) else zoS (sh (q81.1)) 14 (fun le93 => zoS (sh (q81.1)) 14 (fun le95 => Option.bind (F_MReader_fail sh (p90.2) (q81.1) 1 ((p90.2).1 (q81.1) 3)) (fun p96 => some p96)))))) else some p84)))))))) else Option.bind (L_MReader_read_53 sh zfuel o 0 p18) (fun q45 => zoS (sh (q45.1)) 14 (fun le47 => Option.bind (F_MReader_sign sh (q45.2.2) (q45.1) 125) (fun p48 => zoS (sh (q45.1)) 14 (fun le50 => (if (p48.1 (q45.1) 4) = 0 then zoS (sh (q45.1)) 14 (fun le53 => Option.bind (F_MReader_next sh p48 (q45.1)) (fun p54 => (if p54.1 = (-1) then some (p54.2) else zoS (sh (q45.1)) 14 (fun le57 => zoS (sh (q45.1)) 14 (fun le59 => Option.bind (F_MReader_fail sh (p54.2) (q45.1) 1 ((p54.2).1 (q45.1) 3)) (fun p60 => some p60)))))) else some p48)))))))))))))))))))
set_option maxHeartbeats 4000000 in
set_option maxRecDepth 100000 in
theorem k_MReader_read (l : Launch) (D : va_G) (tA : Nat → ClassId) (b : Nat) (sh : zSh) (n : Nat) {mm : zMem} {o : Nat} {x0_ : Int32} {r : zMem} (h : F_MReader_read sh mm o x0_ = some r) : zM l D tA b zy_MReader_read zb_MReader_read 3 none 12 270 0 0 [.ref (b + o), .int x0_] (zW tA b sh mm) n (zE none (zW tA b sh r) n) := by
  unfold F_MReader_read at h
  refine zM_of (own := "OrreryBoxModel$Reader") (plainFor_of_name (by decide)) rfl (Nat.le_of_ble_eq_true rfl) (fun p e s m below meth c F hr hin hH => ?_)
  refine zr_aload_n F zd_MReader_read_0 rfl ?_
  refine zr_iload_n F zd_MReader_read_1 rfl ?_
  obtain ⟨le2, hs1, h⟩ := zoS_s h
  refine zr_put F 14 2 zd_MReader_read_2 (zW_o hs1 (by decide)) rfl (by decide) zw_1506 rfl rfl rfl rfl (by exact (Nat.le_of_ble_eq_true rfl)) ?_
  obtain ⟨mm3, emm3, h⟩ := zoL_s h
  refine zr_norm (zW tA b sh mm3) _ (by rw [emm3]; exact zW_pI (v := x0_) hs1 (by decide) (zf_I_14_2 b _ _ _)) rfl ?_
  refine zr_aload_n F zd_MReader_read_5 rfl ?_
  refine zr_iconstv (v := 0) F zd_MReader_read_6 (by decide) ?_
  obtain ⟨le5, hs4, h⟩ := zoS_s h
  refine zr_put F 14 3 zd_MReader_read_7 (zW_o hs4 (by decide)) rfl (by decide) zw_1507 rfl rfl rfl rfl (by exact (Nat.le_of_ble_eq_true rfl)) ?_
  obtain ⟨mm6, emm6, h⟩ := zoL_s h
  refine zr_norm (zW tA b sh mm6) _ (by rw [emm6]; exact zW_pI (v := 0) hs4 (by decide) (zf_I_14_3 b _ _ _)) rfl ?_
  refine zr_aload_n F zd_MReader_read_10 rfl ?_
  refine zr_pcn 11 rfl ?_
  refine zr_iconstv (v := 0) F zd_MReader_read_11 (by decide) ?_
  obtain ⟨le8, hs7, h⟩ := zoS_s h
  refine zr_put F 14 4 zd_MReader_read_12 (zW_o hs7 (by decide)) rfl (by decide) zw_1508 rfl rfl rfl rfl (by exact (Nat.le_of_ble_eq_true rfl)) ?_
  obtain ⟨mm9, emm9, h⟩ := zoL_s h
  refine zr_norm (zW tA b sh mm9) _ (by rw [emm9]; exact zW_pI (v := 0) hs7 (by decide) (zf_I_14_4 b _ _ _)) rfl ?_
  refine zr_aload_n F zd_MReader_read_15 rfl ?_
  refine zr_iconstv (v := 0) F zd_MReader_read_16 (by decide) ?_
  obtain ⟨le11, hs10, h⟩ := zoS_s h
  refine zr_put F 14 5 zd_MReader_read_17 (zW_o hs10 (by decide)) rfl (by decide) zw_1510 rfl rfl rfl rfl (by exact (Nat.le_of_ble_eq_true rfl)) ?_
  obtain ⟨mm12, emm12, h⟩ := zoL_s h
  refine zr_norm (zW tA b sh mm12) _ (by rw [emm12]; exact zW_pI (v := 0) hs10 (by decide) (zf_I_14_5 b _ _ _)) rfl ?_
  refine zr_aload_n F zd_MReader_read_20 rfl ?_
  refine zr_iconstv (v := 0) F zd_MReader_read_21 (by decide) ?_
  obtain ⟨le14, hs13, h⟩ := zoS_s h
  refine zr_put F 14 10 zd_MReader_read_22 (zW_o hs13 (by decide)) rfl (by decide) zw_1516 rfl rfl rfl rfl (by exact (Nat.le_of_ble_eq_true rfl)) ?_
  obtain ⟨mm15, emm15, h⟩ := zoL_s h
  refine zr_norm (zW tA b sh mm15) _ (by rw [emm15]; exact zW_pI (v := 0) hs13 (by decide) (zf_I_14_10 b _ _ _)) rfl ?_
  refine zr_pcn 25 rfl ?_
  refine zr_aload_n F zd_MReader_read_25 rfl ?_
  refine zr_bipushv (v := 123) F zd_MReader_read_26 (by decide) ?_
  obtain ⟨le17, hs16, h⟩ := zoS_s h
  obtain ⟨p18, ep18, h⟩ := zoB_s h
  refine zr_callV0 F (k_MReader_sign l D tA b sh _ ep18) zd_MReader_read_28 (zW_o hs16 (by decide)) rfl zs_MReader_55 rfl zq_MReader_sign rfl rfl ⟨(Nat.le_of_ble_eq_true rfl), (Nat.le_of_ble_eq_true rfl)⟩ (Nat.le_of_ble_eq_true rfl) ⟨(Nat.le_of_ble_eq_true rfl), (Nat.le_of_ble_eq_true rfl)⟩ ?_
  refine zr_aload_n F zd_MReader_read_31 rfl ?_
  obtain ⟨le20, hs19, h⟩ := zoS_s h
  refine zr_get F 14 4 zd_MReader_read_32 (zW_o hs19 (by decide)) rfl (by decide) zw_1508 rfl (by rfl) ?_
  refine zr_if_ne F 51 zd_MReader_read_35 (by decide) (fun hb21 => ?_) (fun hb21 => ?_)
  ·
    rw [if_neg hb21] at h
    refine zr_iconstv (v := 0) F zd_MReader_read_51 (by decide) ?_
    refine zr_istore_n F zd_MReader_read_52 (by decide) ?_
    obtain ⟨q45, eq45, h⟩ := zoB_s h
    refine zr_loc (L' := [(0, .ref (b + o)), (2, .int 0)]) ⟨rfl, rfl, trivial⟩ ?_
    refine lp_MReader_read_53 F _ _ _ _ _ eq45 ?_
    ·
      refine zr_aload_n F zd_MReader_read_116 rfl ?_
      refine zr_bipushv (v := 125) F zd_MReader_read_117 (by decide) ?_
      obtain ⟨le47, hs46, h⟩ := zoS_s h
      obtain ⟨p48, ep48, h⟩ := zoB_s h
      refine zr_callV0 F (k_MReader_sign l D tA b sh _ ep48) zd_MReader_read_119 (zW_o hs46 (by decide)) rfl zs_MReader_55 rfl zq_MReader_sign rfl rfl ⟨(Nat.le_of_ble_eq_true rfl), (Nat.le_of_ble_eq_true rfl)⟩ (Nat.le_of_ble_eq_true rfl) ⟨(Nat.le_of_ble_eq_true rfl), (Nat.le_of_ble_eq_true rfl)⟩ ?_
      refine zr_aload_n F zd_MReader_read_122 rfl ?_
      obtain ⟨le50, hs49, h⟩ := zoS_s h
      refine zr_get F 14 4 zd_MReader_read_123 (zW_o hs49 (by decide)) rfl (by decide) zw_1508 rfl (by rfl) ?_
      refine zr_if_ne F 146 zd_MReader_read_126 (by decide) (fun hb51 => ?_) (fun hb51 => ?_)
      ·
        rw [if_neg hb51] at h
        refine zr_pcn 146 rfl ?_
        obtain rfl := Option.some.inj h
        exact zr_vret F hr zd_MReader_read_146 (Nat.le_of_ble_eq_true rfl) (Nat.le_of_ble_eq_true rfl) ⟨rfl, rfl, rfl⟩
      ·
        rw [if_pos hb51] at h
        refine zr_aload_n F zd_MReader_read_129 rfl ?_
        obtain ⟨le53, hs52, h⟩ := zoS_s h
        obtain ⟨p54, ep54, h⟩ := zoB_s h
        refine zr_callV1 F (k_MReader_next l D tA b sh _ ep54) zd_MReader_read_130 (zW_o hs52 (by decide)) rfl zs_MReader_34 rfl zq_MReader_next rfl rfl ⟨(Nat.le_of_ble_eq_true rfl), (Nat.le_of_ble_eq_true rfl)⟩ (Nat.le_of_ble_eq_true rfl) ⟨(Nat.le_of_ble_eq_true rfl), (Nat.le_of_ble_eq_true rfl)⟩ ?_
        refine zr_iconstv (v := (-1)) F zd_MReader_read_133 (by decide) ?_
        refine zr_icmp_eq F 146 zd_MReader_read_134 (by decide) (fun hb55 => ?_) (fun hb55 => ?_)
        ·
          rw [if_pos hb55] at h
          obtain rfl := Option.some.inj h
          exact zr_vret F hr zd_MReader_read_146 (Nat.le_of_ble_eq_true rfl) (Nat.le_of_ble_eq_true rfl) ⟨rfl, rfl, rfl⟩
        ·
          rw [if_neg hb55] at h
          refine zr_aload_n F zd_MReader_read_137 rfl ?_
          refine zr_iconstv (v := 1) F zd_MReader_read_138 (by decide) ?_
          refine zr_pcn 139 rfl ?_
          refine zr_aload_n F zd_MReader_read_139 rfl ?_
          obtain ⟨le57, hs56, h⟩ := zoS_s h
          refine zr_get F 14 3 zd_MReader_read_140 (zW_o hs56 (by decide)) rfl (by decide) zw_1507 rfl (by rfl) ?_
          obtain ⟨le59, hs58, h⟩ := zoS_s h
          obtain ⟨p60, ep60, h⟩ := zoB_s h
          refine zr_callV0 F (k_MReader_fail l D tA b sh _ ep60) zd_MReader_read_143 (zW_o hs58 (by decide)) rfl zs_MReader_38 rfl zq_MReader_fail rfl rfl ⟨(Nat.le_of_ble_eq_true rfl), (Nat.le_of_ble_eq_true rfl)⟩ (Nat.le_of_ble_eq_true rfl) ⟨(Nat.le_of_ble_eq_true rfl), (Nat.le_of_ble_eq_true rfl)⟩ ?_
          obtain rfl := Option.some.inj h
          exact zr_vret F hr zd_MReader_read_146 (Nat.le_of_ble_eq_true rfl) (Nat.le_of_ble_eq_true rfl) ⟨rfl, rfl, rfl⟩
  ·
    rw [if_pos hb21] at h
    refine zr_aload_n F zd_MReader_read_38 rfl ?_
    obtain ⟨le62, hs61, h⟩ := zoS_s h
    obtain ⟨p63, ep63, h⟩ := zoB_s h
    refine zr_callV1 F (k_MReader_next l D tA b sh _ ep63) zd_MReader_read_39 (zW_o hs61 (by decide)) rfl zs_MReader_34 rfl zq_MReader_next rfl rfl ⟨(Nat.le_of_ble_eq_true rfl), (Nat.le_of_ble_eq_true rfl)⟩ (Nat.le_of_ble_eq_true rfl) ⟨(Nat.le_of_ble_eq_true rfl), (Nat.le_of_ble_eq_true rfl)⟩ ?_
    refine zr_bipushv (v := 125) F zd_MReader_read_42 (by decide) ?_
    refine zr_icmp_eq F 51 zd_MReader_read_44 (by decide) (fun hb64 => ?_) (fun hb64 => ?_)
    ·
      rw [if_pos hb64] at h
      refine zr_pcn 51 rfl ?_
      refine zr_iconstv (v := 0) F zd_MReader_read_51 (by decide) ?_
      refine zr_istore_n F zd_MReader_read_52 (by decide) ?_
      obtain ⟨q65, eq65, h⟩ := zoB_s h
      refine zr_loc (L' := [(0, .ref (b + o)), (2, .int 0)]) ⟨rfl, rfl, trivial⟩ ?_
      refine lp_MReader_read_53 F _ _ _ _ _ eq65 ?_
      ·
        refine zr_aload_n F zd_MReader_read_116 rfl ?_
        refine zr_bipushv (v := 125) F zd_MReader_read_117 (by decide) ?_
        obtain ⟨le67, hs66, h⟩ := zoS_s h
        obtain ⟨p68, ep68, h⟩ := zoB_s h
        refine zr_callV0 F (k_MReader_sign l D tA b sh _ ep68) zd_MReader_read_119 (zW_o hs66 (by decide)) rfl zs_MReader_55 rfl zq_MReader_sign rfl rfl ⟨(Nat.le_of_ble_eq_true rfl), (Nat.le_of_ble_eq_true rfl)⟩ (Nat.le_of_ble_eq_true rfl) ⟨(Nat.le_of_ble_eq_true rfl), (Nat.le_of_ble_eq_true rfl)⟩ ?_
        refine zr_aload_n F zd_MReader_read_122 rfl ?_
        obtain ⟨le70, hs69, h⟩ := zoS_s h
        refine zr_get F 14 4 zd_MReader_read_123 (zW_o hs69 (by decide)) rfl (by decide) zw_1508 rfl (by rfl) ?_
        refine zr_if_ne F 146 zd_MReader_read_126 (by decide) (fun hb71 => ?_) (fun hb71 => ?_)
        ·
          rw [if_neg hb71] at h
          refine zr_pcn 146 rfl ?_
          obtain rfl := Option.some.inj h
          exact zr_vret F hr zd_MReader_read_146 (Nat.le_of_ble_eq_true rfl) (Nat.le_of_ble_eq_true rfl) ⟨rfl, rfl, rfl⟩
        ·
          rw [if_pos hb71] at h
          refine zr_aload_n F zd_MReader_read_129 rfl ?_
          obtain ⟨le73, hs72, h⟩ := zoS_s h
          obtain ⟨p74, ep74, h⟩ := zoB_s h
          refine zr_callV1 F (k_MReader_next l D tA b sh _ ep74) zd_MReader_read_130 (zW_o hs72 (by decide)) rfl zs_MReader_34 rfl zq_MReader_next rfl rfl ⟨(Nat.le_of_ble_eq_true rfl), (Nat.le_of_ble_eq_true rfl)⟩ (Nat.le_of_ble_eq_true rfl) ⟨(Nat.le_of_ble_eq_true rfl), (Nat.le_of_ble_eq_true rfl)⟩ ?_
          refine zr_iconstv (v := (-1)) F zd_MReader_read_133 (by decide) ?_
          refine zr_icmp_eq F 146 zd_MReader_read_134 (by decide) (fun hb75 => ?_) (fun hb75 => ?_)
          ·
            rw [if_pos hb75] at h
            obtain rfl := Option.some.inj h
            exact zr_vret F hr zd_MReader_read_146 (Nat.le_of_ble_eq_true rfl) (Nat.le_of_ble_eq_true rfl) ⟨rfl, rfl, rfl⟩
          ·
            rw [if_neg hb75] at h
            refine zr_aload_n F zd_MReader_read_137 rfl ?_
            refine zr_iconstv (v := 1) F zd_MReader_read_138 (by decide) ?_
            refine zr_pcn 139 rfl ?_
            refine zr_aload_n F zd_MReader_read_139 rfl ?_
            obtain ⟨le77, hs76, h⟩ := zoS_s h
            refine zr_get F 14 3 zd_MReader_read_140 (zW_o hs76 (by decide)) rfl (by decide) zw_1507 rfl (by rfl) ?_
            obtain ⟨le79, hs78, h⟩ := zoS_s h
            obtain ⟨p80, ep80, h⟩ := zoB_s h
            refine zr_callV0 F (k_MReader_fail l D tA b sh _ ep80) zd_MReader_read_143 (zW_o hs78 (by decide)) rfl zs_MReader_38 rfl zq_MReader_fail rfl rfl ⟨(Nat.le_of_ble_eq_true rfl), (Nat.le_of_ble_eq_true rfl)⟩ (Nat.le_of_ble_eq_true rfl) ⟨(Nat.le_of_ble_eq_true rfl), (Nat.le_of_ble_eq_true rfl)⟩ ?_
            obtain rfl := Option.some.inj h
            exact zr_vret F hr zd_MReader_read_146 (Nat.le_of_ble_eq_true rfl) (Nat.le_of_ble_eq_true rfl) ⟨rfl, rfl, rfl⟩
    ·
      rw [if_neg hb64] at h
      refine zr_iconstv (v := 1) F zd_MReader_read_47 (by decide) ?_
      refine zr_goto F 52 zd_MReader_read_48 (by decide) ?_
      refine zr_istore_n F zd_MReader_read_52 (by decide) ?_
      obtain ⟨q81, eq81, h⟩ := zoB_s h
      refine zr_loc (L' := [(0, .ref (b + o)), (2, .int 1)]) ⟨rfl, rfl, trivial⟩ ?_
      refine lp_MReader_read_53 F _ _ _ _ _ eq81 ?_
      ·
        refine zr_aload_n F zd_MReader_read_116 rfl ?_
        refine zr_pcn 117 rfl ?_
        refine zr_bipushv (v := 125) F zd_MReader_read_117 (by decide) ?_
        obtain ⟨le83, hs82, h⟩ := zoS_s h
        obtain ⟨p84, ep84, h⟩ := zoB_s h
        refine zr_callV0 F (k_MReader_sign l D tA b sh _ ep84) zd_MReader_read_119 (zW_o hs82 (by decide)) rfl zs_MReader_55 rfl zq_MReader_sign rfl rfl ⟨(Nat.le_of_ble_eq_true rfl), (Nat.le_of_ble_eq_true rfl)⟩ (Nat.le_of_ble_eq_true rfl) ⟨(Nat.le_of_ble_eq_true rfl), (Nat.le_of_ble_eq_true rfl)⟩ ?_
        refine zr_aload_n F zd_MReader_read_122 rfl ?_
        obtain ⟨le86, hs85, h⟩ := zoS_s h
        refine zr_get F 14 4 zd_MReader_read_123 (zW_o hs85 (by decide)) rfl (by decide) zw_1508 rfl (by rfl) ?_
        refine zr_if_ne F 146 zd_MReader_read_126 (by decide) (fun hb87 => ?_) (fun hb87 => ?_)
        ·
          rw [if_neg hb87] at h
          obtain rfl := Option.some.inj h
          exact zr_vret F hr zd_MReader_read_146 (Nat.le_of_ble_eq_true rfl) (Nat.le_of_ble_eq_true rfl) ⟨rfl, rfl, rfl⟩
        ·
          rw [if_pos hb87] at h
          refine zr_aload_n F zd_MReader_read_129 rfl ?_
          obtain ⟨le89, hs88, h⟩ := zoS_s h
          obtain ⟨p90, ep90, h⟩ := zoB_s h
          refine zr_callV1 F (k_MReader_next l D tA b sh _ ep90) zd_MReader_read_130 (zW_o hs88 (by decide)) rfl zs_MReader_34 rfl zq_MReader_next rfl rfl ⟨(Nat.le_of_ble_eq_true rfl), (Nat.le_of_ble_eq_true rfl)⟩ (Nat.le_of_ble_eq_true rfl) ⟨(Nat.le_of_ble_eq_true rfl), (Nat.le_of_ble_eq_true rfl)⟩ ?_
          refine zr_pcn 133 rfl ?_
          refine zr_iconstv (v := (-1)) F zd_MReader_read_133 (by decide) ?_
          refine zr_icmp_eq F 146 zd_MReader_read_134 (by decide) (fun hb91 => ?_) (fun hb91 => ?_)
          ·
            rw [if_pos hb91] at h
            obtain rfl := Option.some.inj h
            exact zr_vret F hr zd_MReader_read_146 (Nat.le_of_ble_eq_true rfl) (Nat.le_of_ble_eq_true rfl) ⟨rfl, rfl, rfl⟩
          ·
            rw [if_neg hb91] at h
            refine zr_aload_n F zd_MReader_read_137 rfl ?_
            refine zr_iconstv (v := 1) F zd_MReader_read_138 (by decide) ?_
            refine zr_aload_n F zd_MReader_read_139 rfl ?_
            obtain ⟨le93, hs92, h⟩ := zoS_s h
            refine zr_get F 14 3 zd_MReader_read_140 (zW_o hs92 (by decide)) rfl (by decide) zw_1507 rfl (by rfl) ?_
            obtain ⟨le95, hs94, h⟩ := zoS_s h
            obtain ⟨p96, ep96, h⟩ := zoB_s h
            refine zr_callV0 F (k_MReader_fail l D tA b sh _ ep96) zd_MReader_read_143 (zW_o hs94 (by decide)) rfl zs_MReader_38 rfl zq_MReader_fail rfl rfl ⟨(Nat.le_of_ble_eq_true rfl), (Nat.le_of_ble_eq_true rfl)⟩ (Nat.le_of_ble_eq_true rfl) ⟨(Nat.le_of_ble_eq_true rfl), (Nat.le_of_ble_eq_true rfl)⟩ ?_
            refine zr_pcn 146 rfl ?_
            obtain rfl := Option.some.inj h
            exact zr_vret F hr zd_MReader_read_146 (Nat.le_of_ble_eq_true rfl) (Nat.le_of_ble_eq_true rfl) ⟨rfl, rfl, rfl⟩
def L_MScene_clear_27 (sh : zSh) (fuel : Nat) (v0 : Nat) (v1 : Int32) (mm : zMem) : Option (Nat × Int32 × zMem) := match fuel with
  | 0 => none
  | fu + 1 => (if 3 ≤ v1 then some (v0, v1, mm) else zoS (sh v0) 15 (fun le18 => Option.bind (mm.2.2 v0 31) (fun a19 => zoS (sh a19) 100 (fun le21 => if (v1 : Int32) < 0 ∨ le21 ≤ (v1 : Int32).toNatClampNeg then none else zoL (mI mm a19 (v1 : Int32).toNatClampNeg 0) (fun mm23 => zoS (sh v0) 15 (fun le25 => Option.bind (mm23.2.2 v0 32) (fun a26 => zoS (sh a26) 100 (fun le28 => if (v1 : Int32) < 0 ∨ le28 ≤ (v1 : Int32).toNatClampNeg then none else zoL (mI mm23 a26 (v1 : Int32).toNatClampNeg 0) (fun mm30 => zoS (sh v0) 15 (fun le32 => Option.bind (mm30.2.2 v0 33) (fun a33 => (if v1 = 2 then zoS (sh a33) 100 (fun le40 => if (v1 : Int32) < 0 ∨ le40 ≤ (v1 : Int32).toNatClampNeg then none else zoL (mI mm30 a33 (v1 : Int32).toNatClampNeg (-65536)) (fun mm42 => L_MScene_clear_27 sh fu v0 (v1 + 1) mm42)) else zoS (sh a33) 100 (fun le36 => if (v1 : Int32) < 0 ∨ le36 ≤ (v1 : Int32).toNatClampNeg then none else zoL (mI mm30 a33 (v1 : Int32).toNatClampNeg 0) (fun mm38 => L_MScene_clear_27 sh fu v0 (v1 + 1) mm38))))))))))))))
set_option maxHeartbeats 4000000 in
set_option maxRecDepth 100000 in
theorem lp_MScene_clear_27 {p : Program} {l : Launch} {e : Env} {s : State} {m : MethodId} {args : Array Value} {below : List Frame} {meth : Method} {c : Code} {D : va_G} {tA : Nat → ClassId} {b n : Nat} {post : Option Value → zV → Nat → Prop} {sh : zSh} (F : zF p s m args meth c zb_MScene_clear 2 "OrreryBoxModel$Scene" D tA b) : ∀ (fuel : Nat) (v0 : Nat) (v1 : Int32) (mm : zMem) (r : Nat × Int32 × zMem), L_MScene_clear_27 sh fuel v0 v1 mm = some r → (Z p l e { frames := 0, cells := 0, slots := 0, locals := 0 } s m args below meth c D b 2 (MQ below (zQ D b post) args s 0 0 (fun q => b ≤ q)) (zW tA b sh r.2.2) n 0 0 69 [(0, .ref (b + (r.1))), (1, .int (r.2.1))] []) → Z p l e { frames := 0, cells := 0, slots := 0, locals := 0 } s m args below meth c D b 2 (MQ below (zQ D b post) args s 0 0 (fun q => b ≤ q)) (zW tA b sh mm) n 0 0 27 [(0, .ref (b + v0)), (1, .int v1)] [] := by
  intro fuel
  induction fuel with
  | zero =>
    intro v0 v1 mm r h
    cases h
  | succ fu ih =>
    intro v0 v1 mm r h hx0
    rw [L_MScene_clear_27] at h
    refine zr_iload_n F zd_MScene_clear_27 rfl ?_
    refine zr_iconstv (v := 3) F zd_MScene_clear_28 (by decide) ?_
    refine zr_icmp_ge F 69 zd_MScene_clear_29 (by decide) (fun hb16 => ?_) (fun hb16 => ?_)
    ·
      rw [if_pos hb16] at h
      obtain rfl := Option.some.inj h
      refine zr_loc (L' := [(0, .ref (b + v0)), (1, .int v1)]) ⟨rfl, rfl, trivial⟩ ?_
      exact hx0 
    ·
      rw [if_neg hb16] at h
      refine zr_aload_n F zd_MScene_clear_32 rfl ?_
      obtain ⟨le18, hs17, h⟩ := zoS_s h
      obtain ⟨a19, ea19, h⟩ := zoB_s h
      refine zr_get F 15 31 zd_MScene_clear_33 (zW_o hs17 (by decide)) rfl (by decide) zw_1404 rfl (by rfl) ?_
      refine zr_tor ea19 ?_
      refine zr_iload_n F zd_MScene_clear_36 rfl ?_
      refine zr_pcn 37 rfl ?_
      refine zr_iconstv (v := 0) F zd_MScene_clear_37 (by decide) ?_
      obtain ⟨le21, hs20, h⟩ := zoS_s h
      obtain ⟨hi22, h⟩ := zoI_s h
      refine zr_iast F zd_MScene_clear_38 (zW_a0 hs20) hi22 ?_
      obtain ⟨mm23, emm23, h⟩ := zoL_s h
      refine zr_norm (zW tA b sh mm23) _ (by rw [emm23]; exact zW_s0 hs20) rfl ?_
      refine zr_aload_n F zd_MScene_clear_39 rfl ?_
      obtain ⟨le25, hs24, h⟩ := zoS_s h
      obtain ⟨a26, ea26, h⟩ := zoB_s h
      refine zr_get F 15 32 zd_MScene_clear_40 (zW_o hs24 (by decide)) rfl (by decide) zw_1408 rfl (by rfl) ?_
      refine zr_tor ea26 ?_
      refine zr_iload_n F zd_MScene_clear_43 rfl ?_
      refine zr_iconstv (v := 0) F zd_MScene_clear_44 (by decide) ?_
      obtain ⟨le28, hs27, h⟩ := zoS_s h
      obtain ⟨hi29, h⟩ := zoI_s h
      refine zr_iast F zd_MScene_clear_45 (zW_a0 hs27) hi29 ?_
      obtain ⟨mm30, emm30, h⟩ := zoL_s h
      refine zr_norm (zW tA b sh mm30) _ (by rw [emm30]; exact zW_s0 hs27) rfl ?_
      refine zr_aload_n F zd_MScene_clear_46 rfl ?_
      refine zr_pcn 47 rfl ?_
      obtain ⟨le32, hs31, h⟩ := zoS_s h
      obtain ⟨a33, ea33, h⟩ := zoB_s h
      refine zr_get F 15 33 zd_MScene_clear_47 (zW_o hs31 (by decide)) rfl (by decide) zw_1412 rfl (by rfl) ?_
      refine zr_tor ea33 ?_
      refine zr_iload_n F zd_MScene_clear_50 rfl ?_
      refine zr_iload_n F zd_MScene_clear_51 rfl ?_
      refine zr_iconstv (v := 2) F zd_MScene_clear_52 (by decide) ?_
      refine zr_icmp_ne F 61 zd_MScene_clear_53 (by decide) (fun hb34 => ?_) (fun hb34 => ?_)
      ·
        rw [if_neg hb34] at h
        refine zr_iconstv (v := 0) F zd_MScene_clear_61 (by decide) ?_
        obtain ⟨le36, hs35, h⟩ := zoS_s h
        obtain ⟨hi37, h⟩ := zoI_s h
        refine zr_iast F zd_MScene_clear_62 (zW_a0 hs35) hi37 ?_
        obtain ⟨mm38, emm38, h⟩ := zoL_s h
        refine zr_norm (zW tA b sh mm38) _ (by rw [emm38]; exact zW_s0 hs35) rfl ?_
        refine zr_iinc (v := (v1 + 1)) F zd_MScene_clear_63 rfl rfl (by decide) ?_
        refine zr_pcn 66 rfl ?_
        refine zr_goto F 27 zd_MScene_clear_66 (by decide) ?_
        refine zr_loc (L' := [(0, .ref (b + v0)), (1, .int (v1 + 1))]) ⟨rfl, rfl, trivial⟩ ?_
        exact ih _ _ _ _ h hx0
      ·
        rw [if_pos hb34] at h
        refine zr_ldc F zd_MScene_clear_56 zw_1679 ?_
        refine zr_goto F 62 zd_MScene_clear_58 (by decide) ?_
        obtain ⟨le40, hs39, h⟩ := zoS_s h
        obtain ⟨hi41, h⟩ := zoI_s h
        refine zr_iast F zd_MScene_clear_62 (zW_a0 hs39) hi41 ?_
        obtain ⟨mm42, emm42, h⟩ := zoL_s h
        refine zr_norm (zW tA b sh mm42) _ (by rw [emm42]; exact zW_s0 hs39) rfl ?_
        refine zr_iinc (v := (v1 + 1)) F zd_MScene_clear_63 rfl rfl (by decide) ?_
        refine zr_goto F 27 zd_MScene_clear_66 (by decide) ?_
        refine zr_loc (L' := [(0, .ref (b + v0)), (1, .int (v1 + 1))]) ⟨rfl, rfl, trivial⟩ ?_
        exact ih _ _ _ _ h hx0
def F_MScene_clear (sh : zSh) (mm : zMem) (o : Nat) : Option zMem := zoS (sh o) 15 (fun le2 => zoL (mI mm o 0 0) (fun mm3 => zoS (sh o) 15 (fun le5 => zoL (mI mm3 o 1 0) (fun mm6 => zoS (sh o) 15 (fun le8 => zoL (mI mm6 o 2 0) (fun mm9 => zoS (sh o) 15 (fun le11 => zoL (mI mm9 o 3 0) (fun mm12 => zoS (sh o) 15 (fun le14 => zoL (mI mm12 o 4 0) (fun mm15 => Option.bind (L_MScene_clear_27 sh zfuel o 0 mm15) (fun q43 => zoS (sh (q43.1)) 15 (fun le45 => zoL (mI (q43.2.2) (q43.1) 34 32) (fun mm46 => zoS (sh (q43.1)) 15 (fun le48 => zoL (mI mm46 (q43.1) 35 16384) (fun mm49 => some mm49)))))))))))))))
set_option maxHeartbeats 4000000 in
set_option maxRecDepth 100000 in
theorem k_MScene_clear (l : Launch) (D : va_G) (tA : Nat → ClassId) (b : Nat) (sh : zSh) (n : Nat) {mm : zMem} {o : Nat} {r : zMem} (h : F_MScene_clear sh mm o = some r) : zM l D tA b zy_MScene_clear zb_MScene_clear 2 none 0 0 0 0 [.ref (b + o)] (zW tA b sh mm) n (zE none (zW tA b sh r) n) := by
  unfold F_MScene_clear at h
  refine zM_of (own := "OrreryBoxModel$Scene") (plainFor_of_name (by decide)) rfl (Nat.le_of_ble_eq_true rfl) (fun p e s m below meth c F hr hin hH => ?_)
  refine zr_aload_n F zd_MScene_clear_0 rfl ?_
  refine zr_iconstv (v := 0) F zd_MScene_clear_1 (by decide) ?_
  obtain ⟨le2, hs1, h⟩ := zoS_s h
  refine zr_put F 15 0 zd_MScene_clear_2 (zW_o hs1 (by decide)) rfl (by decide) zw_1315 rfl rfl rfl rfl (by exact (Nat.le_of_ble_eq_true rfl)) ?_
  obtain ⟨mm3, emm3, h⟩ := zoL_s h
  refine zr_norm (zW tA b sh mm3) _ (by rw [emm3]; exact zW_pI (v := 0) hs1 (by decide) (zf_I_15_0 b _ _ _)) rfl ?_
  refine zr_aload_n F zd_MScene_clear_5 rfl ?_
  refine zr_iconstv (v := 0) F zd_MScene_clear_6 (by decide) ?_
  obtain ⟨le5, hs4, h⟩ := zoS_s h
  refine zr_put F 15 1 zd_MScene_clear_7 (zW_o hs4 (by decide)) rfl (by decide) zw_1318 rfl rfl rfl rfl (by exact (Nat.le_of_ble_eq_true rfl)) ?_
  obtain ⟨mm6, emm6, h⟩ := zoL_s h
  refine zr_norm (zW tA b sh mm6) _ (by rw [emm6]; exact zW_pI (v := 0) hs4 (by decide) (zf_I_15_1 b _ _ _)) rfl ?_
  refine zr_aload_n F zd_MScene_clear_10 rfl ?_
  refine zr_pcn 11 rfl ?_
  refine zr_iconstv (v := 0) F zd_MScene_clear_11 (by decide) ?_
  obtain ⟨le8, hs7, h⟩ := zoS_s h
  refine zr_put F 15 2 zd_MScene_clear_12 (zW_o hs7 (by decide)) rfl (by decide) zw_1321 rfl rfl rfl rfl (by exact (Nat.le_of_ble_eq_true rfl)) ?_
  obtain ⟨mm9, emm9, h⟩ := zoL_s h
  refine zr_norm (zW tA b sh mm9) _ (by rw [emm9]; exact zW_pI (v := 0) hs7 (by decide) (zf_I_15_2 b _ _ _)) rfl ?_
  refine zr_aload_n F zd_MScene_clear_15 rfl ?_
  refine zr_iconstv (v := 0) F zd_MScene_clear_16 (by decide) ?_
  obtain ⟨le11, hs10, h⟩ := zoS_s h
  refine zr_put F 15 3 zd_MScene_clear_17 (zW_o hs10 (by decide)) rfl (by decide) zw_1324 rfl rfl rfl rfl (by exact (Nat.le_of_ble_eq_true rfl)) ?_
  obtain ⟨mm12, emm12, h⟩ := zoL_s h
  refine zr_norm (zW tA b sh mm12) _ (by rw [emm12]; exact zW_pI (v := 0) hs10 (by decide) (zf_I_15_3 b _ _ _)) rfl ?_
  refine zr_aload_n F zd_MScene_clear_20 rfl ?_
  refine zr_iconstv (v := 0) F zd_MScene_clear_21 (by decide) ?_
  obtain ⟨le14, hs13, h⟩ := zoS_s h
  refine zr_put F 15 4 zd_MScene_clear_22 (zW_o hs13 (by decide)) rfl (by decide) zw_1328 rfl rfl rfl rfl (by exact (Nat.le_of_ble_eq_true rfl)) ?_
  obtain ⟨mm15, emm15, h⟩ := zoL_s h
  refine zr_norm (zW tA b sh mm15) _ (by rw [emm15]; exact zW_pI (v := 0) hs13 (by decide) (zf_I_15_4 b _ _ _)) rfl ?_
  refine zr_pcn 25 rfl ?_
  refine zr_iconstv (v := 0) F zd_MScene_clear_25 (by decide) ?_
  refine zr_istore_n F zd_MScene_clear_26 (by decide) ?_
  obtain ⟨q43, eq43, h⟩ := zoB_s h
  refine zr_loc (L' := [(0, .ref (b + o)), (1, .int 0)]) ⟨rfl, rfl, trivial⟩ ?_
  refine lp_MScene_clear_27 F _ _ _ _ _ eq43 ?_
  ·
    refine zr_aload_n F zd_MScene_clear_69 rfl ?_
    refine zr_bipushv (v := 32) F zd_MScene_clear_70 (by decide) ?_
    refine zr_pcn 72 rfl ?_
    obtain ⟨le45, hs44, h⟩ := zoS_s h
    refine zr_put F 15 34 zd_MScene_clear_72 (zW_o hs44 (by decide)) rfl (by decide) zw_1416 rfl rfl rfl rfl (by exact (Nat.le_of_ble_eq_true rfl)) ?_
    obtain ⟨mm46, emm46, h⟩ := zoL_s h
    refine zr_norm (zW tA b sh mm46) _ (by rw [emm46]; exact zW_pI (v := 32) hs44 (by decide) (zf_I_15_34 b _ _ _)) rfl ?_
    refine zr_aload_n F zd_MScene_clear_75 rfl ?_
    refine zr_sipushv (v := 16384) F zd_MScene_clear_76 (by decide) ?_
    obtain ⟨le48, hs47, h⟩ := zoS_s h
    refine zr_put F 15 35 zd_MScene_clear_79 (zW_o hs47 (by decide)) rfl (by decide) zw_1420 rfl rfl rfl rfl (by exact (Nat.le_of_ble_eq_true rfl)) ?_
    obtain ⟨mm49, emm49, h⟩ := zoL_s h
    refine zr_norm (zW tA b sh mm49) _ (by rw [emm49]; exact zW_pI (v := 16384) hs47 (by decide) (zf_I_15_35 b _ _ _)) rfl ?_
    obtain rfl := Option.some.inj h
    exact zr_vret F hr zd_MScene_clear_82 (Nat.le_of_ble_eq_true rfl) (Nat.le_of_ble_eq_true rfl) ⟨rfl, rfl, rfl⟩
def L_MScene_copy_2 (sh : zSh) (fuel : Nat) (v0 : Nat) (v1 : Nat) (v2 : Int32) (mm : zMem) : Option (Nat × Nat × Int32 × zMem) := match fuel with
  | 0 => none
  | fu + 1 => zoA (sh v1) (fun t3 le2 => (if (Int32.ofNat le2) ≤ v2 then some (v0, v1, v2, mm) else zoS (sh v0) 100 (fun le6 => if (v2 : Int32) < 0 ∨ le6 ≤ (v2 : Int32).toNatClampNeg then none else zoL (mm.1 v0 (v2 : Int32).toNatClampNeg) (fun x8 => zoS (sh v1) 100 (fun le10 => if (v2 : Int32) < 0 ∨ le10 ≤ (v2 : Int32).toNatClampNeg then none else zoL (mI mm v1 (v2 : Int32).toNatClampNeg x8) (fun mm12 => L_MScene_copy_2 sh fu v0 v1 (v2 + 1) mm12))))))
set_option maxHeartbeats 4000000 in
set_option maxRecDepth 100000 in
theorem lp_MScene_copy_2 {p : Program} {l : Launch} {e : Env} {s : State} {m : MethodId} {args : Array Value} {below : List Frame} {meth : Method} {c : Code} {D : va_G} {tA : Nat → ClassId} {b n : Nat} {post : Option Value → zV → Nat → Prop} {sh : zSh} (F : zF p s m args meth c zb_MScene_copy 3 "OrreryBoxModel$Scene" D tA b) : ∀ (fuel : Nat) (v0 : Nat) (v1 : Nat) (v2 : Int32) (mm : zMem) (r : Nat × Nat × Int32 × zMem), L_MScene_copy_2 sh fuel v0 v1 v2 mm = some r → (Z p l e { frames := 0, cells := 0, slots := 0, locals := 0 } s m args below meth c D b 3 (MQ below (zQ D b post) args s 0 0 (fun q => b ≤ q)) (zW tA b sh r.2.2.2) n 0 0 20 [(0, .ref (b + (r.1))), (1, .ref (b + (r.2.1))), (2, .int (r.2.2.1))] []) → Z p l e { frames := 0, cells := 0, slots := 0, locals := 0 } s m args below meth c D b 3 (MQ below (zQ D b post) args s 0 0 (fun q => b ≤ q)) (zW tA b sh mm) n 0 0 2 [(0, .ref (b + v0)), (1, .ref (b + v1)), (2, .int v2)] [] := by
  intro fuel
  induction fuel with
  | zero =>
    intro v0 v1 v2 mm r h
    cases h
  | succ fu ih =>
    intro v0 v1 v2 mm r h hx0
    rw [L_MScene_copy_2] at h
    refine zr_iload_n F zd_MScene_copy_2 rfl ?_
    refine zr_aload_n F zd_MScene_copy_3 rfl ?_
    obtain ⟨t3, le2, hs1, h⟩ := zoA_s h
    refine zr_lenW F zd_MScene_copy_4 hs1 ?_
    refine zr_icmp_ge F 20 zd_MScene_copy_5 (by decide) (fun hb4 => ?_) (fun hb4 => ?_)
    ·
      rw [if_pos hb4] at h
      obtain rfl := Option.some.inj h
      refine zr_loc (L' := [(0, .ref (b + v0)), (1, .ref (b + v1)), (2, .int v2)]) ⟨rfl, rfl, rfl, trivial⟩ ?_
      exact hx0 
    ·
      rw [if_neg hb4] at h
      refine zr_aload_n F zd_MScene_copy_8 rfl ?_
      refine zr_pcn 9 rfl ?_
      refine zr_iload_n F zd_MScene_copy_9 rfl ?_
      refine zr_aload_n F zd_MScene_copy_10 rfl ?_
      refine zr_iload_n F zd_MScene_copy_11 rfl ?_
      obtain ⟨le6, hs5, h⟩ := zoS_s h
      obtain ⟨hi7, h⟩ := zoI_s h
      refine zr_iald F zd_MScene_copy_12 (zW_a0 hs5) hi7 ?_
      obtain ⟨x8, ex8, h⟩ := zoL_s h
      rw [← ex8]
      obtain ⟨le10, hs9, h⟩ := zoS_s h
      obtain ⟨hi11, h⟩ := zoI_s h
      refine zr_iast F zd_MScene_copy_13 (zW_a0 hs9) hi11 ?_
      obtain ⟨mm12, emm12, h⟩ := zoL_s h
      refine zr_norm (zW tA b sh mm12) _ (by rw [emm12]; exact zW_s0 hs9) rfl ?_
      refine zr_iinc (v := (v2 + 1)) F zd_MScene_copy_14 rfl rfl (by decide) ?_
      refine zr_goto F 2 zd_MScene_copy_17 (by decide) ?_
      refine zr_loc (L' := [(0, .ref (b + v0)), (1, .ref (b + v1)), (2, .int (v2 + 1))]) ⟨rfl, rfl, rfl, trivial⟩ ?_
      exact ih _ _ _ _ _ h hx0
def F_MScene_copy (sh : zSh) (mm : zMem) (x0_ : Nat) (x1_ : Nat) : Option zMem := Option.bind (L_MScene_copy_2 sh zfuel x0_ x1_ 0 mm) (fun q13 => some (q13.2.2.2))
set_option maxHeartbeats 4000000 in
set_option maxRecDepth 100000 in
theorem k_MScene_copy (l : Launch) (D : va_G) (tA : Nat → ClassId) (b : Nat) (sh : zSh) (n : Nat) {mm : zMem} {x0_ : Nat} {x1_ : Nat} {r : zMem} (h : F_MScene_copy sh mm x0_ x1_ = some r) : zM l D tA b zy_MScene_copy zb_MScene_copy 3 none 0 0 0 0 [.ref (b + x0_), .ref (b + x1_)] (zW tA b sh mm) n (zE none (zW tA b sh r) n) := by
  unfold F_MScene_copy at h
  refine zM_of (own := "OrreryBoxModel$Scene") (plainFor_of_name (by decide)) rfl (Nat.le_of_ble_eq_true rfl) (fun p e s m below meth c F hr hin hH => ?_)
  refine zr_iconstv (v := 0) F zd_MScene_copy_0 (by decide) ?_
  refine zr_istore_n F zd_MScene_copy_1 (by decide) ?_
  obtain ⟨q13, eq13, h⟩ := zoB_s h
  refine zr_loc (L' := [(0, .ref (b + x0_)), (1, .ref (b + x1_)), (2, .int 0)]) ⟨rfl, rfl, rfl, trivial⟩ ?_
  refine lp_MScene_copy_2 F _ _ _ _ _ _ eq13 ?_
  ·
    obtain rfl := Option.some.inj h
    exact zr_vret F hr zd_MScene_copy_20 (Nat.le_of_ble_eq_true rfl) (Nat.le_of_ble_eq_true rfl) ⟨rfl, rfl, rfl⟩
def L_MScene_become_267 (sh : zSh) (fuel : Nat) (v0 : Nat) (v1 : Nat) (v2 : Int32) (mm : zMem) : Option (Nat × Nat × Int32 × zMem) := match fuel with
  | 0 => none
  | fu + 1 => (if 48 ≤ v2 then some (v0, v1, v2, mm) else zoS (sh v0) 15 (fun le178 => Option.bind (mm.2.2 v0 24) (fun a179 => zoS (sh v1) 15 (fun le181 => Option.bind (mm.2.2 v1 24) (fun a182 => zoS (sh a182) 103 (fun le184 => if (v2 : Int32) < 0 ∨ le184 ≤ (v2 : Int32).toNatClampNeg then none else zoL (mm.1 a182 (v2 : Int32).toNatClampNeg) (fun x186 => zoS (sh a179) 103 (fun le188 => if (v2 : Int32) < 0 ∨ le188 ≤ (v2 : Int32).toNatClampNeg then none else zoL (mI mm a179 (v2 : Int32).toNatClampNeg (vp_nar .boolean x186)) (fun mm190 => L_MScene_become_267 sh fu v0 v1 (v2 + 1) mm190)))))))))
set_option maxHeartbeats 4000000 in
set_option maxRecDepth 100000 in
theorem lp_MScene_become_267 {p : Program} {l : Launch} {e : Env} {s : State} {m : MethodId} {args : Array Value} {below : List Frame} {meth : Method} {c : Code} {D : va_G} {tA : Nat → ClassId} {b n : Nat} {post : Option Value → zV → Nat → Prop} {sh : zSh} (F : zF p s m args meth c zb_MScene_become 3 "OrreryBoxModel$Scene" D tA b) : ∀ (fuel : Nat) (v0 : Nat) (v1 : Nat) (v2 : Int32) (mm : zMem) (r : Nat × Nat × Int32 × zMem), L_MScene_become_267 sh fuel v0 v1 v2 mm = some r → (Z p l e { frames := 1, cells := 0, slots := 0, locals := 22 } s m args below meth c D b 3 (MQ below (zQ D b post) args s 0 0 (fun q => b ≤ q)) (zW tA b sh r.2.2.2) n 0 0 291 [(0, .ref (b + (r.1))), (1, .ref (b + (r.2.1))), (2, .int (r.2.2.1))] []) → Z p l e { frames := 1, cells := 0, slots := 0, locals := 22 } s m args below meth c D b 3 (MQ below (zQ D b post) args s 0 0 (fun q => b ≤ q)) (zW tA b sh mm) n 0 0 267 [(0, .ref (b + v0)), (1, .ref (b + v1)), (2, .int v2)] [] := by
  intro fuel
  induction fuel with
  | zero =>
    intro v0 v1 v2 mm r h
    cases h
  | succ fu ih =>
    intro v0 v1 v2 mm r h hx0
    rw [L_MScene_become_267] at h
    refine zr_iload_n F zd_MScene_become_267 rfl ?_
    refine zr_bipushv (v := 48) F zd_MScene_become_268 (by decide) ?_
    refine zr_pcn 270 rfl ?_
    refine zr_icmp_ge F 291 zd_MScene_become_270 (by decide) (fun hb176 => ?_) (fun hb176 => ?_)
    ·
      rw [if_pos hb176] at h
      obtain rfl := Option.some.inj h
      refine zr_loc (L' := [(0, .ref (b + v0)), (1, .ref (b + v1)), (2, .int v2)]) ⟨rfl, rfl, rfl, trivial⟩ ?_
      exact hx0 
    ·
      rw [if_neg hb176] at h
      refine zr_aload_n F zd_MScene_become_273 rfl ?_
      obtain ⟨le178, hs177, h⟩ := zoS_s h
      obtain ⟨a179, ea179, h⟩ := zoB_s h
      refine zr_get F 15 24 zd_MScene_become_274 (zW_o hs177 (by decide)) rfl (by decide) zw_1388 rfl (by rfl) ?_
      refine zr_tor ea179 ?_
      refine zr_iload_n F zd_MScene_become_277 rfl ?_
      refine zr_aload_n F zd_MScene_become_278 rfl ?_
      obtain ⟨le181, hs180, h⟩ := zoS_s h
      obtain ⟨a182, ea182, h⟩ := zoB_s h
      refine zr_get F 15 24 zd_MScene_become_279 (zW_o hs180 (by decide)) rfl (by decide) zw_1388 rfl (by rfl) ?_
      refine zr_tor ea182 ?_
      refine zr_iload_n F zd_MScene_become_282 rfl ?_
      obtain ⟨le184, hs183, h⟩ := zoS_s h
      obtain ⟨hi185, h⟩ := zoI_s h
      refine zr_zald F zd_MScene_become_283 (zW_a3 hs183) hi185 ?_
      refine zr_pcn 284 rfl ?_
      obtain ⟨x186, ex186, h⟩ := zoL_s h
      rw [← ex186]
      obtain ⟨le188, hs187, h⟩ := zoS_s h
      obtain ⟨hi189, h⟩ := zoI_s h
      refine zr_zast F zd_MScene_become_284 (zW_a3 hs187) hi189 ?_
      obtain ⟨mm190, emm190, h⟩ := zoL_s h
      refine zr_norm (zW tA b sh mm190) _ (by rw [emm190]; exact zW_s3 hs187) rfl ?_
      refine zr_iinc (v := (v2 + 1)) F zd_MScene_become_285 rfl rfl (by decide) ?_
      refine zr_goto F 267 zd_MScene_become_288 (by decide) ?_
      refine zr_loc (L' := [(0, .ref (b + v0)), (1, .ref (b + v1)), (2, .int (v2 + 1))]) ⟨rfl, rfl, rfl, trivial⟩ ?_
      exact ih _ _ _ _ _ h hx0
def F_MScene_become (sh : zSh) (mm : zMem) (o : Nat) (x0_ : Nat) : Option zMem := zoS (sh x0_) 15 (fun le2 => zoL (mm.1 x0_ 0) (fun x3 => zoS (sh o) 15 (fun le5 => zoL (mI mm o 0 x3) (fun mm6 => zoS (sh x0_) 15 (fun le8 => zoL (mm6.1 x0_ 1) (fun x9 => zoS (sh o) 15 (fun le11 => zoL (mI mm6 o 1 x9) (fun mm12 => zoS (sh x0_) 15 (fun le14 => zoL (mm12.1 x0_ 2) (fun x15 => zoS (sh o) 15 (fun le17 => zoL (mI mm12 o 2 x15) (fun mm18 => zoS (sh x0_) 15 (fun le20 => zoL (mm18.1 x0_ 3) (fun x21 => zoS (sh o) 15 (fun le23 => zoL (mI mm18 o 3 x21) (fun mm24 => zoS (sh x0_) 15 (fun le26 => zoL (mm24.1 x0_ 4) (fun x27 => zoS (sh o) 15 (fun le29 => zoL (mI mm24 o 4 x27) (fun mm30 => zoS (sh x0_) 15 (fun le32 => zoL (mm30.1 x0_ 34) (fun x33 => zoS (sh o) 15 (fun le35 => zoL (mI mm30 o 34 x33) (fun mm36 => zoS (sh x0_) 15 (fun le38 => zoL (mm36.1 x0_ 35) (fun x39 => zoS (sh o) 15 (fun le41 => zoL (mI mm36 o 35 x39) (fun mm42 => zoS (sh x0_) 15 (fun le44 => Option.bind (mm42.2.2 x0_ 5) (fun a45 => zoS (sh o) 15 (fun le47 => Option.bind (mm42.2.2 o 5) (fun a48 => Option.bind (F_MScene_copy sh mm42 a45 a48) (fun p49 => zoS (sh x0_) 15 (fun le51 => Option.bind (p49.2.2 x0_ 6) (fun a52 => zoS (sh o) 15 (fun le54 => Option.bind (p49.2.2 o 6) (fun a55 => Option.bind (F_MScene_copy sh p49 a52 a55) (fun p56 => zoS (sh x0_) 15 (fun le58 => Option.bind (p56.2.2 x0_ 7) (fun a59 => zoS (sh o) 15 (fun le61 => Option.bind (p56.2.2 o 7) (fun a62 => Option.bind (F_MScene_copy sh p56 a59 a62) (fun p63 => zoS (sh x0_) 15 (fun le65 => Option.bind (p63.2.2 x0_ 8) (fun a66 => zoS (sh o) 15 (fun le68 => Option.bind (p63.2.2 o 8) (fun a69 => Option.bind (F_MScene_copy sh p63 a66 a69) (fun p70 => zoS (sh x0_) 15 (fun le72 => Option.bind (p70.2.2 x0_ 9) (fun a73 => zoS (sh o) 15 (fun le75 => Option.bind (p70.2.2 o 9) (fun a76 => Option.bind (F_MScene_copy sh p70 a73 a76) (fun p77 => zoS (sh x0_) 15 (fun le79 => Option.bind (p77.2.2 x0_ 10) (fun a80 => zoS (sh o) 15 (fun le82 => Option.bind (p77.2.2 o 10) (fun a83 => Option.bind (F_MScene_copy sh p77 a80 a83) (fun p84 => zoS (sh x0_) 15 (fun le86 => Option.bind (p84.2.2 x0_ 11) (fun a87 => zoS (sh o) 15 (fun le89 => Option.bind (p84.2.2 o 11) (fun a90 => Option.bind (F_MScene_copy sh p84 a87 a90) (fun p91 => zoS (sh x0_) 15 (fun le93 => Option.bind (p91.2.2 x0_ 12) (fun a94 => zoS (sh o) 15 (fun le96 => Option.bind (p91.2.2 o 12) (fun a97 => Option.bind (F_MScene_copy sh p91 a94 a97) (fun p98 => zoS (sh x0_) 15 (fun le100 => Option.bind (p98.2.2 x0_ 13) (fun a101 => zoS (sh o) 15 (fun le103 => Option.bind (p98.2.2 o 13) (fun a104 => Option.bind (F_MScene_copy sh p98 a101 a104) (fun p105 => zoS (sh x0_) 15 (fun le107 => Option.bind (p105.2.2 x0_ 14) (fun a108 => zoS (sh o) 15 (fun le110 => Option.bind (p105.2.2 o 14) (fun a111 => Option.bind (F_MScene_copy sh p105 a108 a111) (fun p112 => zoS (sh x0_) 15 (fun le114 => Option.bind (p112.2.2 x0_ 15) (fun a115 => zoS (sh o) 15 (fun le117 => Option.bind (p112.2.2 o 15) (fun a118 => Option.bind (F_MScene_copy sh p112 a115 a118) (fun p119 => zoS (sh x0_) 15 (fun le121 => Option.bind (p119.2.2 x0_ 16) (fun a122 => zoS (sh o) 15 (fun le124 => Option.bind (p119.2.2 o 16) (fun a125 => Option.bind (F_MScene_copy sh p119 a122 a125) (fun p126 => zoS (sh x0_) 15 (fun le128 => Option.bind (p126.2.2 x0_ 17) (fun a129 => zoS (sh o) 15 (fun le131 => Option.bind (p126.2.2 o 17) (fun a132 => Option.bind (F_MScene_copy sh p126 a129 a132) (fun p133 => zoS (sh x0_) 15 (fun le135 => Option.bind (p133.2.2 x0_ 18) (fun a136 => zoS (sh o) 15 (fun le138 => Option.bind (p133.2.2 o 18) (fun a139 => Option.bind (F_MScene_copy sh p133 a136 a139) (fun p140 => zoS (sh x0_) 15 (fun le142 => Option.bind (p140.2.2 x0_ 19) (fun a143 => zoS (sh o) 15 (fun le145 => Option.bind (p140.2.2 o 19) (fun a146 => Option.bind (F_MScene_copy sh p140 a143 a146) (fun p147 => zoS (sh x0_) 15 (fun le149 => Option.bind (p147.2.2 x0_ 20) (fun a150 => zoS (sh o) 15 (fun le152 => Option.bind (p147.2.2 o 20) (fun a153 => Option.bind (F_MScene_copy sh p147 a150 a153) (fun p154 => zoS (sh x0_) 15 (fun le156 => Option.bind (p154.2.2 x0_ 21) (fun a157 => zoS (sh o) 15 (fun le159 => Option.bind (p154.2.2 o 21) (fun a160 => Option.bind (F_MScene_copy sh p154 a157 a160) (fun p161 => zoS (sh x0_) 15 (fun le163 => Option.bind (p161.2.2 x0_ 22) (fun a164 => zoS (sh o) 15 (fun le166 => Option.bind (p161.2.2 o 22) (fun a167 => Option.bind (F_MScene_copy sh p161 a164 a167) (fun p168 => zoS (sh x0_) 15 (fun le170 => Option.bind (p168.2.2 x0_ 23) (fun a171 => zoS (sh o) 15 (fun le173 => Option.bind (p168.2.2 o 23) (fun a174 => Option.bind (F_MScene_copy sh p168 a171 a174) (fun p175 => Option.bind (L_MScene_become_267 sh zfuel o x0_ 0 p175) (fun q191 => zoS (sh (q191.2.1)) 15 (fun le193 => Option.bind ((q191.2.2.2).2.2 (q191.2.1) 25) (fun a194 => zoS (sh (q191.1)) 15 (fun le196 => Option.bind ((q191.2.2.2).2.2 (q191.1) 25) (fun a197 => Option.bind (F_MScene_copy sh (q191.2.2.2) a194 a197) (fun p198 => zoS (sh (q191.2.1)) 15 (fun le200 => Option.bind (p198.2.2 (q191.2.1) 26) (fun a201 => zoS (sh (q191.1)) 15 (fun le203 => Option.bind (p198.2.2 (q191.1) 26) (fun a204 => Option.bind (F_MScene_copy sh p198 a201 a204) (fun p205 => zoS (sh (q191.2.1)) 15 (fun le207 => Option.bind (p205.2.2 (q191.2.1) 27) (fun a208 => zoS (sh (q191.1)) 15 (fun le210 => Option.bind (p205.2.2 (q191.1) 27) (fun a211 => Option.bind (F_MScene_copy sh p205 a208 a211) (fun p212 => zoS (sh (q191.2.1)) 15 (fun le214 => Option.bind (p212.2.2 (q191.2.1) 28) (fun a215 => zoS (sh (q191.1)) 15 (fun le217 => Option.bind (p212.2.2 (q191.1) 28) (fun a218 => Option.bind (F_MScene_copy sh p212 a215 a218) (fun p219 => zoS (sh (q191.2.1)) 15 (fun le221 => Option.bind (p219.2.2 (q191.2.1) 29) (fun a222 => zoS (sh (q191.1)) 15 (fun le224 => Option.bind (p219.2.2 (q191.1) 29) (fun a225 => Option.bind (F_MScene_copy sh p219 a222 a225) (fun p226 => zoS (sh (q191.2.1)) 15 (fun le228 => Option.bind (p226.2.2 (q191.2.1) 30) (fun a229 => zoS (sh (q191.1)) 15 (fun le231 => Option.bind (p226.2.2 (q191.1) 30) (fun a232 => Option.bind (F_MScene_copy sh p226 a229 a232) (fun p233 => zoS (sh (q191.2.1)) 15 (fun le235 => Option.bind (p233.2.2 (q191.2.1) 31) (fun a236 => zoS (sh (q191.1)) 15 (fun le238 => Option.bind (p233.2.2 (q191.1) 31) (fun a239 => Option.bind (F_MScene_copy sh p233 a236 a239) (fun p240 => zoS (sh (q191.2.1)) 15 (fun le242 => Option.bind (p240.2.2 (q191.2.1) 32) (fun a243 => zoS (sh (q191.1)) 15 (fun le245 => Option.bind (p240.2.2 (q191.1) 32) (fun a246 => Option.bind (F_MScene_copy sh p240 a243 a246) (fun p247 => zoS (sh (q191.2.1)) 15 (fun le249 => Option.bind (p247.2.2 (q191.2.1) 33) (fun a250 => zoS (sh (q191.1)) 15 (fun le252 => Option.bind (p247.2.2 (q191.1) 33) (fun a253 => Option.bind (F_MScene_copy sh p247 a250 a253) (fun p254 => some p254)))))))))))))))))))))))))))))))))))))))))))))))))))))))))))))))))))))))))))))))))))))))))))))))))))))))))))))))))))))))))))))))))))))))))))))))))))))))))))))))))))))))))
set_option maxHeartbeats 4000000 in
set_option maxRecDepth 100000 in
theorem k_MScene_become (l : Launch) (D : va_G) (tA : Nat → ClassId) (b : Nat) (sh : zSh) (n : Nat) {mm : zMem} {o : Nat} {x0_ : Nat} {r : zMem} (h : F_MScene_become sh mm o x0_ = some r) : zM l D tA b zy_MScene_become zb_MScene_become 3 none 1 22 0 0 [.ref (b + o), .ref (b + x0_)] (zW tA b sh mm) n (zE none (zW tA b sh r) n) := by
  unfold F_MScene_become at h
  refine zM_of (own := "OrreryBoxModel$Scene") (plainFor_of_name (by decide)) rfl (Nat.le_of_ble_eq_true rfl) (fun p e s m below meth c F hr hin hH => ?_)
  refine zr_aload_n F zd_MScene_become_0 rfl ?_
  refine zr_aload_n F zd_MScene_become_1 rfl ?_
  obtain ⟨le2, hs1, h⟩ := zoS_s h
  refine zr_get F 15 0 zd_MScene_become_2 (zW_o hs1 (by decide)) rfl (by decide) zw_1315 rfl (by rfl) ?_
  obtain ⟨x3, ex3, h⟩ := zoL_s h
  rw [← ex3]
  obtain ⟨le5, hs4, h⟩ := zoS_s h
  refine zr_put F 15 0 zd_MScene_become_5 (zW_o hs4 (by decide)) rfl (by decide) zw_1315 rfl rfl rfl rfl (by exact (Nat.le_of_ble_eq_true rfl)) ?_
  obtain ⟨mm6, emm6, h⟩ := zoL_s h
  refine zr_norm (zW tA b sh mm6) _ (by rw [emm6]; exact zW_pI (v := x3) hs4 (by decide) (zf_I_15_0 b _ _ _)) rfl ?_
  refine zr_aload_n F zd_MScene_become_8 rfl ?_
  refine zr_aload_n F zd_MScene_become_9 rfl ?_
  obtain ⟨le8, hs7, h⟩ := zoS_s h
  refine zr_get F 15 1 zd_MScene_become_10 (zW_o hs7 (by decide)) rfl (by decide) zw_1318 rfl (by rfl) ?_
  refine zr_pcn 13 rfl ?_
  obtain ⟨x9, ex9, h⟩ := zoL_s h
  rw [← ex9]
  obtain ⟨le11, hs10, h⟩ := zoS_s h
  refine zr_put F 15 1 zd_MScene_become_13 (zW_o hs10 (by decide)) rfl (by decide) zw_1318 rfl rfl rfl rfl (by exact (Nat.le_of_ble_eq_true rfl)) ?_
  obtain ⟨mm12, emm12, h⟩ := zoL_s h
  refine zr_norm (zW tA b sh mm12) _ (by rw [emm12]; exact zW_pI (v := x9) hs10 (by decide) (zf_I_15_1 b _ _ _)) rfl ?_
  refine zr_aload_n F zd_MScene_become_16 rfl ?_
  refine zr_aload_n F zd_MScene_become_17 rfl ?_
  obtain ⟨le14, hs13, h⟩ := zoS_s h
  refine zr_get F 15 2 zd_MScene_become_18 (zW_o hs13 (by decide)) rfl (by decide) zw_1321 rfl (by rfl) ?_
  obtain ⟨x15, ex15, h⟩ := zoL_s h
  rw [← ex15]
  obtain ⟨le17, hs16, h⟩ := zoS_s h
  refine zr_put F 15 2 zd_MScene_become_21 (zW_o hs16 (by decide)) rfl (by decide) zw_1321 rfl rfl rfl rfl (by exact (Nat.le_of_ble_eq_true rfl)) ?_
  obtain ⟨mm18, emm18, h⟩ := zoL_s h
  refine zr_norm (zW tA b sh mm18) _ (by rw [emm18]; exact zW_pI (v := x15) hs16 (by decide) (zf_I_15_2 b _ _ _)) rfl ?_
  refine zr_aload_n F zd_MScene_become_24 rfl ?_
  refine zr_aload_n F zd_MScene_become_25 rfl ?_
  obtain ⟨le20, hs19, h⟩ := zoS_s h
  refine zr_get F 15 3 zd_MScene_become_26 (zW_o hs19 (by decide)) rfl (by decide) zw_1324 rfl (by rfl) ?_
  refine zr_pcn 29 rfl ?_
  obtain ⟨x21, ex21, h⟩ := zoL_s h
  rw [← ex21]
  obtain ⟨le23, hs22, h⟩ := zoS_s h
  refine zr_put F 15 3 zd_MScene_become_29 (zW_o hs22 (by decide)) rfl (by decide) zw_1324 rfl rfl rfl rfl (by exact (Nat.le_of_ble_eq_true rfl)) ?_
  obtain ⟨mm24, emm24, h⟩ := zoL_s h
  refine zr_norm (zW tA b sh mm24) _ (by rw [emm24]; exact zW_pI (v := x21) hs22 (by decide) (zf_I_15_3 b _ _ _)) rfl ?_
  refine zr_aload_n F zd_MScene_become_32 rfl ?_
  refine zr_aload_n F zd_MScene_become_33 rfl ?_
  obtain ⟨le26, hs25, h⟩ := zoS_s h
  refine zr_get F 15 4 zd_MScene_become_34 (zW_o hs25 (by decide)) rfl (by decide) zw_1328 rfl (by rfl) ?_
  obtain ⟨x27, ex27, h⟩ := zoL_s h
  rw [← ex27]
  obtain ⟨le29, hs28, h⟩ := zoS_s h
  refine zr_put F 15 4 zd_MScene_become_37 (zW_o hs28 (by decide)) rfl (by decide) zw_1328 rfl rfl rfl rfl (by exact (Nat.le_of_ble_eq_true rfl)) ?_
  obtain ⟨mm30, emm30, h⟩ := zoL_s h
  refine zr_norm (zW tA b sh mm30) _ (by rw [emm30]; exact zW_pI (v := x27) hs28 (by decide) (zf_I_15_4 b _ _ _)) rfl ?_
  refine zr_aload_n F zd_MScene_become_40 rfl ?_
  refine zr_aload_n F zd_MScene_become_41 rfl ?_
  obtain ⟨le32, hs31, h⟩ := zoS_s h
  refine zr_get F 15 34 zd_MScene_become_42 (zW_o hs31 (by decide)) rfl (by decide) zw_1416 rfl (by rfl) ?_
  refine zr_pcn 45 rfl ?_
  obtain ⟨x33, ex33, h⟩ := zoL_s h
  rw [← ex33]
  obtain ⟨le35, hs34, h⟩ := zoS_s h
  refine zr_put F 15 34 zd_MScene_become_45 (zW_o hs34 (by decide)) rfl (by decide) zw_1416 rfl rfl rfl rfl (by exact (Nat.le_of_ble_eq_true rfl)) ?_
  obtain ⟨mm36, emm36, h⟩ := zoL_s h
  refine zr_norm (zW tA b sh mm36) _ (by rw [emm36]; exact zW_pI (v := x33) hs34 (by decide) (zf_I_15_34 b _ _ _)) rfl ?_
  refine zr_aload_n F zd_MScene_become_48 rfl ?_
  refine zr_aload_n F zd_MScene_become_49 rfl ?_
  obtain ⟨le38, hs37, h⟩ := zoS_s h
  refine zr_get F 15 35 zd_MScene_become_50 (zW_o hs37 (by decide)) rfl (by decide) zw_1420 rfl (by rfl) ?_
  obtain ⟨x39, ex39, h⟩ := zoL_s h
  rw [← ex39]
  obtain ⟨le41, hs40, h⟩ := zoS_s h
  refine zr_put F 15 35 zd_MScene_become_53 (zW_o hs40 (by decide)) rfl (by decide) zw_1420 rfl rfl rfl rfl (by exact (Nat.le_of_ble_eq_true rfl)) ?_
  obtain ⟨mm42, emm42, h⟩ := zoL_s h
  refine zr_norm (zW tA b sh mm42) _ (by rw [emm42]; exact zW_pI (v := x39) hs40 (by decide) (zf_I_15_35 b _ _ _)) rfl ?_
  refine zr_aload_n F zd_MScene_become_56 rfl ?_
  obtain ⟨le44, hs43, h⟩ := zoS_s h
  obtain ⟨a45, ea45, h⟩ := zoB_s h
  refine zr_get F 15 5 zd_MScene_become_57 (zW_o hs43 (by decide)) rfl (by decide) zw_1331 rfl (by rfl) ?_
  refine zr_tor ea45 ?_
  refine zr_aload_n F zd_MScene_become_60 rfl ?_
  refine zr_pcn 61 rfl ?_
  obtain ⟨le47, hs46, h⟩ := zoS_s h
  obtain ⟨a48, ea48, h⟩ := zoB_s h
  refine zr_get F 15 5 zd_MScene_become_61 (zW_o hs46 (by decide)) rfl (by decide) zw_1331 rfl (by rfl) ?_
  refine zr_tor ea48 ?_
  obtain ⟨p49, ep49, h⟩ := zoB_s h
  refine zr_callS0 F (k_MScene_copy l D tA b sh _ ep49) zd_MScene_become_64 zs_MScene_121 zq_MScene_copy rfl rfl ⟨(Nat.le_of_ble_eq_true rfl), (Nat.le_of_ble_eq_true rfl)⟩ (Nat.le_of_ble_eq_true rfl) ⟨(Nat.le_of_ble_eq_true rfl), (Nat.le_of_ble_eq_true rfl)⟩ ?_
  refine zr_aload_n F zd_MScene_become_67 rfl ?_
  obtain ⟨le51, hs50, h⟩ := zoS_s h
  obtain ⟨a52, ea52, h⟩ := zoB_s h
  refine zr_get F 15 6 zd_MScene_become_68 (zW_o hs50 (by decide)) rfl (by decide) zw_1334 rfl (by rfl) ?_
  refine zr_tor ea52 ?_
  refine zr_aload_n F zd_MScene_become_71 rfl ?_
  obtain ⟨le54, hs53, h⟩ := zoS_s h
  obtain ⟨a55, ea55, h⟩ := zoB_s h
  refine zr_get F 15 6 zd_MScene_become_72 (zW_o hs53 (by decide)) rfl (by decide) zw_1334 rfl (by rfl) ?_
  refine zr_tor ea55 ?_
  obtain ⟨p56, ep56, h⟩ := zoB_s h
  refine zr_callS0 F (k_MScene_copy l D tA b sh _ ep56) zd_MScene_become_75 zs_MScene_121 zq_MScene_copy rfl rfl ⟨(Nat.le_of_ble_eq_true rfl), (Nat.le_of_ble_eq_true rfl)⟩ (Nat.le_of_ble_eq_true rfl) ⟨(Nat.le_of_ble_eq_true rfl), (Nat.le_of_ble_eq_true rfl)⟩ ?_
  refine zr_aload_n F zd_MScene_become_78 rfl ?_
  refine zr_pcn 79 rfl ?_
  obtain ⟨le58, hs57, h⟩ := zoS_s h
  obtain ⟨a59, ea59, h⟩ := zoB_s h
  refine zr_get F 15 7 zd_MScene_become_79 (zW_o hs57 (by decide)) rfl (by decide) zw_1337 rfl (by rfl) ?_
  refine zr_tor ea59 ?_
  refine zr_aload_n F zd_MScene_become_82 rfl ?_
  obtain ⟨le61, hs60, h⟩ := zoS_s h
  obtain ⟨a62, ea62, h⟩ := zoB_s h
  refine zr_get F 15 7 zd_MScene_become_83 (zW_o hs60 (by decide)) rfl (by decide) zw_1337 rfl (by rfl) ?_
  refine zr_tor ea62 ?_
  obtain ⟨p63, ep63, h⟩ := zoB_s h
  refine zr_callS0 F (k_MScene_copy l D tA b sh _ ep63) zd_MScene_become_86 zs_MScene_121 zq_MScene_copy rfl rfl ⟨(Nat.le_of_ble_eq_true rfl), (Nat.le_of_ble_eq_true rfl)⟩ (Nat.le_of_ble_eq_true rfl) ⟨(Nat.le_of_ble_eq_true rfl), (Nat.le_of_ble_eq_true rfl)⟩ ?_
  refine zr_aload_n F zd_MScene_become_89 rfl ?_
  obtain ⟨le65, hs64, h⟩ := zoS_s h
  obtain ⟨a66, ea66, h⟩ := zoB_s h
  refine zr_get F 15 8 zd_MScene_become_90 (zW_o hs64 (by decide)) rfl (by decide) zw_1340 rfl (by rfl) ?_
  refine zr_tor ea66 ?_
  refine zr_aload_n F zd_MScene_become_93 rfl ?_
  obtain ⟨le68, hs67, h⟩ := zoS_s h
  obtain ⟨a69, ea69, h⟩ := zoB_s h
  refine zr_get F 15 8 zd_MScene_become_94 (zW_o hs67 (by decide)) rfl (by decide) zw_1340 rfl (by rfl) ?_
  refine zr_tor ea69 ?_
  refine zr_pcn 97 rfl ?_
  obtain ⟨p70, ep70, h⟩ := zoB_s h
  refine zr_callS0 F (k_MScene_copy l D tA b sh _ ep70) zd_MScene_become_97 zs_MScene_121 zq_MScene_copy rfl rfl ⟨(Nat.le_of_ble_eq_true rfl), (Nat.le_of_ble_eq_true rfl)⟩ (Nat.le_of_ble_eq_true rfl) ⟨(Nat.le_of_ble_eq_true rfl), (Nat.le_of_ble_eq_true rfl)⟩ ?_
  refine zr_aload_n F zd_MScene_become_100 rfl ?_
  obtain ⟨le72, hs71, h⟩ := zoS_s h
  obtain ⟨a73, ea73, h⟩ := zoB_s h
  refine zr_get F 15 9 zd_MScene_become_101 (zW_o hs71 (by decide)) rfl (by decide) zw_1343 rfl (by rfl) ?_
  refine zr_tor ea73 ?_
  refine zr_aload_n F zd_MScene_become_104 rfl ?_
  obtain ⟨le75, hs74, h⟩ := zoS_s h
  obtain ⟨a76, ea76, h⟩ := zoB_s h
  refine zr_get F 15 9 zd_MScene_become_105 (zW_o hs74 (by decide)) rfl (by decide) zw_1343 rfl (by rfl) ?_
  refine zr_tor ea76 ?_
  obtain ⟨p77, ep77, h⟩ := zoB_s h
  refine zr_callS0 F (k_MScene_copy l D tA b sh _ ep77) zd_MScene_become_108 zs_MScene_121 zq_MScene_copy rfl rfl ⟨(Nat.le_of_ble_eq_true rfl), (Nat.le_of_ble_eq_true rfl)⟩ (Nat.le_of_ble_eq_true rfl) ⟨(Nat.le_of_ble_eq_true rfl), (Nat.le_of_ble_eq_true rfl)⟩ ?_
  refine zr_aload_n F zd_MScene_become_111 rfl ?_
  obtain ⟨le79, hs78, h⟩ := zoS_s h
  obtain ⟨a80, ea80, h⟩ := zoB_s h
  refine zr_get F 15 10 zd_MScene_become_112 (zW_o hs78 (by decide)) rfl (by decide) zw_1346 rfl (by rfl) ?_
  refine zr_tor ea80 ?_
  refine zr_pcn 115 rfl ?_
  refine zr_aload_n F zd_MScene_become_115 rfl ?_
  obtain ⟨le82, hs81, h⟩ := zoS_s h
  obtain ⟨a83, ea83, h⟩ := zoB_s h
  refine zr_get F 15 10 zd_MScene_become_116 (zW_o hs81 (by decide)) rfl (by decide) zw_1346 rfl (by rfl) ?_
  refine zr_tor ea83 ?_
  obtain ⟨p84, ep84, h⟩ := zoB_s h
  refine zr_callS0 F (k_MScene_copy l D tA b sh _ ep84) zd_MScene_become_119 zs_MScene_121 zq_MScene_copy rfl rfl ⟨(Nat.le_of_ble_eq_true rfl), (Nat.le_of_ble_eq_true rfl)⟩ (Nat.le_of_ble_eq_true rfl) ⟨(Nat.le_of_ble_eq_true rfl), (Nat.le_of_ble_eq_true rfl)⟩ ?_
  refine zr_aload_n F zd_MScene_become_122 rfl ?_
  obtain ⟨le86, hs85, h⟩ := zoS_s h
  obtain ⟨a87, ea87, h⟩ := zoB_s h
  refine zr_get F 15 11 zd_MScene_become_123 (zW_o hs85 (by decide)) rfl (by decide) zw_1349 rfl (by rfl) ?_
  refine zr_tor ea87 ?_
  refine zr_aload_n F zd_MScene_become_126 rfl ?_
  obtain ⟨le89, hs88, h⟩ := zoS_s h
  obtain ⟨a90, ea90, h⟩ := zoB_s h
  refine zr_get F 15 11 zd_MScene_become_127 (zW_o hs88 (by decide)) rfl (by decide) zw_1349 rfl (by rfl) ?_
  refine zr_tor ea90 ?_
  obtain ⟨p91, ep91, h⟩ := zoB_s h
  refine zr_callS0 F (k_MScene_copy l D tA b sh _ ep91) zd_MScene_become_130 zs_MScene_121 zq_MScene_copy rfl rfl ⟨(Nat.le_of_ble_eq_true rfl), (Nat.le_of_ble_eq_true rfl)⟩ (Nat.le_of_ble_eq_true rfl) ⟨(Nat.le_of_ble_eq_true rfl), (Nat.le_of_ble_eq_true rfl)⟩ ?_
  refine zr_pcn 133 rfl ?_
  refine zr_aload_n F zd_MScene_become_133 rfl ?_
  obtain ⟨le93, hs92, h⟩ := zoS_s h
  obtain ⟨a94, ea94, h⟩ := zoB_s h
  refine zr_get F 15 12 zd_MScene_become_134 (zW_o hs92 (by decide)) rfl (by decide) zw_1352 rfl (by rfl) ?_
  refine zr_tor ea94 ?_
  refine zr_aload_n F zd_MScene_become_137 rfl ?_
  obtain ⟨le96, hs95, h⟩ := zoS_s h
  obtain ⟨a97, ea97, h⟩ := zoB_s h
  refine zr_get F 15 12 zd_MScene_become_138 (zW_o hs95 (by decide)) rfl (by decide) zw_1352 rfl (by rfl) ?_
  refine zr_tor ea97 ?_
  obtain ⟨p98, ep98, h⟩ := zoB_s h
  refine zr_callS0 F (k_MScene_copy l D tA b sh _ ep98) zd_MScene_become_141 zs_MScene_121 zq_MScene_copy rfl rfl ⟨(Nat.le_of_ble_eq_true rfl), (Nat.le_of_ble_eq_true rfl)⟩ (Nat.le_of_ble_eq_true rfl) ⟨(Nat.le_of_ble_eq_true rfl), (Nat.le_of_ble_eq_true rfl)⟩ ?_
  refine zr_aload_n F zd_MScene_become_144 rfl ?_
  obtain ⟨le100, hs99, h⟩ := zoS_s h
  obtain ⟨a101, ea101, h⟩ := zoB_s h
  refine zr_get F 15 13 zd_MScene_become_145 (zW_o hs99 (by decide)) rfl (by decide) zw_1355 rfl (by rfl) ?_
  refine zr_tor ea101 ?_
  refine zr_aload_n F zd_MScene_become_148 rfl ?_
  refine zr_pcn 149 rfl ?_
  obtain ⟨le103, hs102, h⟩ := zoS_s h
  obtain ⟨a104, ea104, h⟩ := zoB_s h
  refine zr_get F 15 13 zd_MScene_become_149 (zW_o hs102 (by decide)) rfl (by decide) zw_1355 rfl (by rfl) ?_
  refine zr_tor ea104 ?_
  obtain ⟨p105, ep105, h⟩ := zoB_s h
  refine zr_callS0 F (k_MScene_copy l D tA b sh _ ep105) zd_MScene_become_152 zs_MScene_121 zq_MScene_copy rfl rfl ⟨(Nat.le_of_ble_eq_true rfl), (Nat.le_of_ble_eq_true rfl)⟩ (Nat.le_of_ble_eq_true rfl) ⟨(Nat.le_of_ble_eq_true rfl), (Nat.le_of_ble_eq_true rfl)⟩ ?_
  refine zr_aload_n F zd_MScene_become_155 rfl ?_
  obtain ⟨le107, hs106, h⟩ := zoS_s h
  obtain ⟨a108, ea108, h⟩ := zoB_s h
  refine zr_get F 15 14 zd_MScene_become_156 (zW_o hs106 (by decide)) rfl (by decide) zw_1357 rfl (by rfl) ?_
  refine zr_tor ea108 ?_
  refine zr_aload_n F zd_MScene_become_159 rfl ?_
  obtain ⟨le110, hs109, h⟩ := zoS_s h
  obtain ⟨a111, ea111, h⟩ := zoB_s h
  refine zr_get F 15 14 zd_MScene_become_160 (zW_o hs109 (by decide)) rfl (by decide) zw_1357 rfl (by rfl) ?_
  refine zr_tor ea111 ?_
  obtain ⟨p112, ep112, h⟩ := zoB_s h
  refine zr_callS0 F (k_MScene_copy l D tA b sh _ ep112) zd_MScene_become_163 zs_MScene_121 zq_MScene_copy rfl rfl ⟨(Nat.le_of_ble_eq_true rfl), (Nat.le_of_ble_eq_true rfl)⟩ (Nat.le_of_ble_eq_true rfl) ⟨(Nat.le_of_ble_eq_true rfl), (Nat.le_of_ble_eq_true rfl)⟩ ?_
  refine zr_aload_n F zd_MScene_become_166 rfl ?_
  refine zr_pcn 167 rfl ?_
  obtain ⟨le114, hs113, h⟩ := zoS_s h
  obtain ⟨a115, ea115, h⟩ := zoB_s h
  refine zr_get F 15 15 zd_MScene_become_167 (zW_o hs113 (by decide)) rfl (by decide) zw_1360 rfl (by rfl) ?_
  refine zr_tor ea115 ?_
  refine zr_aload_n F zd_MScene_become_170 rfl ?_
  obtain ⟨le117, hs116, h⟩ := zoS_s h
  obtain ⟨a118, ea118, h⟩ := zoB_s h
  refine zr_get F 15 15 zd_MScene_become_171 (zW_o hs116 (by decide)) rfl (by decide) zw_1360 rfl (by rfl) ?_
  refine zr_tor ea118 ?_
  obtain ⟨p119, ep119, h⟩ := zoB_s h
  refine zr_callS0 F (k_MScene_copy l D tA b sh _ ep119) zd_MScene_become_174 zs_MScene_121 zq_MScene_copy rfl rfl ⟨(Nat.le_of_ble_eq_true rfl), (Nat.le_of_ble_eq_true rfl)⟩ (Nat.le_of_ble_eq_true rfl) ⟨(Nat.le_of_ble_eq_true rfl), (Nat.le_of_ble_eq_true rfl)⟩ ?_
  refine zr_aload_n F zd_MScene_become_177 rfl ?_
  obtain ⟨le121, hs120, h⟩ := zoS_s h
  obtain ⟨a122, ea122, h⟩ := zoB_s h
  refine zr_get F 15 16 zd_MScene_become_178 (zW_o hs120 (by decide)) rfl (by decide) zw_1363 rfl (by rfl) ?_
  refine zr_tor ea122 ?_
  refine zr_aload_n F zd_MScene_become_181 rfl ?_
  obtain ⟨le124, hs123, h⟩ := zoS_s h
  obtain ⟨a125, ea125, h⟩ := zoB_s h
  refine zr_get F 15 16 zd_MScene_become_182 (zW_o hs123 (by decide)) rfl (by decide) zw_1363 rfl (by rfl) ?_
  refine zr_tor ea125 ?_
  refine zr_pcn 185 rfl ?_
  obtain ⟨p126, ep126, h⟩ := zoB_s h
  refine zr_callS0 F (k_MScene_copy l D tA b sh _ ep126) zd_MScene_become_185 zs_MScene_121 zq_MScene_copy rfl rfl ⟨(Nat.le_of_ble_eq_true rfl), (Nat.le_of_ble_eq_true rfl)⟩ (Nat.le_of_ble_eq_true rfl) ⟨(Nat.le_of_ble_eq_true rfl), (Nat.le_of_ble_eq_true rfl)⟩ ?_
  refine zr_aload_n F zd_MScene_become_188 rfl ?_
  obtain ⟨le128, hs127, h⟩ := zoS_s h
  obtain ⟨a129, ea129, h⟩ := zoB_s h
  refine zr_get F 15 17 zd_MScene_become_189 (zW_o hs127 (by decide)) rfl (by decide) zw_1366 rfl (by rfl) ?_
  refine zr_tor ea129 ?_
  refine zr_aload_n F zd_MScene_become_192 rfl ?_
  obtain ⟨le131, hs130, h⟩ := zoS_s h
  obtain ⟨a132, ea132, h⟩ := zoB_s h
  refine zr_get F 15 17 zd_MScene_become_193 (zW_o hs130 (by decide)) rfl (by decide) zw_1366 rfl (by rfl) ?_
  refine zr_tor ea132 ?_
  obtain ⟨p133, ep133, h⟩ := zoB_s h
  refine zr_callS0 F (k_MScene_copy l D tA b sh _ ep133) zd_MScene_become_196 zs_MScene_121 zq_MScene_copy rfl rfl ⟨(Nat.le_of_ble_eq_true rfl), (Nat.le_of_ble_eq_true rfl)⟩ (Nat.le_of_ble_eq_true rfl) ⟨(Nat.le_of_ble_eq_true rfl), (Nat.le_of_ble_eq_true rfl)⟩ ?_
  refine zr_aload_n F zd_MScene_become_199 rfl ?_
  obtain ⟨le135, hs134, h⟩ := zoS_s h
  obtain ⟨a136, ea136, h⟩ := zoB_s h
  refine zr_get F 15 18 zd_MScene_become_200 (zW_o hs134 (by decide)) rfl (by decide) zw_1369 rfl (by rfl) ?_
  refine zr_tor ea136 ?_
  refine zr_pcn 203 rfl ?_
  refine zr_aload_n F zd_MScene_become_203 rfl ?_
  obtain ⟨le138, hs137, h⟩ := zoS_s h
  obtain ⟨a139, ea139, h⟩ := zoB_s h
  refine zr_get F 15 18 zd_MScene_become_204 (zW_o hs137 (by decide)) rfl (by decide) zw_1369 rfl (by rfl) ?_
  refine zr_tor ea139 ?_
  obtain ⟨p140, ep140, h⟩ := zoB_s h
  refine zr_callS0 F (k_MScene_copy l D tA b sh _ ep140) zd_MScene_become_207 zs_MScene_121 zq_MScene_copy rfl rfl ⟨(Nat.le_of_ble_eq_true rfl), (Nat.le_of_ble_eq_true rfl)⟩ (Nat.le_of_ble_eq_true rfl) ⟨(Nat.le_of_ble_eq_true rfl), (Nat.le_of_ble_eq_true rfl)⟩ ?_
  refine zr_aload_n F zd_MScene_become_210 rfl ?_
  obtain ⟨le142, hs141, h⟩ := zoS_s h
  obtain ⟨a143, ea143, h⟩ := zoB_s h
  refine zr_get F 15 19 zd_MScene_become_211 (zW_o hs141 (by decide)) rfl (by decide) zw_1372 rfl (by rfl) ?_
  refine zr_tor ea143 ?_
  refine zr_aload_n F zd_MScene_become_214 rfl ?_
  obtain ⟨le145, hs144, h⟩ := zoS_s h
  obtain ⟨a146, ea146, h⟩ := zoB_s h
  refine zr_get F 15 19 zd_MScene_become_215 (zW_o hs144 (by decide)) rfl (by decide) zw_1372 rfl (by rfl) ?_
  refine zr_tor ea146 ?_
  obtain ⟨p147, ep147, h⟩ := zoB_s h
  refine zr_callS0 F (k_MScene_copy l D tA b sh _ ep147) zd_MScene_become_218 zs_MScene_121 zq_MScene_copy rfl rfl ⟨(Nat.le_of_ble_eq_true rfl), (Nat.le_of_ble_eq_true rfl)⟩ (Nat.le_of_ble_eq_true rfl) ⟨(Nat.le_of_ble_eq_true rfl), (Nat.le_of_ble_eq_true rfl)⟩ ?_
  refine zr_pcn 221 rfl ?_
  refine zr_aload_n F zd_MScene_become_221 rfl ?_
  obtain ⟨le149, hs148, h⟩ := zoS_s h
  obtain ⟨a150, ea150, h⟩ := zoB_s h
  refine zr_get F 15 20 zd_MScene_become_222 (zW_o hs148 (by decide)) rfl (by decide) zw_1376 rfl (by rfl) ?_
  refine zr_tor ea150 ?_
  refine zr_aload_n F zd_MScene_become_225 rfl ?_
  obtain ⟨le152, hs151, h⟩ := zoS_s h
  obtain ⟨a153, ea153, h⟩ := zoB_s h
  refine zr_get F 15 20 zd_MScene_become_226 (zW_o hs151 (by decide)) rfl (by decide) zw_1376 rfl (by rfl) ?_
  refine zr_tor ea153 ?_
  obtain ⟨p154, ep154, h⟩ := zoB_s h
  refine zr_callS0 F (k_MScene_copy l D tA b sh _ ep154) zd_MScene_become_229 zs_MScene_121 zq_MScene_copy rfl rfl ⟨(Nat.le_of_ble_eq_true rfl), (Nat.le_of_ble_eq_true rfl)⟩ (Nat.le_of_ble_eq_true rfl) ⟨(Nat.le_of_ble_eq_true rfl), (Nat.le_of_ble_eq_true rfl)⟩ ?_
  refine zr_aload_n F zd_MScene_become_232 rfl ?_
  obtain ⟨le156, hs155, h⟩ := zoS_s h
  obtain ⟨a157, ea157, h⟩ := zoB_s h
  refine zr_get F 15 21 zd_MScene_become_233 (zW_o hs155 (by decide)) rfl (by decide) zw_1379 rfl (by rfl) ?_
  refine zr_tor ea157 ?_
  refine zr_aload_n F zd_MScene_become_236 rfl ?_
  refine zr_pcn 237 rfl ?_
  obtain ⟨le159, hs158, h⟩ := zoS_s h
  obtain ⟨a160, ea160, h⟩ := zoB_s h
  refine zr_get F 15 21 zd_MScene_become_237 (zW_o hs158 (by decide)) rfl (by decide) zw_1379 rfl (by rfl) ?_
  refine zr_tor ea160 ?_
  obtain ⟨p161, ep161, h⟩ := zoB_s h
  refine zr_callS0 F (k_MScene_copy l D tA b sh _ ep161) zd_MScene_become_240 zs_MScene_121 zq_MScene_copy rfl rfl ⟨(Nat.le_of_ble_eq_true rfl), (Nat.le_of_ble_eq_true rfl)⟩ (Nat.le_of_ble_eq_true rfl) ⟨(Nat.le_of_ble_eq_true rfl), (Nat.le_of_ble_eq_true rfl)⟩ ?_
  refine zr_aload_n F zd_MScene_become_243 rfl ?_
  obtain ⟨le163, hs162, h⟩ := zoS_s h
  obtain ⟨a164, ea164, h⟩ := zoB_s h
  refine zr_get F 15 22 zd_MScene_become_244 (zW_o hs162 (by decide)) rfl (by decide) zw_1382 rfl (by rfl) ?_
  refine zr_tor ea164 ?_
  refine zr_aload_n F zd_MScene_become_247 rfl ?_
  obtain ⟨le166, hs165, h⟩ := zoS_s h
  obtain ⟨a167, ea167, h⟩ := zoB_s h
  refine zr_get F 15 22 zd_MScene_become_248 (zW_o hs165 (by decide)) rfl (by decide) zw_1382 rfl (by rfl) ?_
  refine zr_tor ea167 ?_
  obtain ⟨p168, ep168, h⟩ := zoB_s h
  refine zr_callS0 F (k_MScene_copy l D tA b sh _ ep168) zd_MScene_become_251 zs_MScene_121 zq_MScene_copy rfl rfl ⟨(Nat.le_of_ble_eq_true rfl), (Nat.le_of_ble_eq_true rfl)⟩ (Nat.le_of_ble_eq_true rfl) ⟨(Nat.le_of_ble_eq_true rfl), (Nat.le_of_ble_eq_true rfl)⟩ ?_
  refine zr_aload_n F zd_MScene_become_254 rfl ?_
  refine zr_pcn 255 rfl ?_
  obtain ⟨le170, hs169, h⟩ := zoS_s h
  obtain ⟨a171, ea171, h⟩ := zoB_s h
  refine zr_get F 15 23 zd_MScene_become_255 (zW_o hs169 (by decide)) rfl (by decide) zw_1385 rfl (by rfl) ?_
  refine zr_tor ea171 ?_
  refine zr_aload_n F zd_MScene_become_258 rfl ?_
  obtain ⟨le173, hs172, h⟩ := zoS_s h
  obtain ⟨a174, ea174, h⟩ := zoB_s h
  refine zr_get F 15 23 zd_MScene_become_259 (zW_o hs172 (by decide)) rfl (by decide) zw_1385 rfl (by rfl) ?_
  refine zr_tor ea174 ?_
  obtain ⟨p175, ep175, h⟩ := zoB_s h
  refine zr_callS0 F (k_MScene_copy l D tA b sh _ ep175) zd_MScene_become_262 zs_MScene_121 zq_MScene_copy rfl rfl ⟨(Nat.le_of_ble_eq_true rfl), (Nat.le_of_ble_eq_true rfl)⟩ (Nat.le_of_ble_eq_true rfl) ⟨(Nat.le_of_ble_eq_true rfl), (Nat.le_of_ble_eq_true rfl)⟩ ?_
  refine zr_iconstv (v := 0) F zd_MScene_become_265 (by decide) ?_
  refine zr_istore_n F zd_MScene_become_266 (by decide) ?_
  obtain ⟨q191, eq191, h⟩ := zoB_s h
  refine zr_loc (L' := [(0, .ref (b + o)), (1, .ref (b + x0_)), (2, .int 0)]) ⟨rfl, rfl, rfl, trivial⟩ ?_
  refine lp_MScene_become_267 F _ _ _ _ _ _ eq191 ?_
  ·
    refine zr_aload_n F zd_MScene_become_291 rfl ?_
    obtain ⟨le193, hs192, h⟩ := zoS_s h
    obtain ⟨a194, ea194, h⟩ := zoB_s h
    refine zr_get F 15 25 zd_MScene_become_292 (zW_o hs192 (by decide)) rfl (by decide) zw_1392 rfl (by rfl) ?_
    refine zr_tor ea194 ?_
    refine zr_aload_n F zd_MScene_become_295 rfl ?_
    obtain ⟨le196, hs195, h⟩ := zoS_s h
    obtain ⟨a197, ea197, h⟩ := zoB_s h
    refine zr_get F 15 25 zd_MScene_become_296 (zW_o hs195 (by decide)) rfl (by decide) zw_1392 rfl (by rfl) ?_
    refine zr_tor ea197 ?_
    obtain ⟨p198, ep198, h⟩ := zoB_s h
    refine zr_callS0 F (k_MScene_copy l D tA b sh _ ep198) zd_MScene_become_299 zs_MScene_121 zq_MScene_copy rfl rfl ⟨(Nat.le_of_ble_eq_true rfl), (Nat.le_of_ble_eq_true rfl)⟩ (Nat.le_of_ble_eq_true rfl) ⟨(Nat.le_of_ble_eq_true rfl), (Nat.le_of_ble_eq_true rfl)⟩ ?_
    refine zr_pcn 302 rfl ?_
    refine zr_aload_n F zd_MScene_become_302 rfl ?_
    obtain ⟨le200, hs199, h⟩ := zoS_s h
    obtain ⟨a201, ea201, h⟩ := zoB_s h
    refine zr_get F 15 26 zd_MScene_become_303 (zW_o hs199 (by decide)) rfl (by decide) zw_1394 rfl (by rfl) ?_
    refine zr_tor ea201 ?_
    refine zr_aload_n F zd_MScene_become_306 rfl ?_
    obtain ⟨le203, hs202, h⟩ := zoS_s h
    obtain ⟨a204, ea204, h⟩ := zoB_s h
    refine zr_get F 15 26 zd_MScene_become_307 (zW_o hs202 (by decide)) rfl (by decide) zw_1394 rfl (by rfl) ?_
    refine zr_tor ea204 ?_
    obtain ⟨p205, ep205, h⟩ := zoB_s h
    refine zr_callS0 F (k_MScene_copy l D tA b sh _ ep205) zd_MScene_become_310 zs_MScene_121 zq_MScene_copy rfl rfl ⟨(Nat.le_of_ble_eq_true rfl), (Nat.le_of_ble_eq_true rfl)⟩ (Nat.le_of_ble_eq_true rfl) ⟨(Nat.le_of_ble_eq_true rfl), (Nat.le_of_ble_eq_true rfl)⟩ ?_
    refine zr_aload_n F zd_MScene_become_313 rfl ?_
    obtain ⟨le207, hs206, h⟩ := zoS_s h
    obtain ⟨a208, ea208, h⟩ := zoB_s h
    refine zr_get F 15 27 zd_MScene_become_314 (zW_o hs206 (by decide)) rfl (by decide) zw_1396 rfl (by rfl) ?_
    refine zr_tor ea208 ?_
    refine zr_aload_n F zd_MScene_become_317 rfl ?_
    refine zr_pcn 318 rfl ?_
    obtain ⟨le210, hs209, h⟩ := zoS_s h
    obtain ⟨a211, ea211, h⟩ := zoB_s h
    refine zr_get F 15 27 zd_MScene_become_318 (zW_o hs209 (by decide)) rfl (by decide) zw_1396 rfl (by rfl) ?_
    refine zr_tor ea211 ?_
    obtain ⟨p212, ep212, h⟩ := zoB_s h
    refine zr_callS0 F (k_MScene_copy l D tA b sh _ ep212) zd_MScene_become_321 zs_MScene_121 zq_MScene_copy rfl rfl ⟨(Nat.le_of_ble_eq_true rfl), (Nat.le_of_ble_eq_true rfl)⟩ (Nat.le_of_ble_eq_true rfl) ⟨(Nat.le_of_ble_eq_true rfl), (Nat.le_of_ble_eq_true rfl)⟩ ?_
    refine zr_aload_n F zd_MScene_become_324 rfl ?_
    obtain ⟨le214, hs213, h⟩ := zoS_s h
    obtain ⟨a215, ea215, h⟩ := zoB_s h
    refine zr_get F 15 28 zd_MScene_become_325 (zW_o hs213 (by decide)) rfl (by decide) zw_1398 rfl (by rfl) ?_
    refine zr_tor ea215 ?_
    refine zr_aload_n F zd_MScene_become_328 rfl ?_
    obtain ⟨le217, hs216, h⟩ := zoS_s h
    obtain ⟨a218, ea218, h⟩ := zoB_s h
    refine zr_get F 15 28 zd_MScene_become_329 (zW_o hs216 (by decide)) rfl (by decide) zw_1398 rfl (by rfl) ?_
    refine zr_tor ea218 ?_
    obtain ⟨p219, ep219, h⟩ := zoB_s h
    refine zr_callS0 F (k_MScene_copy l D tA b sh _ ep219) zd_MScene_become_332 zs_MScene_121 zq_MScene_copy rfl rfl ⟨(Nat.le_of_ble_eq_true rfl), (Nat.le_of_ble_eq_true rfl)⟩ (Nat.le_of_ble_eq_true rfl) ⟨(Nat.le_of_ble_eq_true rfl), (Nat.le_of_ble_eq_true rfl)⟩ ?_
    refine zr_aload_n F zd_MScene_become_335 rfl ?_
    refine zr_pcn 336 rfl ?_
    obtain ⟨le221, hs220, h⟩ := zoS_s h
    obtain ⟨a222, ea222, h⟩ := zoB_s h
    refine zr_get F 15 29 zd_MScene_become_336 (zW_o hs220 (by decide)) rfl (by decide) zw_1400 rfl (by rfl) ?_
    refine zr_tor ea222 ?_
    refine zr_aload_n F zd_MScene_become_339 rfl ?_
    obtain ⟨le224, hs223, h⟩ := zoS_s h
    obtain ⟨a225, ea225, h⟩ := zoB_s h
    refine zr_get F 15 29 zd_MScene_become_340 (zW_o hs223 (by decide)) rfl (by decide) zw_1400 rfl (by rfl) ?_
    refine zr_tor ea225 ?_
    obtain ⟨p226, ep226, h⟩ := zoB_s h
    refine zr_callS0 F (k_MScene_copy l D tA b sh _ ep226) zd_MScene_become_343 zs_MScene_121 zq_MScene_copy rfl rfl ⟨(Nat.le_of_ble_eq_true rfl), (Nat.le_of_ble_eq_true rfl)⟩ (Nat.le_of_ble_eq_true rfl) ⟨(Nat.le_of_ble_eq_true rfl), (Nat.le_of_ble_eq_true rfl)⟩ ?_
    refine zr_aload_n F zd_MScene_become_346 rfl ?_
    obtain ⟨le228, hs227, h⟩ := zoS_s h
    obtain ⟨a229, ea229, h⟩ := zoB_s h
    refine zr_get F 15 30 zd_MScene_become_347 (zW_o hs227 (by decide)) rfl (by decide) zw_1402 rfl (by rfl) ?_
    refine zr_tor ea229 ?_
    refine zr_aload_n F zd_MScene_become_350 rfl ?_
    obtain ⟨le231, hs230, h⟩ := zoS_s h
    obtain ⟨a232, ea232, h⟩ := zoB_s h
    refine zr_get F 15 30 zd_MScene_become_351 (zW_o hs230 (by decide)) rfl (by decide) zw_1402 rfl (by rfl) ?_
    refine zr_tor ea232 ?_
    refine zr_pcn 354 rfl ?_
    obtain ⟨p233, ep233, h⟩ := zoB_s h
    refine zr_callS0 F (k_MScene_copy l D tA b sh _ ep233) zd_MScene_become_354 zs_MScene_121 zq_MScene_copy rfl rfl ⟨(Nat.le_of_ble_eq_true rfl), (Nat.le_of_ble_eq_true rfl)⟩ (Nat.le_of_ble_eq_true rfl) ⟨(Nat.le_of_ble_eq_true rfl), (Nat.le_of_ble_eq_true rfl)⟩ ?_
    refine zr_aload_n F zd_MScene_become_357 rfl ?_
    obtain ⟨le235, hs234, h⟩ := zoS_s h
    obtain ⟨a236, ea236, h⟩ := zoB_s h
    refine zr_get F 15 31 zd_MScene_become_358 (zW_o hs234 (by decide)) rfl (by decide) zw_1404 rfl (by rfl) ?_
    refine zr_tor ea236 ?_
    refine zr_aload_n F zd_MScene_become_361 rfl ?_
    obtain ⟨le238, hs237, h⟩ := zoS_s h
    obtain ⟨a239, ea239, h⟩ := zoB_s h
    refine zr_get F 15 31 zd_MScene_become_362 (zW_o hs237 (by decide)) rfl (by decide) zw_1404 rfl (by rfl) ?_
    refine zr_tor ea239 ?_
    obtain ⟨p240, ep240, h⟩ := zoB_s h
    refine zr_callS0 F (k_MScene_copy l D tA b sh _ ep240) zd_MScene_become_365 zs_MScene_121 zq_MScene_copy rfl rfl ⟨(Nat.le_of_ble_eq_true rfl), (Nat.le_of_ble_eq_true rfl)⟩ (Nat.le_of_ble_eq_true rfl) ⟨(Nat.le_of_ble_eq_true rfl), (Nat.le_of_ble_eq_true rfl)⟩ ?_
    refine zr_aload_n F zd_MScene_become_368 rfl ?_
    obtain ⟨le242, hs241, h⟩ := zoS_s h
    obtain ⟨a243, ea243, h⟩ := zoB_s h
    refine zr_get F 15 32 zd_MScene_become_369 (zW_o hs241 (by decide)) rfl (by decide) zw_1408 rfl (by rfl) ?_
    refine zr_tor ea243 ?_
    refine zr_pcn 372 rfl ?_
    refine zr_aload_n F zd_MScene_become_372 rfl ?_
    obtain ⟨le245, hs244, h⟩ := zoS_s h
    obtain ⟨a246, ea246, h⟩ := zoB_s h
    refine zr_get F 15 32 zd_MScene_become_373 (zW_o hs244 (by decide)) rfl (by decide) zw_1408 rfl (by rfl) ?_
    refine zr_tor ea246 ?_
    obtain ⟨p247, ep247, h⟩ := zoB_s h
    refine zr_callS0 F (k_MScene_copy l D tA b sh _ ep247) zd_MScene_become_376 zs_MScene_121 zq_MScene_copy rfl rfl ⟨(Nat.le_of_ble_eq_true rfl), (Nat.le_of_ble_eq_true rfl)⟩ (Nat.le_of_ble_eq_true rfl) ⟨(Nat.le_of_ble_eq_true rfl), (Nat.le_of_ble_eq_true rfl)⟩ ?_
    refine zr_aload_n F zd_MScene_become_379 rfl ?_
    obtain ⟨le249, hs248, h⟩ := zoS_s h
    obtain ⟨a250, ea250, h⟩ := zoB_s h
    refine zr_get F 15 33 zd_MScene_become_380 (zW_o hs248 (by decide)) rfl (by decide) zw_1412 rfl (by rfl) ?_
    refine zr_tor ea250 ?_
    refine zr_aload_n F zd_MScene_become_383 rfl ?_
    obtain ⟨le252, hs251, h⟩ := zoS_s h
    obtain ⟨a253, ea253, h⟩ := zoB_s h
    refine zr_get F 15 33 zd_MScene_become_384 (zW_o hs251 (by decide)) rfl (by decide) zw_1412 rfl (by rfl) ?_
    refine zr_tor ea253 ?_
    obtain ⟨p254, ep254, h⟩ := zoB_s h
    refine zr_callS0 F (k_MScene_copy l D tA b sh _ ep254) zd_MScene_become_387 zs_MScene_121 zq_MScene_copy rfl rfl ⟨(Nat.le_of_ble_eq_true rfl), (Nat.le_of_ble_eq_true rfl)⟩ (Nat.le_of_ble_eq_true rfl) ⟨(Nat.le_of_ble_eq_true rfl), (Nat.le_of_ble_eq_true rfl)⟩ ?_
    refine zr_pcn 390 rfl ?_
    obtain rfl := Option.some.inj h
    exact zr_vret F hr zd_MScene_become_390 (Nat.le_of_ble_eq_true rfl) (Nat.le_of_ble_eq_true rfl) ⟨rfl, rfl, rfl⟩
abbrev zb_MScene_of : ByteArray := prog_18_method_5_code
def zy_MScene_of : MethodName := ⟨"OrreryBoxModel$Scene", "of", "(I)[I"⟩
theorem zc_MScene_of : Cond.code zy_MScene_of zb_MScene_of 2 (some (.array .int)) ∈ gw := gw_t 1942 (by decide +kernel) rfl
theorem zq_MScene_of : zy_MScene_of.cls ≠ "java/lang/invoke/MethodHandle" ∧ zy_MScene_of.cls ≠ "java/lang/invoke/VarHandle" ∧ (parseMethodDescriptor zy_MScene_of.desc).map (fun d => d.parameters.length) = some 1 := by decide +kernel
theorem zd_MScene_of_0 : decode zb_MScene_of 0 = .ok (.iload_n 1, 1) := by decide +kernel
theorem zd_MScene_of_1 : decode zb_MScene_of 1 = .ok (.ifCond .ne 10, 3) := by decide +kernel
theorem zd_MScene_of_4 : decode zb_MScene_of 4 = .ok (.aload_n 0, 1) := by decide +kernel
theorem zd_MScene_of_5 : decode zb_MScene_of 5 = .ok (.getfield 58, 3) := by decide +kernel
theorem zd_MScene_of_8 : decode zb_MScene_of 8 = .ok (.goto 19, 3) := by decide +kernel
theorem zd_MScene_of_11 : decode zb_MScene_of 11 = .ok (.iload_n 1, 1) := by decide +kernel
theorem zd_MScene_of_12 : decode zb_MScene_of 12 = .ok (.iconst 1, 1) := by decide +kernel
theorem zd_MScene_of_13 : decode zb_MScene_of 13 = .ok (.if_icmp .ne 10, 3) := by decide +kernel
theorem zd_MScene_of_16 : decode zb_MScene_of 16 = .ok (.aload_n 0, 1) := by decide +kernel
theorem zd_MScene_of_17 : decode zb_MScene_of 17 = .ok (.getfield 61, 3) := by decide +kernel
theorem zd_MScene_of_20 : decode zb_MScene_of 20 = .ok (.goto 7, 3) := by decide +kernel
theorem zd_MScene_of_23 : decode zb_MScene_of 23 = .ok (.aload_n 0, 1) := by decide +kernel
theorem zd_MScene_of_24 : decode zb_MScene_of 24 = .ok (.getfield 64, 3) := by decide +kernel
theorem zd_MScene_of_27 : decode zb_MScene_of 27 = .ok (.areturn, 1) := by decide +kernel
def F_MScene_of (sh : zSh) (mm : zMem) (o : Nat) (x0_ : Int32) : Option (Nat × zMem) := (if x0_ = 0 then zoS (sh o) 15 (fun le10 => Option.bind (mm.2.2 o 21) (fun a11 => some (a11, mm))) else (if x0_ = 1 then zoS (sh o) 15 (fun le7 => Option.bind (mm.2.2 o 22) (fun a8 => some (a8, mm))) else zoS (sh o) 15 (fun le4 => Option.bind (mm.2.2 o 23) (fun a5 => some (a5, mm)))))
set_option maxHeartbeats 4000000 in
set_option maxRecDepth 100000 in
theorem k_MScene_of (l : Launch) (D : va_G) (tA : Nat → ClassId) (b : Nat) (sh : zSh) (n : Nat) {mm : zMem} {o : Nat} {x0_ : Int32} {r : (Nat × zMem)} (h : F_MScene_of sh mm o x0_ = some r) : zM l D tA b zy_MScene_of zb_MScene_of 2 (some (.array .int)) 0 0 0 0 [.ref (b + o), .int x0_] (zW tA b sh mm) n (zE (some (.ref (b + (r.1)))) (zW tA b sh r.2) n) := by
  unfold F_MScene_of at h
  refine zM_of (own := "OrreryBoxModel$Scene") (plainFor_of_name (by decide)) rfl (Nat.le_of_ble_eq_true rfl) (fun p e s m below meth c F hr hin hH => ?_)
  refine zr_iload_n F zd_MScene_of_0 rfl ?_
  refine zr_if_ne F 11 zd_MScene_of_1 (by decide) (fun hb1 => ?_) (fun hb1 => ?_)
  ·
    rw [if_neg hb1] at h
    refine zr_iload_n F zd_MScene_of_11 rfl ?_
    refine zr_iconstv (v := 1) F zd_MScene_of_12 (by decide) ?_
    refine zr_icmp_ne F 23 zd_MScene_of_13 (by decide) (fun hb2 => ?_) (fun hb2 => ?_)
    ·
      rw [if_neg hb2] at h
      refine zr_aload_n F zd_MScene_of_23 rfl ?_
      obtain ⟨le4, hs3, h⟩ := zoS_s h
      obtain ⟨a5, ea5, h⟩ := zoB_s h
      refine zr_get F 15 23 zd_MScene_of_24 (zW_o hs3 (by decide)) rfl (by decide) zw_1385 rfl (by rfl) ?_
      refine zr_tor ea5 ?_
      refine zr_pcn 27 rfl ?_
      obtain rfl := Option.some.inj h
      exact zr_aret F hr (Or.inr ⟨_, rfl⟩) (Or.inr ⟨_, rfl⟩) zd_MScene_of_27 (Nat.le_of_ble_eq_true rfl) (Nat.le_of_ble_eq_true rfl) ⟨rfl, rfl, rfl⟩
    ·
      rw [if_pos hb2] at h
      refine zr_aload_n F zd_MScene_of_16 rfl ?_
      obtain ⟨le7, hs6, h⟩ := zoS_s h
      obtain ⟨a8, ea8, h⟩ := zoB_s h
      refine zr_get F 15 22 zd_MScene_of_17 (zW_o hs6 (by decide)) rfl (by decide) zw_1382 rfl (by rfl) ?_
      refine zr_tor ea8 ?_
      refine zr_goto F 27 zd_MScene_of_20 (by decide) ?_
      obtain rfl := Option.some.inj h
      exact zr_aret F hr (Or.inr ⟨_, rfl⟩) (Or.inr ⟨_, rfl⟩) zd_MScene_of_27 (Nat.le_of_ble_eq_true rfl) (Nat.le_of_ble_eq_true rfl) ⟨rfl, rfl, rfl⟩
  ·
    rw [if_pos hb1] at h
    refine zr_aload_n F zd_MScene_of_4 rfl ?_
    obtain ⟨le10, hs9, h⟩ := zoS_s h
    obtain ⟨a11, ea11, h⟩ := zoB_s h
    refine zr_get F 15 21 zd_MScene_of_5 (zW_o hs9 (by decide)) rfl (by decide) zw_1379 rfl (by rfl) ?_
    refine zr_tor ea11 ?_
    refine zr_goto F 27 zd_MScene_of_8 (by decide) ?_
    refine zr_pcn 27 rfl ?_
    obtain rfl := Option.some.inj h
    exact zr_aret F hr (Or.inr ⟨_, rfl⟩) (Or.inr ⟨_, rfl⟩) zd_MScene_of_27 (Nat.le_of_ble_eq_true rfl) (Nat.le_of_ble_eq_true rfl) ⟨rfl, rfl, rfl⟩
abbrev zb_MScene_levelAt : ByteArray := prog_18_method_6_code
def zy_MScene_levelAt : MethodName := ⟨"OrreryBoxModel$Scene", "levelAt", "(II)I"⟩
theorem zc_MScene_levelAt : Cond.code zy_MScene_levelAt zb_MScene_levelAt 6 (some .int) ∈ gw := gw_t 1914 (by decide +kernel) rfl
theorem zq_MScene_levelAt : zy_MScene_levelAt.cls ≠ "java/lang/invoke/MethodHandle" ∧ zy_MScene_levelAt.cls ≠ "java/lang/invoke/VarHandle" ∧ (parseMethodDescriptor zy_MScene_levelAt.desc).map (fun d => d.parameters.length) = some 2 := by decide +kernel
theorem zd_MScene_levelAt_0 : decode zb_MScene_levelAt 0 = .ok (.sipush 4095, 3) := by decide +kernel
theorem zd_MScene_levelAt_3 : decode zb_MScene_levelAt 3 = .ok (.iload_n 1, 1) := by decide +kernel
theorem zd_MScene_levelAt_4 : decode zb_MScene_levelAt 4 = .ok (.imul, 1) := by decide +kernel
theorem zd_MScene_levelAt_5 : decode zb_MScene_levelAt 5 = .ok (.istore_n 3, 1) := by decide +kernel
theorem zd_MScene_levelAt_6 : decode zb_MScene_levelAt 6 = .ok (.iconst 0, 1) := by decide +kernel
theorem zd_MScene_levelAt_7 : decode zb_MScene_levelAt 7 = .ok (.istore 4, 2) := by decide +kernel
theorem zd_MScene_levelAt_9 : decode zb_MScene_levelAt 9 = .ok (.aload_n 0, 1) := by decide +kernel
theorem zd_MScene_levelAt_10 : decode zb_MScene_levelAt 10 = .ok (.getfield 7, 3) := by decide +kernel
theorem zd_MScene_levelAt_13 : decode zb_MScene_levelAt 13 = .ok (.iload_n 1, 1) := by decide +kernel
theorem zd_MScene_levelAt_14 : decode zb_MScene_levelAt 14 = .ok (.iaload, 1) := by decide +kernel
theorem zd_MScene_levelAt_15 : decode zb_MScene_levelAt 15 = .ok (.istore 5, 2) := by decide +kernel
theorem zd_MScene_levelAt_17 : decode zb_MScene_levelAt 17 = .ok (.iload 4, 2) := by decide +kernel
theorem zd_MScene_levelAt_19 : decode zb_MScene_levelAt 19 = .ok (.iload_n 2, 1) := by decide +kernel
theorem zd_MScene_levelAt_20 : decode zb_MScene_levelAt 20 = .ok (.if_icmp .ge 25, 3) := by decide +kernel
theorem zd_MScene_levelAt_23 : decode zb_MScene_levelAt 23 = .ok (.iload_n 3, 1) := by decide +kernel
theorem zd_MScene_levelAt_24 : decode zb_MScene_levelAt 24 = .ok (.iconst 3, 1) := by decide +kernel
theorem zd_MScene_levelAt_25 : decode zb_MScene_levelAt 25 = .ok (.iload 5, 2) := by decide +kernel
theorem zd_MScene_levelAt_27 : decode zb_MScene_levelAt 27 = .ok (.imul, 1) := by decide +kernel
theorem zd_MScene_levelAt_28 : decode zb_MScene_levelAt 28 = .ok (.iload 5, 2) := by decide +kernel
theorem zd_MScene_levelAt_30 : decode zb_MScene_levelAt 30 = .ok (.imul, 1) := by decide +kernel
theorem zd_MScene_levelAt_31 : decode zb_MScene_levelAt 31 = .ok (.iadd, 1) := by decide +kernel
theorem zd_MScene_levelAt_32 : decode zb_MScene_levelAt 32 = .ok (.istore_n 3, 1) := by decide +kernel
theorem zd_MScene_levelAt_33 : decode zb_MScene_levelAt 33 = .ok (.iinc 4 1, 3) := by decide +kernel
theorem zd_MScene_levelAt_36 : decode zb_MScene_levelAt 36 = .ok (.iload 5, 2) := by decide +kernel
theorem zd_MScene_levelAt_38 : decode zb_MScene_levelAt 38 = .ok (.iconst 2, 1) := by decide +kernel
theorem zd_MScene_levelAt_39 : decode zb_MScene_levelAt 39 = .ok (.idiv, 1) := by decide +kernel
theorem zd_MScene_levelAt_40 : decode zb_MScene_levelAt 40 = .ok (.istore 5, 2) := by decide +kernel
theorem zd_MScene_levelAt_42 : decode zb_MScene_levelAt 42 = .ok (.goto (-25), 3) := by decide +kernel
theorem zd_MScene_levelAt_45 : decode zb_MScene_levelAt 45 = .ok (.iload_n 3, 1) := by decide +kernel
theorem zd_MScene_levelAt_46 : decode zb_MScene_levelAt 46 = .ok (.ireturn, 1) := by decide +kernel
def L_MScene_levelAt_17 (sh : zSh) (fuel : Nat) (v2 : Int32) (v3 : Int32) (v4 : Int32) (v5 : Int32) (mm : zMem) : Option (Int32 × Int32 × Int32 × Int32 × zMem) := match fuel with
  | 0 => none
  | fu + 1 => (if v2 ≤ v4 then some (v2, v3, v4, v5, mm) else zoL (v3 + ((3 * v5) * v5)) (fun x10 => zoL (v5 / 2) (fun x11 => L_MScene_levelAt_17 sh fu v2 x10 (v4 + 1) x11 mm)))
set_option maxHeartbeats 4000000 in
set_option maxRecDepth 100000 in
theorem lp_MScene_levelAt_17 {p : Program} {l : Launch} {e : Env} {s : State} {m : MethodId} {args : Array Value} {below : List Frame} {meth : Method} {c : Code} {D : va_G} {tA : Nat → ClassId} {b n : Nat} {post : Option Value → zV → Nat → Prop} {sh : zSh} (F : zF p s m args meth c zb_MScene_levelAt 6 "OrreryBoxModel$Scene" D tA b) : ∀ (fuel : Nat) (v2 : Int32) (v3 : Int32) (v4 : Int32) (v5 : Int32) (mm : zMem) (r : Int32 × Int32 × Int32 × Int32 × zMem), L_MScene_levelAt_17 sh fuel v2 v3 v4 v5 mm = some r → (Z p l e { frames := 0, cells := 0, slots := 0, locals := 0 } s m args below meth c D b 6 (MQ below (zQ D b post) args s 0 0 (fun q => b ≤ q)) (zW tA b sh r.2.2.2.2) n 0 0 45 [(2, .int (r.1)), (3, .int (r.2.1)), (4, .int (r.2.2.1)), (5, .int (r.2.2.2.1))] []) → Z p l e { frames := 0, cells := 0, slots := 0, locals := 0 } s m args below meth c D b 6 (MQ below (zQ D b post) args s 0 0 (fun q => b ≤ q)) (zW tA b sh mm) n 0 0 17 [(2, .int v2), (3, .int v3), (4, .int v4), (5, .int v5)] [] := by
  intro fuel
  induction fuel with
  | zero =>
    intro v2 v3 v4 v5 mm r h
    cases h
  | succ fu ih =>
    intro v2 v3 v4 v5 mm r h hx0
    rw [L_MScene_levelAt_17] at h
    refine zr_iload F zd_MScene_levelAt_17 rfl ?_
    refine zr_iload_n F zd_MScene_levelAt_19 rfl ?_
    refine zr_icmp_ge F 45 zd_MScene_levelAt_20 (by decide) (fun hb9 => ?_) (fun hb9 => ?_)
    ·
      rw [if_pos hb9] at h
      obtain rfl := Option.some.inj h
      refine zr_loc (L' := [(2, .int v2), (3, .int v3), (4, .int v4), (5, .int v5)]) ⟨rfl, rfl, rfl, rfl, trivial⟩ ?_
      exact hx0 
    ·
      rw [if_neg hb9] at h
      refine zr_iload_n F zd_MScene_levelAt_23 rfl ?_
      refine zr_pcn 24 rfl ?_
      refine zr_iconstv (v := 3) F zd_MScene_levelAt_24 (by decide) ?_
      refine zr_iload F zd_MScene_levelAt_25 rfl ?_
      refine zr_imul F zd_MScene_levelAt_27 ?_
      refine zr_iload F zd_MScene_levelAt_28 rfl ?_
      refine zr_imul F zd_MScene_levelAt_30 ?_
      refine zr_iadd F zd_MScene_levelAt_31 ?_
      obtain ⟨x10, ex10, h⟩ := zoL_s h
      rw [← ex10]
      refine zr_istore_n F zd_MScene_levelAt_32 (by decide) ?_
      refine zr_iinc (v := (v4 + 1)) F zd_MScene_levelAt_33 rfl rfl (by decide) ?_
      refine zr_pcn 36 rfl ?_
      refine zr_iload F zd_MScene_levelAt_36 rfl ?_
      refine zr_iconstv (v := 2) F zd_MScene_levelAt_38 (by decide) ?_
      refine zr_idiv F zd_MScene_levelAt_39 (by decide) ?_
      obtain ⟨x11, ex11, h⟩ := zoL_s h
      rw [← ex11]
      refine zr_istore F zd_MScene_levelAt_40 (by decide) ?_
      refine zr_goto F 17 zd_MScene_levelAt_42 (by decide) ?_
      refine zr_loc (L' := [(2, .int v2), (3, .int x10), (4, .int (v4 + 1)), (5, .int x11)]) ⟨rfl, rfl, rfl, rfl, trivial⟩ ?_
      exact ih _ _ _ _ _ _ h hx0
def F_MScene_levelAt (sh : zSh) (mm : zMem) (o : Nat) (x0_ : Int32) (x1_ : Int32) : Option (Int32 × zMem) := zoL (4095 * x0_) (fun x1 => zoS (sh o) 15 (fun le3 => Option.bind (mm.2.2 o 5) (fun a4 => zoS (sh a4) 100 (fun le6 => if (x0_ : Int32) < 0 ∨ le6 ≤ (x0_ : Int32).toNatClampNeg then none else zoL (mm.1 a4 (x0_ : Int32).toNatClampNeg) (fun x8 => Option.bind (L_MScene_levelAt_17 sh zfuel x1_ x1 0 x8 mm) (fun q12 => some (q12.2.1, q12.2.2.2.2)))))))
set_option maxHeartbeats 4000000 in
set_option maxRecDepth 100000 in
theorem k_MScene_levelAt (l : Launch) (D : va_G) (tA : Nat → ClassId) (b : Nat) (sh : zSh) (n : Nat) {mm : zMem} {o : Nat} {x0_ : Int32} {x1_ : Int32} {r : (Int32 × zMem)} (h : F_MScene_levelAt sh mm o x0_ x1_ = some r) : zM l D tA b zy_MScene_levelAt zb_MScene_levelAt 6 (some .int) 0 0 0 0 [.ref (b + o), .int x0_, .int x1_] (zW tA b sh mm) n (zE (some (.int (r.1))) (zW tA b sh r.2) n) := by
  unfold F_MScene_levelAt at h
  refine zM_of (own := "OrreryBoxModel$Scene") (plainFor_of_name (by decide)) rfl (Nat.le_of_ble_eq_true rfl) (fun p e s m below meth c F hr hin hH => ?_)
  refine zr_sipushv (v := 4095) F zd_MScene_levelAt_0 (by decide) ?_
  refine zr_iload_n F zd_MScene_levelAt_3 rfl ?_
  refine zr_imul F zd_MScene_levelAt_4 ?_
  obtain ⟨x1, ex1, h⟩ := zoL_s h
  rw [← ex1]
  refine zr_istore_n F zd_MScene_levelAt_5 (by decide) ?_
  refine zr_iconstv (v := 0) F zd_MScene_levelAt_6 (by decide) ?_
  refine zr_istore F zd_MScene_levelAt_7 (by decide) ?_
  refine zr_aload_n F zd_MScene_levelAt_9 rfl ?_
  refine zr_pcn 10 rfl ?_
  obtain ⟨le3, hs2, h⟩ := zoS_s h
  obtain ⟨a4, ea4, h⟩ := zoB_s h
  refine zr_get F 15 5 zd_MScene_levelAt_10 (zW_o hs2 (by decide)) rfl (by decide) zw_1331 rfl (by rfl) ?_
  refine zr_tor ea4 ?_
  refine zr_iload_n F zd_MScene_levelAt_13 rfl ?_
  obtain ⟨le6, hs5, h⟩ := zoS_s h
  obtain ⟨hi7, h⟩ := zoI_s h
  refine zr_iald F zd_MScene_levelAt_14 (zW_a0 hs5) hi7 ?_
  obtain ⟨x8, ex8, h⟩ := zoL_s h
  rw [← ex8]
  refine zr_istore F zd_MScene_levelAt_15 (by decide) ?_
  obtain ⟨q12, eq12, h⟩ := zoB_s h
  refine zr_loc (L' := [(2, .int x1_), (3, .int x1), (4, .int 0), (5, .int x8)]) ⟨rfl, rfl, rfl, rfl, trivial⟩ ?_
  refine lp_MScene_levelAt_17 F _ _ _ _ _ _ _ eq12 ?_
  ·
    refine zr_iload_n F zd_MScene_levelAt_45 rfl ?_
    obtain rfl := Option.some.inj h
    exact zr_iret F hr zd_MScene_levelAt_46 (Nat.le_of_ble_eq_true rfl) (Nat.le_of_ble_eq_true rfl) ⟨rfl, rfl, rfl⟩
abbrev zb_MScene_makeLevels : ByteArray := prog_18_method_7_code
def zy_MScene_makeLevels : MethodName := ⟨"OrreryBoxModel$Scene", "makeLevels", "()V"⟩
theorem zc_MScene_makeLevels : Cond.code zy_MScene_makeLevels zb_MScene_makeLevels 12 none ∈ gw := gw_t 1910 (by decide +kernel) rfl
theorem zq_MScene_makeLevels : zy_MScene_makeLevels.cls ≠ "java/lang/invoke/MethodHandle" ∧ zy_MScene_makeLevels.cls ≠ "java/lang/invoke/VarHandle" ∧ (parseMethodDescriptor zy_MScene_makeLevels.desc).map (fun d => d.parameters.length) = some 0 := by decide +kernel
theorem zd_MScene_makeLevels_0 : decode zb_MScene_makeLevels 0 = .ok (.iconst 0, 1) := by decide +kernel
theorem zd_MScene_makeLevels_1 : decode zb_MScene_makeLevels 1 = .ok (.istore_n 1, 1) := by decide +kernel
theorem zd_MScene_makeLevels_2 : decode zb_MScene_makeLevels 2 = .ok (.iload_n 1, 1) := by decide +kernel
theorem zd_MScene_makeLevels_3 : decode zb_MScene_makeLevels 3 = .ok (.aload_n 0, 1) := by decide +kernel
theorem zd_MScene_makeLevels_4 : decode zb_MScene_makeLevels 4 = .ok (.getfield 98, 3) := by decide +kernel
theorem zd_MScene_makeLevels_7 : decode zb_MScene_makeLevels 7 = .ok (.if_icmp .ge 173, 3) := by decide +kernel
theorem zd_MScene_makeLevels_10 : decode zb_MScene_makeLevels 10 = .ok (.aload_n 0, 1) := by decide +kernel
theorem zd_MScene_makeLevels_11 : decode zb_MScene_makeLevels 11 = .ok (.getfield 7, 3) := by decide +kernel
theorem zd_MScene_makeLevels_14 : decode zb_MScene_makeLevels 14 = .ok (.iload_n 1, 1) := by decide +kernel
theorem zd_MScene_makeLevels_15 : decode zb_MScene_makeLevels 15 = .ok (.iaload, 1) := by decide +kernel
theorem zd_MScene_makeLevels_16 : decode zb_MScene_makeLevels 16 = .ok (.iconst 2, 1) := by decide +kernel
theorem zd_MScene_makeLevels_17 : decode zb_MScene_makeLevels 17 = .ok (.idiv, 1) := by decide +kernel
theorem zd_MScene_makeLevels_18 : decode zb_MScene_makeLevels 18 = .ok (.istore_n 2, 1) := by decide +kernel
theorem zd_MScene_makeLevels_19 : decode zb_MScene_makeLevels 19 = .ok (.iconst 1, 1) := by decide +kernel
theorem zd_MScene_makeLevels_20 : decode zb_MScene_makeLevels 20 = .ok (.istore_n 3, 1) := by decide +kernel
theorem zd_MScene_makeLevels_21 : decode zb_MScene_makeLevels 21 = .ok (.iload_n 2, 1) := by decide +kernel
theorem zd_MScene_makeLevels_22 : decode zb_MScene_makeLevels 22 = .ok (.iconst 1, 1) := by decide +kernel
theorem zd_MScene_makeLevels_23 : decode zb_MScene_makeLevels 23 = .ok (.if_icmp .lt 151, 3) := by decide +kernel
theorem zd_MScene_makeLevels_26 : decode zb_MScene_makeLevels 26 = .ok (.aload_n 0, 1) := by decide +kernel
theorem zd_MScene_makeLevels_27 : decode zb_MScene_makeLevels 27 = .ok (.iload_n 1, 1) := by decide +kernel
theorem zd_MScene_makeLevels_28 : decode zb_MScene_makeLevels 28 = .ok (.iload_n 3, 1) := by decide +kernel
theorem zd_MScene_makeLevels_29 : decode zb_MScene_makeLevels 29 = .ok (.iconst 1, 1) := by decide +kernel
theorem zd_MScene_makeLevels_30 : decode zb_MScene_makeLevels 30 = .ok (.isub, 1) := by decide +kernel
theorem zd_MScene_makeLevels_31 : decode zb_MScene_makeLevels 31 = .ok (.invokevirtual 125, 3) := by decide +kernel
theorem zd_MScene_makeLevels_34 : decode zb_MScene_makeLevels 34 = .ok (.istore 4, 2) := by decide +kernel
theorem zd_MScene_makeLevels_36 : decode zb_MScene_makeLevels 36 = .ok (.aload_n 0, 1) := by decide +kernel
theorem zd_MScene_makeLevels_37 : decode zb_MScene_makeLevels 37 = .ok (.iload_n 1, 1) := by decide +kernel
theorem zd_MScene_makeLevels_38 : decode zb_MScene_makeLevels 38 = .ok (.iload_n 3, 1) := by decide +kernel
theorem zd_MScene_makeLevels_39 : decode zb_MScene_makeLevels 39 = .ok (.invokevirtual 125, 3) := by decide +kernel
theorem zd_MScene_makeLevels_42 : decode zb_MScene_makeLevels 42 = .ok (.istore 5, 2) := by decide +kernel
theorem zd_MScene_makeLevels_44 : decode zb_MScene_makeLevels 44 = .ok (.iconst 0, 1) := by decide +kernel
theorem zd_MScene_makeLevels_45 : decode zb_MScene_makeLevels 45 = .ok (.istore 6, 2) := by decide +kernel
theorem zd_MScene_makeLevels_47 : decode zb_MScene_makeLevels 47 = .ok (.iload 6, 2) := by decide +kernel
theorem zd_MScene_makeLevels_49 : decode zb_MScene_makeLevels 49 = .ok (.iconst 3, 1) := by decide +kernel
theorem zd_MScene_makeLevels_50 : decode zb_MScene_makeLevels 50 = .ok (.iload_n 2, 1) := by decide +kernel
theorem zd_MScene_makeLevels_51 : decode zb_MScene_makeLevels 51 = .ok (.imul, 1) := by decide +kernel
theorem zd_MScene_makeLevels_52 : decode zb_MScene_makeLevels 52 = .ok (.iload_n 2, 1) := by decide +kernel
theorem zd_MScene_makeLevels_53 : decode zb_MScene_makeLevels 53 = .ok (.imul, 1) := by decide +kernel
theorem zd_MScene_makeLevels_54 : decode zb_MScene_makeLevels 54 = .ok (.if_icmp .ge 110, 3) := by decide +kernel
theorem zd_MScene_makeLevels_57 : decode zb_MScene_makeLevels 57 = .ok (.iload 6, 2) := by decide +kernel
theorem zd_MScene_makeLevels_59 : decode zb_MScene_makeLevels 59 = .ok (.iconst 3, 1) := by decide +kernel
theorem zd_MScene_makeLevels_60 : decode zb_MScene_makeLevels 60 = .ok (.irem, 1) := by decide +kernel
theorem zd_MScene_makeLevels_61 : decode zb_MScene_makeLevels 61 = .ok (.istore 7, 2) := by decide +kernel
theorem zd_MScene_makeLevels_63 : decode zb_MScene_makeLevels 63 = .ok (.iload 6, 2) := by decide +kernel
theorem zd_MScene_makeLevels_65 : decode zb_MScene_makeLevels 65 = .ok (.iconst 3, 1) := by decide +kernel
theorem zd_MScene_makeLevels_66 : decode zb_MScene_makeLevels 66 = .ok (.idiv, 1) := by decide +kernel
theorem zd_MScene_makeLevels_67 : decode zb_MScene_makeLevels 67 = .ok (.iload_n 2, 1) := by decide +kernel
theorem zd_MScene_makeLevels_68 : decode zb_MScene_makeLevels 68 = .ok (.irem, 1) := by decide +kernel
theorem zd_MScene_makeLevels_69 : decode zb_MScene_makeLevels 69 = .ok (.istore 8, 2) := by decide +kernel
theorem zd_MScene_makeLevels_71 : decode zb_MScene_makeLevels 71 = .ok (.iload 6, 2) := by decide +kernel
theorem zd_MScene_makeLevels_73 : decode zb_MScene_makeLevels 73 = .ok (.iconst 3, 1) := by decide +kernel
theorem zd_MScene_makeLevels_74 : decode zb_MScene_makeLevels 74 = .ok (.idiv, 1) := by decide +kernel
theorem zd_MScene_makeLevels_75 : decode zb_MScene_makeLevels 75 = .ok (.iload_n 2, 1) := by decide +kernel
theorem zd_MScene_makeLevels_76 : decode zb_MScene_makeLevels 76 = .ok (.idiv, 1) := by decide +kernel
theorem zd_MScene_makeLevels_77 : decode zb_MScene_makeLevels 77 = .ok (.istore 9, 2) := by decide +kernel
theorem zd_MScene_makeLevels_79 : decode zb_MScene_makeLevels 79 = .ok (.iload 4, 2) := by decide +kernel
theorem zd_MScene_makeLevels_81 : decode zb_MScene_makeLevels 81 = .ok (.iconst 3, 1) := by decide +kernel
theorem zd_MScene_makeLevels_82 : decode zb_MScene_makeLevels 82 = .ok (.iconst 2, 1) := by decide +kernel
theorem zd_MScene_makeLevels_83 : decode zb_MScene_makeLevels 83 = .ok (.iload_n 2, 1) := by decide +kernel
theorem zd_MScene_makeLevels_84 : decode zb_MScene_makeLevels 84 = .ok (.imul, 1) := by decide +kernel
theorem zd_MScene_makeLevels_85 : decode zb_MScene_makeLevels 85 = .ok (.iconst 2, 1) := by decide +kernel
theorem zd_MScene_makeLevels_86 : decode zb_MScene_makeLevels 86 = .ok (.imul, 1) := by decide +kernel
theorem zd_MScene_makeLevels_87 : decode zb_MScene_makeLevels 87 = .ok (.iload 9, 2) := by decide +kernel
theorem zd_MScene_makeLevels_89 : decode zb_MScene_makeLevels 89 = .ok (.imul, 1) := by decide +kernel
theorem zd_MScene_makeLevels_90 : decode zb_MScene_makeLevels 90 = .ok (.iconst 2, 1) := by decide +kernel
theorem zd_MScene_makeLevels_91 : decode zb_MScene_makeLevels 91 = .ok (.iload 8, 2) := by decide +kernel
theorem zd_MScene_makeLevels_93 : decode zb_MScene_makeLevels 93 = .ok (.imul, 1) := by decide +kernel
theorem zd_MScene_makeLevels_94 : decode zb_MScene_makeLevels 94 = .ok (.iadd, 1) := by decide +kernel
theorem zd_MScene_makeLevels_95 : decode zb_MScene_makeLevels 95 = .ok (.imul, 1) := by decide +kernel
theorem zd_MScene_makeLevels_96 : decode zb_MScene_makeLevels 96 = .ok (.iadd, 1) := by decide +kernel
theorem zd_MScene_makeLevels_97 : decode zb_MScene_makeLevels 97 = .ok (.iload 7, 2) := by decide +kernel
theorem zd_MScene_makeLevels_99 : decode zb_MScene_makeLevels 99 = .ok (.iadd, 1) := by decide +kernel
theorem zd_MScene_makeLevels_100 : decode zb_MScene_makeLevels 100 = .ok (.istore 10, 2) := by decide +kernel
theorem zd_MScene_makeLevels_102 : decode zb_MScene_makeLevels 102 = .ok (.iload 10, 2) := by decide +kernel
theorem zd_MScene_makeLevels_104 : decode zb_MScene_makeLevels 104 = .ok (.bipush 6, 2) := by decide +kernel
theorem zd_MScene_makeLevels_106 : decode zb_MScene_makeLevels 106 = .ok (.iload_n 2, 1) := by decide +kernel
theorem zd_MScene_makeLevels_107 : decode zb_MScene_makeLevels 107 = .ok (.imul, 1) := by decide +kernel
theorem zd_MScene_makeLevels_108 : decode zb_MScene_makeLevels 108 = .ok (.iadd, 1) := by decide +kernel
theorem zd_MScene_makeLevels_109 : decode zb_MScene_makeLevels 109 = .ok (.istore 11, 2) := by decide +kernel
theorem zd_MScene_makeLevels_111 : decode zb_MScene_makeLevels 111 = .ok (.aload_n 0, 1) := by decide +kernel
theorem zd_MScene_makeLevels_112 : decode zb_MScene_makeLevels 112 = .ok (.getfield 19, 3) := by decide +kernel
theorem zd_MScene_makeLevels_115 : decode zb_MScene_makeLevels 115 = .ok (.iload 5, 2) := by decide +kernel
theorem zd_MScene_makeLevels_117 : decode zb_MScene_makeLevels 117 = .ok (.iload 6, 2) := by decide +kernel
theorem zd_MScene_makeLevels_119 : decode zb_MScene_makeLevels 119 = .ok (.iadd, 1) := by decide +kernel
theorem zd_MScene_makeLevels_120 : decode zb_MScene_makeLevels 120 = .ok (.aload_n 0, 1) := by decide +kernel
theorem zd_MScene_makeLevels_121 : decode zb_MScene_makeLevels 121 = .ok (.getfield 19, 3) := by decide +kernel
theorem zd_MScene_makeLevels_124 : decode zb_MScene_makeLevels 124 = .ok (.iload 10, 2) := by decide +kernel
theorem zd_MScene_makeLevels_126 : decode zb_MScene_makeLevels 126 = .ok (.iaload, 1) := by decide +kernel
theorem zd_MScene_makeLevels_127 : decode zb_MScene_makeLevels 127 = .ok (.aload_n 0, 1) := by decide +kernel
theorem zd_MScene_makeLevels_128 : decode zb_MScene_makeLevels 128 = .ok (.getfield 19, 3) := by decide +kernel
theorem zd_MScene_makeLevels_131 : decode zb_MScene_makeLevels 131 = .ok (.iload 10, 2) := by decide +kernel
theorem zd_MScene_makeLevels_133 : decode zb_MScene_makeLevels 133 = .ok (.iconst 3, 1) := by decide +kernel
theorem zd_MScene_makeLevels_134 : decode zb_MScene_makeLevels 134 = .ok (.iadd, 1) := by decide +kernel
theorem zd_MScene_makeLevels_135 : decode zb_MScene_makeLevels 135 = .ok (.iaload, 1) := by decide +kernel
theorem zd_MScene_makeLevels_136 : decode zb_MScene_makeLevels 136 = .ok (.iadd, 1) := by decide +kernel
theorem zd_MScene_makeLevels_137 : decode zb_MScene_makeLevels 137 = .ok (.aload_n 0, 1) := by decide +kernel
theorem zd_MScene_makeLevels_138 : decode zb_MScene_makeLevels 138 = .ok (.getfield 19, 3) := by decide +kernel
theorem zd_MScene_makeLevels_141 : decode zb_MScene_makeLevels 141 = .ok (.iload 11, 2) := by decide +kernel
theorem zd_MScene_makeLevels_143 : decode zb_MScene_makeLevels 143 = .ok (.iaload, 1) := by decide +kernel
theorem zd_MScene_makeLevels_144 : decode zb_MScene_makeLevels 144 = .ok (.iadd, 1) := by decide +kernel
theorem zd_MScene_makeLevels_145 : decode zb_MScene_makeLevels 145 = .ok (.aload_n 0, 1) := by decide +kernel
theorem zd_MScene_makeLevels_146 : decode zb_MScene_makeLevels 146 = .ok (.getfield 19, 3) := by decide +kernel
theorem zd_MScene_makeLevels_149 : decode zb_MScene_makeLevels 149 = .ok (.iload 11, 2) := by decide +kernel
theorem zd_MScene_makeLevels_151 : decode zb_MScene_makeLevels 151 = .ok (.iconst 3, 1) := by decide +kernel
theorem zd_MScene_makeLevels_152 : decode zb_MScene_makeLevels 152 = .ok (.iadd, 1) := by decide +kernel
theorem zd_MScene_makeLevels_153 : decode zb_MScene_makeLevels 153 = .ok (.iaload, 1) := by decide +kernel
theorem zd_MScene_makeLevels_154 : decode zb_MScene_makeLevels 154 = .ok (.iadd, 1) := by decide +kernel
theorem zd_MScene_makeLevels_155 : decode zb_MScene_makeLevels 155 = .ok (.iconst 4, 1) := by decide +kernel
theorem zd_MScene_makeLevels_156 : decode zb_MScene_makeLevels 156 = .ok (.idiv, 1) := by decide +kernel
theorem zd_MScene_makeLevels_157 : decode zb_MScene_makeLevels 157 = .ok (.iastore, 1) := by decide +kernel
theorem zd_MScene_makeLevels_158 : decode zb_MScene_makeLevels 158 = .ok (.iinc 6 1, 3) := by decide +kernel
theorem zd_MScene_makeLevels_161 : decode zb_MScene_makeLevels 161 = .ok (.goto (-114), 3) := by decide +kernel
theorem zd_MScene_makeLevels_164 : decode zb_MScene_makeLevels 164 = .ok (.iload_n 2, 1) := by decide +kernel
theorem zd_MScene_makeLevels_165 : decode zb_MScene_makeLevels 165 = .ok (.iconst 2, 1) := by decide +kernel
theorem zd_MScene_makeLevels_166 : decode zb_MScene_makeLevels 166 = .ok (.idiv, 1) := by decide +kernel
theorem zd_MScene_makeLevels_167 : decode zb_MScene_makeLevels 167 = .ok (.istore_n 2, 1) := by decide +kernel
theorem zd_MScene_makeLevels_168 : decode zb_MScene_makeLevels 168 = .ok (.iinc 3 1, 3) := by decide +kernel
theorem zd_MScene_makeLevels_171 : decode zb_MScene_makeLevels 171 = .ok (.goto (-150), 3) := by decide +kernel
theorem zd_MScene_makeLevels_174 : decode zb_MScene_makeLevels 174 = .ok (.iinc 1 1, 3) := by decide +kernel
theorem zd_MScene_makeLevels_177 : decode zb_MScene_makeLevels 177 = .ok (.goto (-175), 3) := by decide +kernel
theorem zd_MScene_makeLevels_180 : decode zb_MScene_makeLevels 180 = .ok (.return_, 1) := by decide +kernel
theorem zw_1911 : (Jvm.Cond.methodLink "OrreryBoxModel$Scene" (125 : Nat) ({ cls := "OrreryBoxModel$Scene", name := "levelAt", desc := "(II)I" } : Jvm.MethodName)) ∈ gw := gw_t 1911 (by decide +kernel) rfl
theorem zw_1912 : (Jvm.Cond.instanceMethod ({ cls := "OrreryBoxModel$Scene", name := "levelAt", desc := "(II)I" } : Jvm.MethodName)) ∈ gw := gw_t 1912 (by decide +kernel) rfl
theorem zw_1913 : (Jvm.Cond.selects "OrreryBoxModel$Scene" ({ cls := "OrreryBoxModel$Scene", name := "levelAt", desc := "(II)I" } : Jvm.MethodName) ({ cls := "OrreryBoxModel$Scene", name := "levelAt", desc := "(II)I" } : Jvm.MethodName)) ∈ gw := gw_t 1913 (by decide +kernel) rfl
theorem zs_MScene_125 : zwV "OrreryBoxModel$Scene" 125 "OrreryBoxModel$Scene" zy_MScene_levelAt zb_MScene_levelAt 6 (some .int) := ⟨zw_1911, zw_1912, zw_1913, zw_14, zc_MScene_levelAt⟩
def L_MScene_makeLevels_47 (sh : zSh) (fuel : Nat) (v0 : Nat) (v1 : Int32) (v2 : Int32) (v3 : Int32) (v4 : Int32) (v5 : Int32) (v6 : Int32) (mm : zMem) : Option (Nat × Int32 × Int32 × Int32 × Int32 × Int32 × Int32 × zMem) := match fuel with
  | 0 => none
  | fu + 1 => (if ((3 * v2) * v2) ≤ v6 then some (v0, v1, v2, v3, v4, v5, v6, mm) else zoL (v6 - v6 / 3 * 3) (fun x19 => (if v2 = 0 then none else zoL ((v6 / 3) - (v6 / 3) / v2 * v2) (fun x21 => (if v2 = 0 then none else zoL ((v6 / 3) / v2) (fun x23 => zoL ((v4 + (3 * ((((2 * v2) * 2) * x23) + (2 * x21)))) + x19) (fun x24 => zoL (x24 + (6 * v2)) (fun x25 => zoS (sh v0) 15 (fun le27 => Option.bind (mm.2.2 v0 8) (fun a28 => zoS (sh v0) 15 (fun le30 => Option.bind (mm.2.2 v0 8) (fun a31 => zoS (sh a31) 100 (fun le33 => if (x24 : Int32) < 0 ∨ le33 ≤ (x24 : Int32).toNatClampNeg then none else zoS (sh v0) 15 (fun le36 => Option.bind (mm.2.2 v0 8) (fun a37 => zoL (x24 + 3) (fun i38 => zoS (sh a37) 100 (fun le40 => if (i38 : Int32) < 0 ∨ le40 ≤ (i38 : Int32).toNatClampNeg then none else zoS (sh v0) 15 (fun le43 => Option.bind (mm.2.2 v0 8) (fun a44 => zoS (sh a44) 100 (fun le46 => if (x25 : Int32) < 0 ∨ le46 ≤ (x25 : Int32).toNatClampNeg then none else zoS (sh v0) 15 (fun le49 => Option.bind (mm.2.2 v0 8) (fun a50 => zoL (x25 + 3) (fun i51 => zoS (sh a50) 100 (fun le53 => if (i51 : Int32) < 0 ∨ le53 ≤ (i51 : Int32).toNatClampNeg then none else zoL (((((mm.1 a31 (x24 : Int32).toNatClampNeg) + (mm.1 a37 (i38 : Int32).toNatClampNeg)) + (mm.1 a44 (x25 : Int32).toNatClampNeg)) + (mm.1 a50 (i51 : Int32).toNatClampNeg)) / 4) (fun x55 => zoL (v5 + v6) (fun i56 => zoS (sh a28) 100 (fun le58 => if (i56 : Int32) < 0 ∨ le58 ≤ (i56 : Int32).toNatClampNeg then none else zoL (mI mm a28 (i56 : Int32).toNatClampNeg x55) (fun mm60 => L_MScene_makeLevels_47 sh fu v0 v1 v2 v3 v4 v5 (v6 + 1) mm60))))))))))))))))))))))))))))
set_option maxHeartbeats 4000000 in
set_option maxRecDepth 100000 in
theorem lp_MScene_makeLevels_47 {p : Program} {l : Launch} {e : Env} {s : State} {m : MethodId} {args : Array Value} {below : List Frame} {meth : Method} {c : Code} {D : va_G} {tA : Nat → ClassId} {b n : Nat} {post : Option Value → zV → Nat → Prop} {sh : zSh} (F : zF p s m args meth c zb_MScene_makeLevels 12 "OrreryBoxModel$Scene" D tA b) : ∀ (fuel : Nat) (v0 : Nat) (v1 : Int32) (v2 : Int32) (v3 : Int32) (v4 : Int32) (v5 : Int32) (v6 : Int32) (mm : zMem) (r : Nat × Int32 × Int32 × Int32 × Int32 × Int32 × Int32 × zMem), L_MScene_makeLevels_47 sh fuel v0 v1 v2 v3 v4 v5 v6 mm = some r → (Z p l e { frames := 1, cells := 0, slots := 0, locals := 25 } s m args below meth c D b 12 (MQ below (zQ D b post) args s 0 0 (fun q => b ≤ q)) (zW tA b sh r.2.2.2.2.2.2.2) n 0 0 164 [(0, .ref (b + (r.1))), (1, .int (r.2.1)), (2, .int (r.2.2.1)), (3, .int (r.2.2.2.1)), (4, .int (r.2.2.2.2.1)), (5, .int (r.2.2.2.2.2.1)), (6, .int (r.2.2.2.2.2.2.1))] []) → Z p l e { frames := 1, cells := 0, slots := 0, locals := 25 } s m args below meth c D b 12 (MQ below (zQ D b post) args s 0 0 (fun q => b ≤ q)) (zW tA b sh mm) n 0 0 47 [(0, .ref (b + v0)), (1, .int v1), (2, .int v2), (3, .int v3), (4, .int v4), (5, .int v5), (6, .int v6)] [] := by
  intro fuel
  induction fuel with
  | zero =>
    intro v0 v1 v2 v3 v4 v5 v6 mm r h
    cases h
  | succ fu ih =>
    intro v0 v1 v2 v3 v4 v5 v6 mm r h hx0
    rw [L_MScene_makeLevels_47] at h
    refine zr_iload F zd_MScene_makeLevels_47 rfl ?_
    refine zr_iconstv (v := 3) F zd_MScene_makeLevels_49 (by decide) ?_
    refine zr_iload_n F zd_MScene_makeLevels_50 rfl ?_
    refine zr_imul F zd_MScene_makeLevels_51 ?_
    refine zr_iload_n F zd_MScene_makeLevels_52 rfl ?_
    refine zr_imul F zd_MScene_makeLevels_53 ?_
    refine zr_icmp_ge F 164 zd_MScene_makeLevels_54 (by decide) (fun hb18 => ?_) (fun hb18 => ?_)
    ·
      rw [if_pos hb18] at h
      obtain rfl := Option.some.inj h
      refine zr_loc (L' := [(0, .ref (b + v0)), (1, .int v1), (2, .int v2), (3, .int v3), (4, .int v4), (5, .int v5), (6, .int v6)]) ⟨rfl, rfl, rfl, rfl, rfl, rfl, rfl, trivial⟩ ?_
      exact hx0 
    ·
      rw [if_neg hb18] at h
      refine zr_pcn 57 rfl ?_
      refine zr_iload F zd_MScene_makeLevels_57 rfl ?_
      refine zr_iconstv (v := 3) F zd_MScene_makeLevels_59 (by decide) ?_
      refine zr_irem F zd_MScene_makeLevels_60 (by decide) ?_
      obtain ⟨x19, ex19, h⟩ := zoL_s h
      rw [← ex19]
      refine zr_istore F zd_MScene_makeLevels_61 (by decide) ?_
      refine zr_iload F zd_MScene_makeLevels_63 rfl ?_
      refine zr_iconstv (v := 3) F zd_MScene_makeLevels_65 (by decide) ?_
      refine zr_idiv F zd_MScene_makeLevels_66 (by decide) ?_
      refine zr_iload_n F zd_MScene_makeLevels_67 rfl ?_
      refine zr_pcn 68 rfl ?_
      obtain ⟨hn20, h⟩ := zoI_s h
      refine zr_irem F zd_MScene_makeLevels_68 hn20 ?_
      obtain ⟨x21, ex21, h⟩ := zoL_s h
      rw [← ex21]
      refine zr_istore F zd_MScene_makeLevels_69 (by decide) ?_
      refine zr_iload F zd_MScene_makeLevels_71 rfl ?_
      refine zr_iconstv (v := 3) F zd_MScene_makeLevels_73 (by decide) ?_
      refine zr_idiv F zd_MScene_makeLevels_74 (by decide) ?_
      refine zr_iload_n F zd_MScene_makeLevels_75 rfl ?_
      obtain ⟨hn22, h⟩ := zoI_s h
      refine zr_idiv F zd_MScene_makeLevels_76 hn22 ?_
      obtain ⟨x23, ex23, h⟩ := zoL_s h
      rw [← ex23]
      refine zr_istore F zd_MScene_makeLevels_77 (by decide) ?_
      refine zr_pcn 79 rfl ?_
      refine zr_iload F zd_MScene_makeLevels_79 rfl ?_
      refine zr_iconstv (v := 3) F zd_MScene_makeLevels_81 (by decide) ?_
      refine zr_iconstv (v := 2) F zd_MScene_makeLevels_82 (by decide) ?_
      refine zr_iload_n F zd_MScene_makeLevels_83 rfl ?_
      refine zr_imul F zd_MScene_makeLevels_84 ?_
      refine zr_iconstv (v := 2) F zd_MScene_makeLevels_85 (by decide) ?_
      refine zr_imul F zd_MScene_makeLevels_86 ?_
      refine zr_iload F zd_MScene_makeLevels_87 rfl ?_
      refine zr_pcn 89 rfl ?_
      refine zr_imul F zd_MScene_makeLevels_89 ?_
      refine zr_iconstv (v := 2) F zd_MScene_makeLevels_90 (by decide) ?_
      refine zr_iload F zd_MScene_makeLevels_91 rfl ?_
      refine zr_imul F zd_MScene_makeLevels_93 ?_
      refine zr_iadd F zd_MScene_makeLevels_94 ?_
      refine zr_imul F zd_MScene_makeLevels_95 ?_
      refine zr_iadd F zd_MScene_makeLevels_96 ?_
      refine zr_iload F zd_MScene_makeLevels_97 rfl ?_
      refine zr_pcn 99 rfl ?_
      refine zr_iadd F zd_MScene_makeLevels_99 ?_
      obtain ⟨x24, ex24, h⟩ := zoL_s h
      rw [← ex24]
      refine zr_istore F zd_MScene_makeLevels_100 (by decide) ?_
      refine zr_iload F zd_MScene_makeLevels_102 rfl ?_
      refine zr_bipushv (v := 6) F zd_MScene_makeLevels_104 (by decide) ?_
      refine zr_iload_n F zd_MScene_makeLevels_106 rfl ?_
      refine zr_imul F zd_MScene_makeLevels_107 ?_
      refine zr_iadd F zd_MScene_makeLevels_108 ?_
      obtain ⟨x25, ex25, h⟩ := zoL_s h
      rw [← ex25]
      refine zr_istore F zd_MScene_makeLevels_109 (by decide) ?_
      refine zr_pcn 111 rfl ?_
      refine zr_aload_n F zd_MScene_makeLevels_111 rfl ?_
      obtain ⟨le27, hs26, h⟩ := zoS_s h
      obtain ⟨a28, ea28, h⟩ := zoB_s h
      refine zr_get F 15 8 zd_MScene_makeLevels_112 (zW_o hs26 (by decide)) rfl (by decide) zw_1340 rfl (by rfl) ?_
      refine zr_tor ea28 ?_
      refine zr_iload F zd_MScene_makeLevels_115 rfl ?_
      refine zr_iload F zd_MScene_makeLevels_117 rfl ?_
      refine zr_iadd F zd_MScene_makeLevels_119 ?_
      refine zr_aload_n F zd_MScene_makeLevels_120 rfl ?_
      obtain ⟨le30, hs29, h⟩ := zoS_s h
      obtain ⟨a31, ea31, h⟩ := zoB_s h
      refine zr_get F 15 8 zd_MScene_makeLevels_121 (zW_o hs29 (by decide)) rfl (by decide) zw_1340 rfl (by rfl) ?_
      refine zr_tor ea31 ?_
      refine zr_iload F zd_MScene_makeLevels_124 rfl ?_
      refine zr_pcn 126 rfl ?_
      obtain ⟨le33, hs32, h⟩ := zoS_s h
      obtain ⟨hi34, h⟩ := zoI_s h
      refine zr_iald F zd_MScene_makeLevels_126 (zW_a0 hs32) hi34 ?_
      refine zr_aload_n F zd_MScene_makeLevels_127 rfl ?_
      obtain ⟨le36, hs35, h⟩ := zoS_s h
      obtain ⟨a37, ea37, h⟩ := zoB_s h
      refine zr_get F 15 8 zd_MScene_makeLevels_128 (zW_o hs35 (by decide)) rfl (by decide) zw_1340 rfl (by rfl) ?_
      refine zr_tor ea37 ?_
      refine zr_iload F zd_MScene_makeLevels_131 rfl ?_
      refine zr_iconstv (v := 3) F zd_MScene_makeLevels_133 (by decide) ?_
      refine zr_iadd F zd_MScene_makeLevels_134 ?_
      obtain ⟨i38, ei38, h⟩ := zoL_s h
      rw [← ei38]
      obtain ⟨le40, hs39, h⟩ := zoS_s h
      obtain ⟨hi41, h⟩ := zoI_s h
      refine zr_iald F zd_MScene_makeLevels_135 (zW_a0 hs39) hi41 ?_
      refine zr_iadd F zd_MScene_makeLevels_136 ?_
      refine zr_pcn 137 rfl ?_
      refine zr_aload_n F zd_MScene_makeLevels_137 rfl ?_
      obtain ⟨le43, hs42, h⟩ := zoS_s h
      obtain ⟨a44, ea44, h⟩ := zoB_s h
      refine zr_get F 15 8 zd_MScene_makeLevels_138 (zW_o hs42 (by decide)) rfl (by decide) zw_1340 rfl (by rfl) ?_
      refine zr_tor ea44 ?_
      refine zr_iload F zd_MScene_makeLevels_141 rfl ?_
      obtain ⟨le46, hs45, h⟩ := zoS_s h
      obtain ⟨hi47, h⟩ := zoI_s h
      refine zr_iald F zd_MScene_makeLevels_143 (zW_a0 hs45) hi47 ?_
      refine zr_iadd F zd_MScene_makeLevels_144 ?_
      refine zr_aload_n F zd_MScene_makeLevels_145 rfl ?_
      obtain ⟨le49, hs48, h⟩ := zoS_s h
      obtain ⟨a50, ea50, h⟩ := zoB_s h
      refine zr_get F 15 8 zd_MScene_makeLevels_146 (zW_o hs48 (by decide)) rfl (by decide) zw_1340 rfl (by rfl) ?_
      refine zr_tor ea50 ?_
      refine zr_iload F zd_MScene_makeLevels_149 rfl ?_
      refine zr_pcn 151 rfl ?_
      refine zr_iconstv (v := 3) F zd_MScene_makeLevels_151 (by decide) ?_
      refine zr_iadd F zd_MScene_makeLevels_152 ?_
      obtain ⟨i51, ei51, h⟩ := zoL_s h
      rw [← ei51]
      obtain ⟨le53, hs52, h⟩ := zoS_s h
      obtain ⟨hi54, h⟩ := zoI_s h
      refine zr_iald F zd_MScene_makeLevels_153 (zW_a0 hs52) hi54 ?_
      refine zr_iadd F zd_MScene_makeLevels_154 ?_
      refine zr_iconstv (v := 4) F zd_MScene_makeLevels_155 (by decide) ?_
      refine zr_idiv F zd_MScene_makeLevels_156 (by decide) ?_
      obtain ⟨x55, ex55, h⟩ := zoL_s h
      rw [← ex55]
      obtain ⟨i56, ei56, h⟩ := zoL_s h
      rw [← ei56]
      obtain ⟨le58, hs57, h⟩ := zoS_s h
      obtain ⟨hi59, h⟩ := zoI_s h
      refine zr_iast F zd_MScene_makeLevels_157 (zW_a0 hs57) hi59 ?_
      obtain ⟨mm60, emm60, h⟩ := zoL_s h
      refine zr_norm (zW tA b sh mm60) _ (by rw [emm60]; exact zW_s0 hs57) rfl ?_
      refine zr_iinc (v := (v6 + 1)) F zd_MScene_makeLevels_158 rfl rfl (by decide) ?_
      refine zr_pcn 161 rfl ?_
      refine zr_goto F 47 zd_MScene_makeLevels_161 (by decide) ?_
      refine zr_loc (L' := [(0, .ref (b + v0)), (1, .int v1), (2, .int v2), (3, .int v3), (4, .int v4), (5, .int v5), (6, .int (v6 + 1))]) ⟨rfl, rfl, rfl, rfl, rfl, rfl, rfl, trivial⟩ ?_
      exact ih _ _ _ _ _ _ _ _ _ h hx0
def L_MScene_makeLevels_21 (sh : zSh) (fuel : Nat) (v0 : Nat) (v1 : Int32) (v2 : Int32) (v3 : Int32) (mm : zMem) : Option (Nat × Int32 × Int32 × Int32 × zMem) := match fuel with
  | 0 => none
  | fu + 1 => (if v2 < 1 then some (v0, v1, v2, v3, mm) else zoS (sh v0) 15 (fun le13 => Option.bind (F_MScene_levelAt sh mm v0 v1 (v3 - 1)) (fun p14 => zoS (sh v0) 15 (fun le16 => Option.bind (F_MScene_levelAt sh (p14.2) v0 v1 v3) (fun p17 => Option.bind (L_MScene_makeLevels_47 sh zfuel v0 v1 v2 v3 (p14.1) (p17.1) 0 (p17.2)) (fun q61 => zoL (q61.2.2.1 / 2) (fun x62 => L_MScene_makeLevels_21 sh fu (q61.1) (q61.2.1) x62 (q61.2.2.2.1 + 1) (q61.2.2.2.2.2.2.2))))))))
set_option maxHeartbeats 4000000 in
set_option maxRecDepth 100000 in
theorem lp_MScene_makeLevels_21 {p : Program} {l : Launch} {e : Env} {s : State} {m : MethodId} {args : Array Value} {below : List Frame} {meth : Method} {c : Code} {D : va_G} {tA : Nat → ClassId} {b n : Nat} {post : Option Value → zV → Nat → Prop} {sh : zSh} (F : zF p s m args meth c zb_MScene_makeLevels 12 "OrreryBoxModel$Scene" D tA b) : ∀ (fuel : Nat) (v0 : Nat) (v1 : Int32) (v2 : Int32) (v3 : Int32) (mm : zMem) (r : Nat × Int32 × Int32 × Int32 × zMem), L_MScene_makeLevels_21 sh fuel v0 v1 v2 v3 mm = some r → (Z p l e { frames := 1, cells := 0, slots := 0, locals := 25 } s m args below meth c D b 12 (MQ below (zQ D b post) args s 0 0 (fun q => b ≤ q)) (zW tA b sh r.2.2.2.2) n 0 0 174 [(0, .ref (b + (r.1))), (1, .int (r.2.1)), (2, .int (r.2.2.1)), (3, .int (r.2.2.2.1))] []) → Z p l e { frames := 1, cells := 0, slots := 0, locals := 25 } s m args below meth c D b 12 (MQ below (zQ D b post) args s 0 0 (fun q => b ≤ q)) (zW tA b sh mm) n 0 0 21 [(0, .ref (b + v0)), (1, .int v1), (2, .int v2), (3, .int v3)] [] := by
  intro fuel
  induction fuel with
  | zero =>
    intro v0 v1 v2 v3 mm r h
    cases h
  | succ fu ih =>
    intro v0 v1 v2 v3 mm r h hx0
    rw [L_MScene_makeLevels_21] at h
    refine zr_pcn 21 rfl ?_
    refine zr_iload_n F zd_MScene_makeLevels_21 rfl ?_
    refine zr_iconstv (v := 1) F zd_MScene_makeLevels_22 (by decide) ?_
    refine zr_icmp_lt F 174 zd_MScene_makeLevels_23 (by decide) (fun hb11 => ?_) (fun hb11 => ?_)
    ·
      rw [if_pos hb11] at h
      obtain rfl := Option.some.inj h
      refine zr_loc (L' := [(0, .ref (b + v0)), (1, .int v1), (2, .int v2), (3, .int v3)]) ⟨rfl, rfl, rfl, rfl, trivial⟩ ?_
      exact hx0 
    ·
      rw [if_neg hb11] at h
      refine zr_aload_n F zd_MScene_makeLevels_26 rfl ?_
      refine zr_iload_n F zd_MScene_makeLevels_27 rfl ?_
      refine zr_iload_n F zd_MScene_makeLevels_28 rfl ?_
      refine zr_iconstv (v := 1) F zd_MScene_makeLevels_29 (by decide) ?_
      refine zr_isub F zd_MScene_makeLevels_30 ?_
      refine zr_pcn 31 rfl ?_
      obtain ⟨le13, hs12, h⟩ := zoS_s h
      obtain ⟨p14, ep14, h⟩ := zoB_s h
      refine zr_callV1 F (k_MScene_levelAt l D tA b sh _ ep14) zd_MScene_makeLevels_31 (zW_o hs12 (by decide)) rfl zs_MScene_125 rfl zq_MScene_levelAt rfl rfl ⟨(Nat.le_of_ble_eq_true rfl), (Nat.le_of_ble_eq_true rfl)⟩ (Nat.le_of_ble_eq_true rfl) ⟨(Nat.le_of_ble_eq_true rfl), (Nat.le_of_ble_eq_true rfl)⟩ ?_
      refine zr_istore F zd_MScene_makeLevels_34 (by decide) ?_
      refine zr_aload_n F zd_MScene_makeLevels_36 rfl ?_
      refine zr_iload_n F zd_MScene_makeLevels_37 rfl ?_
      refine zr_iload_n F zd_MScene_makeLevels_38 rfl ?_
      obtain ⟨le16, hs15, h⟩ := zoS_s h
      obtain ⟨p17, ep17, h⟩ := zoB_s h
      refine zr_callV1 F (k_MScene_levelAt l D tA b sh _ ep17) zd_MScene_makeLevels_39 (zW_o hs15 (by decide)) rfl zs_MScene_125 rfl zq_MScene_levelAt rfl rfl ⟨(Nat.le_of_ble_eq_true rfl), (Nat.le_of_ble_eq_true rfl)⟩ (Nat.le_of_ble_eq_true rfl) ⟨(Nat.le_of_ble_eq_true rfl), (Nat.le_of_ble_eq_true rfl)⟩ ?_
      refine zr_istore F zd_MScene_makeLevels_42 (by decide) ?_
      refine zr_iconstv (v := 0) F zd_MScene_makeLevels_44 (by decide) ?_
      refine zr_pcn 45 rfl ?_
      refine zr_istore F zd_MScene_makeLevels_45 (by decide) ?_
      obtain ⟨q61, eq61, h⟩ := zoB_s h
      refine zr_loc (L' := [(0, .ref (b + v0)), (1, .int v1), (2, .int v2), (3, .int v3), (4, .int (p14.1)), (5, .int (p17.1)), (6, .int 0)]) ⟨rfl, rfl, rfl, rfl, rfl, rfl, rfl, trivial⟩ ?_
      refine lp_MScene_makeLevels_47 F _ _ _ _ _ _ _ _ _ _ eq61 ?_
      ·
        refine zr_iload_n F zd_MScene_makeLevels_164 rfl ?_
        refine zr_iconstv (v := 2) F zd_MScene_makeLevels_165 (by decide) ?_
        refine zr_idiv F zd_MScene_makeLevels_166 (by decide) ?_
        obtain ⟨x62, ex62, h⟩ := zoL_s h
        rw [← ex62]
        refine zr_istore_n F zd_MScene_makeLevels_167 (by decide) ?_
        refine zr_iinc (v := (q61.2.2.2.1 + 1)) F zd_MScene_makeLevels_168 rfl rfl (by decide) ?_
        refine zr_goto F 21 zd_MScene_makeLevels_171 (by decide) ?_
        refine zr_loc (L' := [(0, .ref (b + (q61.1))), (1, .int (q61.2.1)), (2, .int x62), (3, .int (q61.2.2.2.1 + 1))]) ⟨rfl, rfl, rfl, rfl, trivial⟩ ?_
        exact ih _ _ _ _ _ _ h hx0
def L_MScene_makeLevels_2 (sh : zSh) (fuel : Nat) (v0 : Nat) (v1 : Int32) (mm : zMem) : Option (Nat × Int32 × zMem) := match fuel with
  | 0 => none
  | fu + 1 => zoS (sh v0) 15 (fun le2 => (if (mm.1 v0 0) ≤ v1 then some (v0, v1, mm) else zoS (sh v0) 15 (fun le5 => Option.bind (mm.2.2 v0 5) (fun a6 => zoS (sh a6) 100 (fun le8 => if (v1 : Int32) < 0 ∨ le8 ≤ (v1 : Int32).toNatClampNeg then none else zoL ((mm.1 a6 (v1 : Int32).toNatClampNeg) / 2) (fun x10 => Option.bind (L_MScene_makeLevels_21 sh zfuel v0 v1 x10 1 mm) (fun q63 => L_MScene_makeLevels_2 sh fu (q63.1) (q63.2.1 + 1) (q63.2.2.2.2))))))))
set_option maxHeartbeats 4000000 in
set_option maxRecDepth 100000 in
theorem lp_MScene_makeLevels_2 {p : Program} {l : Launch} {e : Env} {s : State} {m : MethodId} {args : Array Value} {below : List Frame} {meth : Method} {c : Code} {D : va_G} {tA : Nat → ClassId} {b n : Nat} {post : Option Value → zV → Nat → Prop} {sh : zSh} (F : zF p s m args meth c zb_MScene_makeLevels 12 "OrreryBoxModel$Scene" D tA b) : ∀ (fuel : Nat) (v0 : Nat) (v1 : Int32) (mm : zMem) (r : Nat × Int32 × zMem), L_MScene_makeLevels_2 sh fuel v0 v1 mm = some r → (Z p l e { frames := 1, cells := 0, slots := 0, locals := 25 } s m args below meth c D b 12 (MQ below (zQ D b post) args s 0 0 (fun q => b ≤ q)) (zW tA b sh r.2.2) n 0 0 180 [(0, .ref (b + (r.1))), (1, .int (r.2.1))] []) → Z p l e { frames := 1, cells := 0, slots := 0, locals := 25 } s m args below meth c D b 12 (MQ below (zQ D b post) args s 0 0 (fun q => b ≤ q)) (zW tA b sh mm) n 0 0 2 [(0, .ref (b + v0)), (1, .int v1)] [] := by
  intro fuel
  induction fuel with
  | zero =>
    intro v0 v1 mm r h
    cases h
  | succ fu ih =>
    intro v0 v1 mm r h hx0
    rw [L_MScene_makeLevels_2] at h
    refine zr_iload_n F zd_MScene_makeLevels_2 rfl ?_
    refine zr_aload_n F zd_MScene_makeLevels_3 rfl ?_
    obtain ⟨le2, hs1, h⟩ := zoS_s h
    refine zr_get F 15 0 zd_MScene_makeLevels_4 (zW_o hs1 (by decide)) rfl (by decide) zw_1315 rfl (by rfl) ?_
    refine zr_icmp_ge F 180 zd_MScene_makeLevels_7 (by decide) (fun hb3 => ?_) (fun hb3 => ?_)
    ·
      rw [if_pos hb3] at h
      obtain rfl := Option.some.inj h
      refine zr_loc (L' := [(0, .ref (b + v0)), (1, .int v1)]) ⟨rfl, rfl, trivial⟩ ?_
      exact hx0 
    ·
      rw [if_neg hb3] at h
      refine zr_aload_n F zd_MScene_makeLevels_10 rfl ?_
      refine zr_pcn 11 rfl ?_
      obtain ⟨le5, hs4, h⟩ := zoS_s h
      obtain ⟨a6, ea6, h⟩ := zoB_s h
      refine zr_get F 15 5 zd_MScene_makeLevels_11 (zW_o hs4 (by decide)) rfl (by decide) zw_1331 rfl (by rfl) ?_
      refine zr_tor ea6 ?_
      refine zr_iload_n F zd_MScene_makeLevels_14 rfl ?_
      obtain ⟨le8, hs7, h⟩ := zoS_s h
      obtain ⟨hi9, h⟩ := zoI_s h
      refine zr_iald F zd_MScene_makeLevels_15 (zW_a0 hs7) hi9 ?_
      refine zr_iconstv (v := 2) F zd_MScene_makeLevels_16 (by decide) ?_
      refine zr_idiv F zd_MScene_makeLevels_17 (by decide) ?_
      obtain ⟨x10, ex10, h⟩ := zoL_s h
      rw [← ex10]
      refine zr_istore_n F zd_MScene_makeLevels_18 (by decide) ?_
      refine zr_iconstv (v := 1) F zd_MScene_makeLevels_19 (by decide) ?_
      refine zr_istore_n F zd_MScene_makeLevels_20 (by decide) ?_
      obtain ⟨q63, eq63, h⟩ := zoB_s h
      refine zr_loc (L' := [(0, .ref (b + v0)), (1, .int v1), (2, .int x10), (3, .int 1)]) ⟨rfl, rfl, rfl, rfl, trivial⟩ ?_
      refine lp_MScene_makeLevels_21 F _ _ _ _ _ _ _ eq63 ?_
      ·
        refine zr_iinc (v := (q63.2.1 + 1)) F zd_MScene_makeLevels_174 rfl rfl (by decide) ?_
        refine zr_pcn 177 rfl ?_
        refine zr_goto F 2 zd_MScene_makeLevels_177 (by decide) ?_
        refine zr_loc (L' := [(0, .ref (b + (q63.1))), (1, .int (q63.2.1 + 1))]) ⟨rfl, rfl, trivial⟩ ?_
        exact ih _ _ _ _ h hx0
def F_MScene_makeLevels (sh : zSh) (mm : zMem) (o : Nat) : Option zMem := Option.bind (L_MScene_makeLevels_2 sh zfuel o 0 mm) (fun q64 => some (q64.2.2))
set_option maxHeartbeats 4000000 in
set_option maxRecDepth 100000 in
theorem k_MScene_makeLevels (l : Launch) (D : va_G) (tA : Nat → ClassId) (b : Nat) (sh : zSh) (n : Nat) {mm : zMem} {o : Nat} {r : zMem} (h : F_MScene_makeLevels sh mm o = some r) : zM l D tA b zy_MScene_makeLevels zb_MScene_makeLevels 12 none 1 25 0 0 [.ref (b + o)] (zW tA b sh mm) n (zE none (zW tA b sh r) n) := by
  unfold F_MScene_makeLevels at h
  refine zM_of (own := "OrreryBoxModel$Scene") (plainFor_of_name (by decide)) rfl (Nat.le_of_ble_eq_true rfl) (fun p e s m below meth c F hr hin hH => ?_)
  refine zr_iconstv (v := 0) F zd_MScene_makeLevels_0 (by decide) ?_
  refine zr_istore_n F zd_MScene_makeLevels_1 (by decide) ?_
  obtain ⟨q64, eq64, h⟩ := zoB_s h
  refine zr_loc (L' := [(0, .ref (b + o)), (1, .int 0)]) ⟨rfl, rfl, trivial⟩ ?_
  refine lp_MScene_makeLevels_2 F _ _ _ _ _ eq64 ?_
  ·
    obtain rfl := Option.some.inj h
    exact zr_vret F hr zd_MScene_makeLevels_180 (Nat.le_of_ble_eq_true rfl) (Nat.le_of_ble_eq_true rfl) ⟨rfl, rfl, rfl⟩
abbrev zb_MScene_between : ByteArray := prog_18_method_9_code
def zy_MScene_between : MethodName := ⟨"OrreryBoxModel$Scene", "between", "(IIII)I"⟩
theorem zc_MScene_between : Cond.code zy_MScene_between zb_MScene_between 17 (some .int) ∈ gw := gw_t 1946 (by decide +kernel) rfl
theorem zq_MScene_between : zy_MScene_between.cls ≠ "java/lang/invoke/MethodHandle" ∧ zy_MScene_between.cls ≠ "java/lang/invoke/VarHandle" ∧ (parseMethodDescriptor zy_MScene_between.desc).map (fun d => d.parameters.length) = some 4 := by decide +kernel
theorem zd_MScene_between_0 : decode zb_MScene_between 0 = .ok (.aload_n 0, 1) := by decide +kernel
theorem zd_MScene_between_1 : decode zb_MScene_between 1 = .ok (.getfield 83, 3) := by decide +kernel
theorem zd_MScene_between_4 : decode zb_MScene_between 4 = .ok (.bipush 32, 2) := by decide +kernel
theorem zd_MScene_between_6 : decode zb_MScene_between 6 = .ok (.iload_n 1, 1) := by decide +kernel
theorem zd_MScene_between_7 : decode zb_MScene_between 7 = .ok (.imul, 1) := by decide +kernel
theorem zd_MScene_between_8 : decode zb_MScene_between 8 = .ok (.iload_n 2, 1) := by decide +kernel
theorem zd_MScene_between_9 : decode zb_MScene_between 9 = .ok (.iadd, 1) := by decide +kernel
theorem zd_MScene_between_10 : decode zb_MScene_between 10 = .ok (.iconst 1, 1) := by decide +kernel
theorem zd_MScene_between_11 : decode zb_MScene_between 11 = .ok (.isub, 1) := by decide +kernel
theorem zd_MScene_between_12 : decode zb_MScene_between 12 = .ok (.iaload, 1) := by decide +kernel
theorem zd_MScene_between_13 : decode zb_MScene_between 13 = .ok (.i2l, 1) := by decide +kernel
theorem zd_MScene_between_14 : decode zb_MScene_between 14 = .ok (.lstore 5, 2) := by decide +kernel
theorem zd_MScene_between_16 : decode zb_MScene_between 16 = .ok (.aload_n 0, 1) := by decide +kernel
theorem zd_MScene_between_17 : decode zb_MScene_between 17 = .ok (.getfield 83, 3) := by decide +kernel
theorem zd_MScene_between_20 : decode zb_MScene_between 20 = .ok (.bipush 32, 2) := by decide +kernel
theorem zd_MScene_between_22 : decode zb_MScene_between 22 = .ok (.iload_n 1, 1) := by decide +kernel
theorem zd_MScene_between_23 : decode zb_MScene_between 23 = .ok (.imul, 1) := by decide +kernel
theorem zd_MScene_between_24 : decode zb_MScene_between 24 = .ok (.iload_n 2, 1) := by decide +kernel
theorem zd_MScene_between_25 : decode zb_MScene_between 25 = .ok (.iadd, 1) := by decide +kernel
theorem zd_MScene_between_26 : decode zb_MScene_between 26 = .ok (.iaload, 1) := by decide +kernel
theorem zd_MScene_between_27 : decode zb_MScene_between 27 = .ok (.i2l, 1) := by decide +kernel
theorem zd_MScene_between_28 : decode zb_MScene_between 28 = .ok (.lstore 7, 2) := by decide +kernel
theorem zd_MScene_between_30 : decode zb_MScene_between 30 = .ok (.aload_n 0, 1) := by decide +kernel
theorem zd_MScene_between_31 : decode zb_MScene_between 31 = .ok (.getfield 86, 3) := by decide +kernel
theorem zd_MScene_between_34 : decode zb_MScene_between 34 = .ok (.bipush 96, 2) := by decide +kernel
theorem zd_MScene_between_36 : decode zb_MScene_between 36 = .ok (.iload_n 1, 1) := by decide +kernel
theorem zd_MScene_between_37 : decode zb_MScene_between 37 = .ok (.imul, 1) := by decide +kernel
theorem zd_MScene_between_38 : decode zb_MScene_between 38 = .ok (.iconst 3, 1) := by decide +kernel
theorem zd_MScene_between_39 : decode zb_MScene_between 39 = .ok (.iload_n 2, 1) := by decide +kernel
theorem zd_MScene_between_40 : decode zb_MScene_between 40 = .ok (.iconst 1, 1) := by decide +kernel
theorem zd_MScene_between_41 : decode zb_MScene_between 41 = .ok (.isub, 1) := by decide +kernel
theorem zd_MScene_between_42 : decode zb_MScene_between 42 = .ok (.imul, 1) := by decide +kernel
theorem zd_MScene_between_43 : decode zb_MScene_between 43 = .ok (.iadd, 1) := by decide +kernel
theorem zd_MScene_between_44 : decode zb_MScene_between 44 = .ok (.iload_n 3, 1) := by decide +kernel
theorem zd_MScene_between_45 : decode zb_MScene_between 45 = .ok (.iadd, 1) := by decide +kernel
theorem zd_MScene_between_46 : decode zb_MScene_between 46 = .ok (.iaload, 1) := by decide +kernel
theorem zd_MScene_between_47 : decode zb_MScene_between 47 = .ok (.i2l, 1) := by decide +kernel
theorem zd_MScene_between_48 : decode zb_MScene_between 48 = .ok (.lstore 9, 2) := by decide +kernel
theorem zd_MScene_between_50 : decode zb_MScene_between 50 = .ok (.aload_n 0, 1) := by decide +kernel
theorem zd_MScene_between_51 : decode zb_MScene_between 51 = .ok (.getfield 86, 3) := by decide +kernel
theorem zd_MScene_between_54 : decode zb_MScene_between 54 = .ok (.bipush 96, 2) := by decide +kernel
theorem zd_MScene_between_56 : decode zb_MScene_between 56 = .ok (.iload_n 1, 1) := by decide +kernel
theorem zd_MScene_between_57 : decode zb_MScene_between 57 = .ok (.imul, 1) := by decide +kernel
theorem zd_MScene_between_58 : decode zb_MScene_between 58 = .ok (.iconst 3, 1) := by decide +kernel
theorem zd_MScene_between_59 : decode zb_MScene_between 59 = .ok (.iload_n 2, 1) := by decide +kernel
theorem zd_MScene_between_60 : decode zb_MScene_between 60 = .ok (.imul, 1) := by decide +kernel
theorem zd_MScene_between_61 : decode zb_MScene_between 61 = .ok (.iadd, 1) := by decide +kernel
theorem zd_MScene_between_62 : decode zb_MScene_between 62 = .ok (.iload_n 3, 1) := by decide +kernel
theorem zd_MScene_between_63 : decode zb_MScene_between 63 = .ok (.iadd, 1) := by decide +kernel
theorem zd_MScene_between_64 : decode zb_MScene_between 64 = .ok (.iaload, 1) := by decide +kernel
theorem zd_MScene_between_65 : decode zb_MScene_between 65 = .ok (.i2l, 1) := by decide +kernel
theorem zd_MScene_between_66 : decode zb_MScene_between 66 = .ok (.lstore 11, 2) := by decide +kernel
theorem zd_MScene_between_68 : decode zb_MScene_between 68 = .ok (.aload_n 0, 1) := by decide +kernel
theorem zd_MScene_between_69 : decode zb_MScene_between 69 = .ok (.getfield 77, 3) := by decide +kernel
theorem zd_MScene_between_72 : decode zb_MScene_between 72 = .ok (.iload_n 1, 1) := by decide +kernel
theorem zd_MScene_between_73 : decode zb_MScene_between 73 = .ok (.iaload, 1) := by decide +kernel
theorem zd_MScene_between_74 : decode zb_MScene_between 74 = .ok (.ifCond .ne 7, 3) := by decide +kernel
theorem zd_MScene_between_77 : decode zb_MScene_between 77 = .ok (.lload 9, 2) := by decide +kernel
theorem zd_MScene_between_79 : decode zb_MScene_between 79 = .ok (.l2i, 1) := by decide +kernel
theorem zd_MScene_between_80 : decode zb_MScene_between 80 = .ok (.ireturn, 1) := by decide +kernel
theorem zd_MScene_between_81 : decode zb_MScene_between 81 = .ok (.aload_n 0, 1) := by decide +kernel
theorem zd_MScene_between_82 : decode zb_MScene_between 82 = .ok (.getfield 77, 3) := by decide +kernel
theorem zd_MScene_between_85 : decode zb_MScene_between 85 = .ok (.iload_n 1, 1) := by decide +kernel
theorem zd_MScene_between_86 : decode zb_MScene_between 86 = .ok (.iaload, 1) := by decide +kernel
theorem zd_MScene_between_87 : decode zb_MScene_between 87 = .ok (.iconst 1, 1) := by decide +kernel
theorem zd_MScene_between_88 : decode zb_MScene_between 88 = .ok (.if_icmp .ne 28, 3) := by decide +kernel
theorem zd_MScene_between_91 : decode zb_MScene_between 91 = .ok (.lload 9, 2) := by decide +kernel
theorem zd_MScene_between_93 : decode zb_MScene_between 93 = .ok (.lload 11, 2) := by decide +kernel
theorem zd_MScene_between_95 : decode zb_MScene_between 95 = .ok (.lload 9, 2) := by decide +kernel
theorem zd_MScene_between_97 : decode zb_MScene_between 97 = .ok (.lsub, 1) := by decide +kernel
theorem zd_MScene_between_98 : decode zb_MScene_between 98 = .ok (.iload 4, 2) := by decide +kernel
theorem zd_MScene_between_100 : decode zb_MScene_between 100 = .ok (.i2l, 1) := by decide +kernel
theorem zd_MScene_between_101 : decode zb_MScene_between 101 = .ok (.lload 5, 2) := by decide +kernel
theorem zd_MScene_between_103 : decode zb_MScene_between 103 = .ok (.lsub, 1) := by decide +kernel
theorem zd_MScene_between_104 : decode zb_MScene_between 104 = .ok (.lmul, 1) := by decide +kernel
theorem zd_MScene_between_105 : decode zb_MScene_between 105 = .ok (.lload 7, 2) := by decide +kernel
theorem zd_MScene_between_107 : decode zb_MScene_between 107 = .ok (.lload 5, 2) := by decide +kernel
theorem zd_MScene_between_109 : decode zb_MScene_between 109 = .ok (.lsub, 1) := by decide +kernel
theorem zd_MScene_between_110 : decode zb_MScene_between 110 = .ok (.invokestatic 137, 3) := by decide +kernel
theorem zd_MScene_between_113 : decode zb_MScene_between 113 = .ok (.ladd, 1) := by decide +kernel
theorem zd_MScene_between_114 : decode zb_MScene_between 114 = .ok (.l2i, 1) := by decide +kernel
theorem zd_MScene_between_115 : decode zb_MScene_between 115 = .ok (.ireturn, 1) := by decide +kernel
theorem zd_MScene_between_116 : decode zb_MScene_between 116 = .ok (.iload 4, 2) := by decide +kernel
theorem zd_MScene_between_118 : decode zb_MScene_between 118 = .ok (.i2l, 1) := by decide +kernel
theorem zd_MScene_between_119 : decode zb_MScene_between 119 = .ok (.lload 5, 2) := by decide +kernel
theorem zd_MScene_between_121 : decode zb_MScene_between 121 = .ok (.lsub, 1) := by decide +kernel
theorem zd_MScene_between_122 : decode zb_MScene_between 122 = .ok (.ldc2_w 143, 3) := by decide +kernel
theorem zd_MScene_between_125 : decode zb_MScene_between 125 = .ok (.lmul, 1) := by decide +kernel
theorem zd_MScene_between_126 : decode zb_MScene_between 126 = .ok (.lload 7, 2) := by decide +kernel
theorem zd_MScene_between_128 : decode zb_MScene_between 128 = .ok (.lload 5, 2) := by decide +kernel
theorem zd_MScene_between_130 : decode zb_MScene_between 130 = .ok (.lsub, 1) := by decide +kernel
theorem zd_MScene_between_131 : decode zb_MScene_between 131 = .ok (.invokestatic 137, 3) := by decide +kernel
theorem zd_MScene_between_134 : decode zb_MScene_between 134 = .ok (.lstore 13, 2) := by decide +kernel
theorem zd_MScene_between_136 : decode zb_MScene_between 136 = .ok (.lload 13, 2) := by decide +kernel
theorem zd_MScene_between_138 : decode zb_MScene_between 138 = .ok (.lload 13, 2) := by decide +kernel
theorem zd_MScene_between_140 : decode zb_MScene_between 140 = .ok (.invokestatic 145, 3) := by decide +kernel
theorem zd_MScene_between_143 : decode zb_MScene_between 143 = .ok (.ldc2_w 150, 3) := by decide +kernel
theorem zd_MScene_between_146 : decode zb_MScene_between 146 = .ok (.ldc2_w 152, 3) := by decide +kernel
theorem zd_MScene_between_149 : decode zb_MScene_between 149 = .ok (.lload 13, 2) := by decide +kernel
theorem zd_MScene_between_151 : decode zb_MScene_between 151 = .ok (.lmul, 1) := by decide +kernel
theorem zd_MScene_between_152 : decode zb_MScene_between 152 = .ok (.lsub, 1) := by decide +kernel
theorem zd_MScene_between_153 : decode zb_MScene_between 153 = .ok (.invokestatic 145, 3) := by decide +kernel
theorem zd_MScene_between_156 : decode zb_MScene_between 156 = .ok (.lstore 15, 2) := by decide +kernel
theorem zd_MScene_between_158 : decode zb_MScene_between 158 = .ok (.lload 9, 2) := by decide +kernel
theorem zd_MScene_between_160 : decode zb_MScene_between 160 = .ok (.lload 11, 2) := by decide +kernel
theorem zd_MScene_between_162 : decode zb_MScene_between 162 = .ok (.lload 9, 2) := by decide +kernel
theorem zd_MScene_between_164 : decode zb_MScene_between 164 = .ok (.lsub, 1) := by decide +kernel
theorem zd_MScene_between_165 : decode zb_MScene_between 165 = .ok (.lload 15, 2) := by decide +kernel
theorem zd_MScene_between_167 : decode zb_MScene_between 167 = .ok (.invokestatic 145, 3) := by decide +kernel
theorem zd_MScene_between_170 : decode zb_MScene_between 170 = .ok (.ladd, 1) := by decide +kernel
theorem zd_MScene_between_171 : decode zb_MScene_between 171 = .ok (.l2i, 1) := by decide +kernel
theorem zd_MScene_between_172 : decode zb_MScene_between 172 = .ok (.ireturn, 1) := by decide +kernel
theorem zw_1948 : (Jvm.Cond.constantLong "OrreryBoxModel$Scene" (143 : Nat) (65536 : Int64)) ∈ gw := gw_t 1948 (by decide +kernel) rfl
theorem zw_1947 : (Jvm.Cond.methodLink "OrreryBoxModel$Scene" (137 : Nat) ({ cls := "java/lang/Math", name := "floorDiv", desc := "(JJ)J" } : Jvm.MethodName)) ∈ gw := gw_t 1947 (by decide +kernel) rfl
theorem zs_MScene_137 : zwS "OrreryBoxModel$Scene" 137 zy_JMath_floorDiv zb_JMath_floorDiv 6 (some .long) := ⟨zw_1947, zw_574, zw_4, zc_JMath_floorDiv⟩
theorem zw_1949 : (Jvm.Cond.methodLink "OrreryBoxModel$Scene" (145 : Nat) ({ cls := "OrreryBoxModel$Painter", name := "mul", desc := "(JJ)J" } : Jvm.MethodName)) ∈ gw := gw_t 1949 (by decide +kernel) rfl
theorem zs_MScene_145 : zwS "OrreryBoxModel$Scene" 145 zy_MPainter_mul zb_MPainter_mul 4 (some .long) := ⟨zw_1949, zw_1950, zw_17, zc_MPainter_mul⟩
theorem zw_1954 : (Jvm.Cond.constantLong "OrreryBoxModel$Scene" (150 : Nat) (196608 : Int64)) ∈ gw := gw_t 1954 (by decide +kernel) rfl
theorem zw_1955 : (Jvm.Cond.constantLong "OrreryBoxModel$Scene" (152 : Nat) (2 : Int64)) ∈ gw := gw_t 1955 (by decide +kernel) rfl
def F_MScene_between (sh : zSh) (mm : zMem) (o : Nat) (x0_ : Int32) (x1_ : Int32) (x2_ : Int32) (x3_ : Int32) : Option (Int32 × zMem) := zoS (sh o) 15 (fun le2 => Option.bind (mm.2.2 o 29) (fun a3 => zoL (((32 * x0_) + x1_) - 1) (fun i4 => zoS (sh a3) 100 (fun le6 => if (i4 : Int32) < 0 ∨ le6 ≤ (i4 : Int32).toNatClampNeg then none else zoL (((mm.1 a3 (i4 : Int32).toNatClampNeg) : Int32).toInt64) (fun x8 => zoS (sh o) 15 (fun le10 => Option.bind (mm.2.2 o 29) (fun a11 => zoL ((32 * x0_) + x1_) (fun i12 => zoS (sh a11) 100 (fun le14 => if (i12 : Int32) < 0 ∨ le14 ≤ (i12 : Int32).toNatClampNeg then none else zoL (((mm.1 a11 (i12 : Int32).toNatClampNeg) : Int32).toInt64) (fun x16 => zoS (sh o) 15 (fun le18 => Option.bind (mm.2.2 o 30) (fun a19 => zoL (((96 * x0_) + (3 * (x1_ - 1))) + x2_) (fun i20 => zoS (sh a19) 100 (fun le22 => if (i20 : Int32) < 0 ∨ le22 ≤ (i20 : Int32).toNatClampNeg then none else zoL (((mm.1 a19 (i20 : Int32).toNatClampNeg) : Int32).toInt64) (fun x24 => zoS (sh o) 15 (fun le26 => Option.bind (mm.2.2 o 30) (fun a27 => zoL (((96 * x0_) + (3 * x1_)) + x2_) (fun i28 => zoS (sh a27) 100 (fun le30 => if (i28 : Int32) < 0 ∨ le30 ≤ (i28 : Int32).toNatClampNeg then none else zoL (((mm.1 a27 (i28 : Int32).toNatClampNeg) : Int32).toInt64) (fun x32 => zoS (sh o) 15 (fun le34 => Option.bind (mm.2.2 o 27) (fun a35 => zoS (sh a35) 100 (fun le37 => if (x0_ : Int32) < 0 ∨ le37 ≤ (x0_ : Int32).toNatClampNeg then none else (if (mm.1 a35 (x0_ : Int32).toNatClampNeg) = 0 then some (((x24 : Int64).toInt32), mm) else zoS (sh o) 15 (fun le41 => Option.bind (mm.2.2 o 27) (fun a42 => zoS (sh a42) 100 (fun le44 => if (x0_ : Int32) < 0 ∨ le44 ≤ (x0_ : Int32).toNatClampNeg then none else (if (mm.1 a42 (x0_ : Int32).toNatClampNeg) = 1 then zoL ((x32 - x24) * (((x3_ : Int32).toInt64) - x8)) (fun x54 => Option.bind (F_JMath_floorDiv sh mm x54 (x16 - x8)) (fun p55 => some ((((x24 + p55.1) : Int64).toInt32), p55.2))) else zoL ((((x3_ : Int32).toInt64) - x8) * 65536) (fun x47 => Option.bind (F_JMath_floorDiv sh mm x47 (x16 - x8)) (fun p48 => zoL (sp_MPainter_mul (p48.1) (p48.1)) (fun x50 => zoL (sp_MPainter_mul x50 (196608 - (2 * p48.1))) (fun x52 => some ((((x24 + (sp_MPainter_mul (x32 - x24) x52)) : Int64).toInt32), p48.2)))))))))))))))))))))))))))))))))
set_option maxHeartbeats 4000000 in
set_option maxRecDepth 100000 in
theorem k_MScene_between (l : Launch) (D : va_G) (tA : Nat → ClassId) (b : Nat) (sh : zSh) (n : Nat) {mm : zMem} {o : Nat} {x0_ : Int32} {x1_ : Int32} {x2_ : Int32} {x3_ : Int32} {r : (Int32 × zMem)} (h : F_MScene_between sh mm o x0_ x1_ x2_ x3_ = some r) : zM l D tA b zy_MScene_between zb_MScene_between 17 (some .int) 2 48 0 0 [.ref (b + o), .int x0_, .int x1_, .int x2_, .int x3_] (zW tA b sh mm) n (zE (some (.int (r.1))) (zW tA b sh r.2) n) := by
  unfold F_MScene_between at h
  refine zM_of (own := "OrreryBoxModel$Scene") (plainFor_of_name (by decide)) rfl (Nat.le_of_ble_eq_true rfl) (fun p e s m below meth c F hr hin hH => ?_)
  refine zr_aload_n F zd_MScene_between_0 rfl ?_
  obtain ⟨le2, hs1, h⟩ := zoS_s h
  obtain ⟨a3, ea3, h⟩ := zoB_s h
  refine zr_get F 15 29 zd_MScene_between_1 (zW_o hs1 (by decide)) rfl (by decide) zw_1400 rfl (by rfl) ?_
  refine zr_tor ea3 ?_
  refine zr_bipushv (v := 32) F zd_MScene_between_4 (by decide) ?_
  refine zr_iload_n F zd_MScene_between_6 rfl ?_
  refine zr_imul F zd_MScene_between_7 ?_
  refine zr_iload_n F zd_MScene_between_8 rfl ?_
  refine zr_iadd F zd_MScene_between_9 ?_
  refine zr_pcn 10 rfl ?_
  refine zr_iconstv (v := 1) F zd_MScene_between_10 (by decide) ?_
  refine zr_isub F zd_MScene_between_11 ?_
  obtain ⟨i4, ei4, h⟩ := zoL_s h
  rw [← ei4]
  obtain ⟨le6, hs5, h⟩ := zoS_s h
  obtain ⟨hi7, h⟩ := zoI_s h
  refine zr_iald F zd_MScene_between_12 (zW_a0 hs5) hi7 ?_
  refine zr_i2l F zd_MScene_between_13 ?_
  obtain ⟨x8, ex8, h⟩ := zoL_s h
  rw [← ex8]
  refine zr_lstore F zd_MScene_between_14 (by decide) ?_
  refine zr_aload_n F zd_MScene_between_16 rfl ?_
  obtain ⟨le10, hs9, h⟩ := zoS_s h
  obtain ⟨a11, ea11, h⟩ := zoB_s h
  refine zr_get F 15 29 zd_MScene_between_17 (zW_o hs9 (by decide)) rfl (by decide) zw_1400 rfl (by rfl) ?_
  refine zr_tor ea11 ?_
  refine zr_bipushv (v := 32) F zd_MScene_between_20 (by decide) ?_
  refine zr_pcn 22 rfl ?_
  refine zr_iload_n F zd_MScene_between_22 rfl ?_
  refine zr_imul F zd_MScene_between_23 ?_
  refine zr_iload_n F zd_MScene_between_24 rfl ?_
  refine zr_iadd F zd_MScene_between_25 ?_
  obtain ⟨i12, ei12, h⟩ := zoL_s h
  rw [← ei12]
  obtain ⟨le14, hs13, h⟩ := zoS_s h
  obtain ⟨hi15, h⟩ := zoI_s h
  refine zr_iald F zd_MScene_between_26 (zW_a0 hs13) hi15 ?_
  refine zr_i2l F zd_MScene_between_27 ?_
  obtain ⟨x16, ex16, h⟩ := zoL_s h
  rw [← ex16]
  refine zr_lstore F zd_MScene_between_28 (by decide) ?_
  refine zr_aload_n F zd_MScene_between_30 rfl ?_
  refine zr_pcn 31 rfl ?_
  obtain ⟨le18, hs17, h⟩ := zoS_s h
  obtain ⟨a19, ea19, h⟩ := zoB_s h
  refine zr_get F 15 30 zd_MScene_between_31 (zW_o hs17 (by decide)) rfl (by decide) zw_1402 rfl (by rfl) ?_
  refine zr_tor ea19 ?_
  refine zr_bipushv (v := 96) F zd_MScene_between_34 (by decide) ?_
  refine zr_iload_n F zd_MScene_between_36 rfl ?_
  refine zr_imul F zd_MScene_between_37 ?_
  refine zr_iconstv (v := 3) F zd_MScene_between_38 (by decide) ?_
  refine zr_iload_n F zd_MScene_between_39 rfl ?_
  refine zr_iconstv (v := 1) F zd_MScene_between_40 (by decide) ?_
  refine zr_isub F zd_MScene_between_41 ?_
  refine zr_pcn 42 rfl ?_
  refine zr_imul F zd_MScene_between_42 ?_
  refine zr_iadd F zd_MScene_between_43 ?_
  refine zr_iload_n F zd_MScene_between_44 rfl ?_
  refine zr_iadd F zd_MScene_between_45 ?_
  obtain ⟨i20, ei20, h⟩ := zoL_s h
  rw [← ei20]
  obtain ⟨le22, hs21, h⟩ := zoS_s h
  obtain ⟨hi23, h⟩ := zoI_s h
  refine zr_iald F zd_MScene_between_46 (zW_a0 hs21) hi23 ?_
  refine zr_i2l F zd_MScene_between_47 ?_
  obtain ⟨x24, ex24, h⟩ := zoL_s h
  rw [← ex24]
  refine zr_lstore F zd_MScene_between_48 (by decide) ?_
  refine zr_aload_n F zd_MScene_between_50 rfl ?_
  refine zr_pcn 51 rfl ?_
  obtain ⟨le26, hs25, h⟩ := zoS_s h
  obtain ⟨a27, ea27, h⟩ := zoB_s h
  refine zr_get F 15 30 zd_MScene_between_51 (zW_o hs25 (by decide)) rfl (by decide) zw_1402 rfl (by rfl) ?_
  refine zr_tor ea27 ?_
  refine zr_bipushv (v := 96) F zd_MScene_between_54 (by decide) ?_
  refine zr_iload_n F zd_MScene_between_56 rfl ?_
  refine zr_imul F zd_MScene_between_57 ?_
  refine zr_iconstv (v := 3) F zd_MScene_between_58 (by decide) ?_
  refine zr_iload_n F zd_MScene_between_59 rfl ?_
  refine zr_imul F zd_MScene_between_60 ?_
  refine zr_iadd F zd_MScene_between_61 ?_
  refine zr_pcn 62 rfl ?_
  refine zr_iload_n F zd_MScene_between_62 rfl ?_
  refine zr_iadd F zd_MScene_between_63 ?_
  obtain ⟨i28, ei28, h⟩ := zoL_s h
  rw [← ei28]
  obtain ⟨le30, hs29, h⟩ := zoS_s h
  obtain ⟨hi31, h⟩ := zoI_s h
  refine zr_iald F zd_MScene_between_64 (zW_a0 hs29) hi31 ?_
  refine zr_i2l F zd_MScene_between_65 ?_
  obtain ⟨x32, ex32, h⟩ := zoL_s h
  rw [← ex32]
  refine zr_lstore F zd_MScene_between_66 (by decide) ?_
  refine zr_aload_n F zd_MScene_between_68 rfl ?_
  obtain ⟨le34, hs33, h⟩ := zoS_s h
  obtain ⟨a35, ea35, h⟩ := zoB_s h
  refine zr_get F 15 27 zd_MScene_between_69 (zW_o hs33 (by decide)) rfl (by decide) zw_1396 rfl (by rfl) ?_
  refine zr_tor ea35 ?_
  refine zr_iload_n F zd_MScene_between_72 rfl ?_
  refine zr_pcn 73 rfl ?_
  obtain ⟨le37, hs36, h⟩ := zoS_s h
  obtain ⟨hi38, h⟩ := zoI_s h
  refine zr_iald F zd_MScene_between_73 (zW_a0 hs36) hi38 ?_
  refine zr_if_ne F 81 zd_MScene_between_74 (by decide) (fun hb39 => ?_) (fun hb39 => ?_)
  ·
    rw [if_neg hb39] at h
    refine zr_aload_n F zd_MScene_between_81 rfl ?_
    obtain ⟨le41, hs40, h⟩ := zoS_s h
    obtain ⟨a42, ea42, h⟩ := zoB_s h
    refine zr_get F 15 27 zd_MScene_between_82 (zW_o hs40 (by decide)) rfl (by decide) zw_1396 rfl (by rfl) ?_
    refine zr_tor ea42 ?_
    refine zr_iload_n F zd_MScene_between_85 rfl ?_
    obtain ⟨le44, hs43, h⟩ := zoS_s h
    obtain ⟨hi45, h⟩ := zoI_s h
    refine zr_iald F zd_MScene_between_86 (zW_a0 hs43) hi45 ?_
    refine zr_iconstv (v := 1) F zd_MScene_between_87 (by decide) ?_
    refine zr_icmp_ne F 116 zd_MScene_between_88 (by decide) (fun hb46 => ?_) (fun hb46 => ?_)
    ·
      rw [if_neg hb46] at h
      refine zr_pcn 116 rfl ?_
      refine zr_iload F zd_MScene_between_116 rfl ?_
      refine zr_i2l F zd_MScene_between_118 ?_
      refine zr_lload F zd_MScene_between_119 rfl ?_
      refine zr_lsub F zd_MScene_between_121 ?_
      refine zr_ldc2 F zd_MScene_between_122 zw_1948 ?_
      refine zr_lmul F zd_MScene_between_125 ?_
      refine zr_lload F zd_MScene_between_126 rfl ?_
      refine zr_lload F zd_MScene_between_128 rfl ?_
      refine zr_pcn 130 rfl ?_
      refine zr_lsub F zd_MScene_between_130 ?_
      obtain ⟨x47, ex47, h⟩ := zoL_s h
      rw [← ex47]
      obtain ⟨p48, ep48, h⟩ := zoB_s h
      refine zr_callS1 F (k_JMath_floorDiv l D tA b sh _ ep48) zd_MScene_between_131 zs_MScene_137 zq_JMath_floorDiv rfl rfl ⟨(Nat.le_of_ble_eq_true rfl), (Nat.le_of_ble_eq_true rfl)⟩ (Nat.le_of_ble_eq_true rfl) ⟨(Nat.le_of_ble_eq_true rfl), (Nat.le_of_ble_eq_true rfl)⟩ ?_
      refine zr_lstore F zd_MScene_between_134 (by decide) ?_
      refine zr_lload F zd_MScene_between_136 rfl ?_
      refine zr_lload F zd_MScene_between_138 rfl ?_
      refine zr_callS1 F (c_MPainter_mul l D tA b _ _ (p48.1) (p48.1)) zd_MScene_between_140 zs_MScene_145 zq_MPainter_mul rfl rfl ⟨(Nat.le_of_ble_eq_true rfl), (Nat.le_of_ble_eq_true rfl)⟩ (Nat.le_of_ble_eq_true rfl) ⟨(Nat.le_of_ble_eq_true rfl), (Nat.le_of_ble_eq_true rfl)⟩ ?_
      refine zr_ldc2 F zd_MScene_between_143 zw_1954 ?_
      refine zr_ldc2 F zd_MScene_between_146 zw_1955 ?_
      refine zr_pcn 149 rfl ?_
      refine zr_lload F zd_MScene_between_149 rfl ?_
      refine zr_lmul F zd_MScene_between_151 ?_
      refine zr_lsub F zd_MScene_between_152 ?_
      obtain ⟨x50, ex50, h⟩ := zoL_s h
      rw [← ex50]
      refine zr_callS1 F (c_MPainter_mul l D tA b _ _ x50 (196608 - (2 * p48.1))) zd_MScene_between_153 zs_MScene_145 zq_MPainter_mul rfl rfl ⟨(Nat.le_of_ble_eq_true rfl), (Nat.le_of_ble_eq_true rfl)⟩ (Nat.le_of_ble_eq_true rfl) ⟨(Nat.le_of_ble_eq_true rfl), (Nat.le_of_ble_eq_true rfl)⟩ ?_
      obtain ⟨x52, ex52, h⟩ := zoL_s h
      rw [← ex52]
      refine zr_lstore F zd_MScene_between_156 (by decide) ?_
      refine zr_lload F zd_MScene_between_158 rfl ?_
      refine zr_lload F zd_MScene_between_160 rfl ?_
      refine zr_lload F zd_MScene_between_162 rfl ?_
      refine zr_pcn 164 rfl ?_
      refine zr_lsub F zd_MScene_between_164 ?_
      refine zr_lload F zd_MScene_between_165 rfl ?_
      refine zr_callS1 F (c_MPainter_mul l D tA b _ _ (x32 - x24) x52) zd_MScene_between_167 zs_MScene_145 zq_MPainter_mul rfl rfl ⟨(Nat.le_of_ble_eq_true rfl), (Nat.le_of_ble_eq_true rfl)⟩ (Nat.le_of_ble_eq_true rfl) ⟨(Nat.le_of_ble_eq_true rfl), (Nat.le_of_ble_eq_true rfl)⟩ ?_
      refine zr_ladd F zd_MScene_between_170 ?_
      refine zr_l2i F zd_MScene_between_171 ?_
      obtain rfl := Option.some.inj h
      exact zr_iret F hr zd_MScene_between_172 (Nat.le_of_ble_eq_true rfl) (Nat.le_of_ble_eq_true rfl) ⟨rfl, rfl, rfl⟩
    ·
      rw [if_pos hb46] at h
      refine zr_lload F zd_MScene_between_91 rfl ?_
      refine zr_lload F zd_MScene_between_93 rfl ?_
      refine zr_pcn 95 rfl ?_
      refine zr_lload F zd_MScene_between_95 rfl ?_
      refine zr_lsub F zd_MScene_between_97 ?_
      refine zr_iload F zd_MScene_between_98 rfl ?_
      refine zr_i2l F zd_MScene_between_100 ?_
      refine zr_lload F zd_MScene_between_101 rfl ?_
      refine zr_lsub F zd_MScene_between_103 ?_
      refine zr_lmul F zd_MScene_between_104 ?_
      refine zr_lload F zd_MScene_between_105 rfl ?_
      refine zr_pcn 107 rfl ?_
      refine zr_lload F zd_MScene_between_107 rfl ?_
      refine zr_lsub F zd_MScene_between_109 ?_
      obtain ⟨x54, ex54, h⟩ := zoL_s h
      rw [← ex54]
      obtain ⟨p55, ep55, h⟩ := zoB_s h
      refine zr_callS1 F (k_JMath_floorDiv l D tA b sh _ ep55) zd_MScene_between_110 zs_MScene_137 zq_JMath_floorDiv rfl rfl ⟨(Nat.le_of_ble_eq_true rfl), (Nat.le_of_ble_eq_true rfl)⟩ (Nat.le_of_ble_eq_true rfl) ⟨(Nat.le_of_ble_eq_true rfl), (Nat.le_of_ble_eq_true rfl)⟩ ?_
      refine zr_ladd F zd_MScene_between_113 ?_
      refine zr_l2i F zd_MScene_between_114 ?_
      obtain rfl := Option.some.inj h
      exact zr_iret F hr zd_MScene_between_115 (Nat.le_of_ble_eq_true rfl) (Nat.le_of_ble_eq_true rfl) ⟨rfl, rfl, rfl⟩
  ·
    rw [if_pos hb39] at h
    refine zr_lload F zd_MScene_between_77 rfl ?_
    refine zr_l2i F zd_MScene_between_79 ?_
    refine zr_pcn 80 rfl ?_
    obtain rfl := Option.some.inj h
    exact zr_iret F hr zd_MScene_between_80 (Nat.le_of_ble_eq_true rfl) (Nat.le_of_ble_eq_true rfl) ⟨rfl, rfl, rfl⟩
def F_OB_feed (sh : zSh) (mm : zMem) (o : Nat) (x0_ : Int32) (x1_ : Int32) (x2_ : Int32) (x3_ : Int32) (x4_ : Int32) : Option (Int32 × zMem) := zoS (sh o) 0 (fun le2 => (if ((mm.1 o 3) + 20) ≤ 65536 then zoS (sh o) 0 (fun le5 => Option.bind (F_OB_tapeNumber sh mm o x0_) (fun p6 => zoS (sh o) 0 (fun le8 => Option.bind (F_OB_tapeNumber sh p6 o x1_) (fun p9 => zoS (sh o) 0 (fun le11 => Option.bind (F_OB_tapeNumber sh p9 o x2_) (fun p12 => zoS (sh o) 0 (fun le14 => Option.bind (F_OB_tapeNumber sh p12 o x3_) (fun p15 => zoS (sh o) 0 (fun le17 => Option.bind (F_OB_tapeNumber sh p15 o x4_) (fun p18 => some (1, p18))))))))))) else some (0, mm)))
set_option maxHeartbeats 4000000 in
set_option maxRecDepth 100000 in
theorem k_OB_feed (l : Launch) (D : va_G) (tA : Nat → ClassId) (b : Nat) (sh : zSh) (n : Nat) {mm : zMem} {o : Nat} {x0_ : Int32} {x1_ : Int32} {x2_ : Int32} {x3_ : Int32} {x4_ : Int32} {r : (Int32 × zMem)} (h : F_OB_feed sh mm o x0_ x1_ x2_ x3_ x4_ = some r) : zM l D tA b zy_OB_feed zb_OB_feed 6 (some .boolean) 1 22 0 0 [.ref (b + o), .int x0_, .int x1_, .int x2_, .int x3_, .int x4_] (zW tA b sh mm) n (zE (some (.int (r.1))) (zW tA b sh r.2) n) := by
  unfold F_OB_feed at h
  refine zM_of (own := "OrreryBox") (plainFor_of_name (by decide)) rfl (Nat.le_of_ble_eq_true rfl) (fun p e s m below meth c F hr hin hH => ?_)
  refine zr_aload_n F zd_OB_feed_0 rfl ?_
  obtain ⟨le2, hs1, h⟩ := zoS_s h
  refine zr_get F 0 3 zd_OB_feed_1 (zW_o hs1 (by decide)) rfl (by decide) zw_491 rfl (by rfl) ?_
  refine zr_bipushv (v := 20) F zd_OB_feed_4 (by decide) ?_
  refine zr_iadd F zd_OB_feed_6 ?_
  refine zr_ldc F zd_OB_feed_7 zw_37 ?_
  refine zr_icmp_le F 14 zd_OB_feed_9 (by decide) (fun hb3 => ?_) (fun hb3 => ?_)
  ·
    rw [if_pos hb3] at h
    refine zr_aload_n F zd_OB_feed_14 rfl ?_
    refine zr_pcn 15 rfl ?_
    refine zr_iload_n F zd_OB_feed_15 rfl ?_
    obtain ⟨le5, hs4, h⟩ := zoS_s h
    obtain ⟨p6, ep6, h⟩ := zoB_s h
    refine zr_callV0 F (k_OB_tapeNumber l D tA b sh _ ep6) zd_OB_feed_16 (zW_o hs4 (by decide)) rfl zs_OB_72 rfl zq_OB_tapeNumber rfl rfl ⟨(Nat.le_of_ble_eq_true rfl), (Nat.le_of_ble_eq_true rfl)⟩ (Nat.le_of_ble_eq_true rfl) ⟨(Nat.le_of_ble_eq_true rfl), (Nat.le_of_ble_eq_true rfl)⟩ ?_
    refine zr_aload_n F zd_OB_feed_19 rfl ?_
    refine zr_iload_n F zd_OB_feed_20 rfl ?_
    obtain ⟨le8, hs7, h⟩ := zoS_s h
    obtain ⟨p9, ep9, h⟩ := zoB_s h
    refine zr_callV0 F (k_OB_tapeNumber l D tA b sh _ ep9) zd_OB_feed_21 (zW_o hs7 (by decide)) rfl zs_OB_72 rfl zq_OB_tapeNumber rfl rfl ⟨(Nat.le_of_ble_eq_true rfl), (Nat.le_of_ble_eq_true rfl)⟩ (Nat.le_of_ble_eq_true rfl) ⟨(Nat.le_of_ble_eq_true rfl), (Nat.le_of_ble_eq_true rfl)⟩ ?_
    refine zr_aload_n F zd_OB_feed_24 rfl ?_
    refine zr_iload_n F zd_OB_feed_25 rfl ?_
    obtain ⟨le11, hs10, h⟩ := zoS_s h
    obtain ⟨p12, ep12, h⟩ := zoB_s h
    refine zr_callV0 F (k_OB_tapeNumber l D tA b sh _ ep12) zd_OB_feed_26 (zW_o hs10 (by decide)) rfl zs_OB_72 rfl zq_OB_tapeNumber rfl rfl ⟨(Nat.le_of_ble_eq_true rfl), (Nat.le_of_ble_eq_true rfl)⟩ (Nat.le_of_ble_eq_true rfl) ⟨(Nat.le_of_ble_eq_true rfl), (Nat.le_of_ble_eq_true rfl)⟩ ?_
    refine zr_pcn 29 rfl ?_
    refine zr_aload_n F zd_OB_feed_29 rfl ?_
    refine zr_iload F zd_OB_feed_30 rfl ?_
    obtain ⟨le14, hs13, h⟩ := zoS_s h
    obtain ⟨p15, ep15, h⟩ := zoB_s h
    refine zr_callV0 F (k_OB_tapeNumber l D tA b sh _ ep15) zd_OB_feed_32 (zW_o hs13 (by decide)) rfl zs_OB_72 rfl zq_OB_tapeNumber rfl rfl ⟨(Nat.le_of_ble_eq_true rfl), (Nat.le_of_ble_eq_true rfl)⟩ (Nat.le_of_ble_eq_true rfl) ⟨(Nat.le_of_ble_eq_true rfl), (Nat.le_of_ble_eq_true rfl)⟩ ?_
    refine zr_aload_n F zd_OB_feed_35 rfl ?_
    refine zr_iload F zd_OB_feed_36 rfl ?_
    obtain ⟨le17, hs16, h⟩ := zoS_s h
    obtain ⟨p18, ep18, h⟩ := zoB_s h
    refine zr_callV0 F (k_OB_tapeNumber l D tA b sh _ ep18) zd_OB_feed_38 (zW_o hs16 (by decide)) rfl zs_OB_72 rfl zq_OB_tapeNumber rfl rfl ⟨(Nat.le_of_ble_eq_true rfl), (Nat.le_of_ble_eq_true rfl)⟩ (Nat.le_of_ble_eq_true rfl) ⟨(Nat.le_of_ble_eq_true rfl), (Nat.le_of_ble_eq_true rfl)⟩ ?_
    refine zr_iconstv (v := 1) F zd_OB_feed_41 (by decide) ?_
    obtain rfl := Option.some.inj h
    exact zr_zret F hr rfl zd_OB_feed_42 (Nat.le_of_ble_eq_true rfl) (Nat.le_of_ble_eq_true rfl) ⟨rfl, rfl, rfl⟩
  ·
    rw [if_neg hb3] at h
    refine zr_pcn 12 rfl ?_
    refine zr_iconstv (v := 0) F zd_OB_feed_12 (by decide) ?_
    obtain rfl := Option.some.inj h
    exact zr_zret F hr rfl zd_OB_feed_13 (Nat.le_of_ble_eq_true rfl) (Nat.le_of_ble_eq_true rfl) ⟨rfl, rfl, rfl⟩
theorem zw_298 : (Jvm.Cond.fieldLink "OrreryBox" (117 : Nat) "OrreryBox$Scene" "nodes" "[LOrreryBox$Node;") ∈ gw := gw_t 298 (by decide +kernel) rfl
theorem zw_227 : (Jvm.Cond.fieldLink "OrreryBox" (121 : Nat) "OrreryBox$Node" "numbers" "[I") ∈ gw := gw_t 227 (by decide +kernel) rfl
theorem zw_312 : (Jvm.Cond.fieldLink "OrreryBox" (126 : Nat) "OrreryBox$Scene" "placed" "Z") ∈ gw := gw_t 312 (by decide +kernel) rfl
def F_OB_set (sh : zSh) (mm : zMem) (o : Nat) (x0_ : Int32) (x1_ : Int32) (x2_ : Int32) (x3_ : Int32) (x4_ : Int32) : Option (Int32 × zMem) := zoS (sh o) 0 (fun le2 => Option.bind (mm.2.2 o 5) (fun a3 => zoS (sh a3) 8 (fun le5 => Option.bind (F_XScene_hasNode sh mm a3 x0_) (fun p6 => (if p6.1 = 0 then some (0, p6.2) else (if (sp_OB_within x1_ 0 2) = 0 then some (0, p6.2) else (if (sp_OB_allWithin x2_ x3_ x4_ (sp_OB_reachOf x1_)) = 0 then some (0, p6.2) else zoS (sh o) 0 (fun le14 => Option.bind ((p6.2).2.2 o 5) (fun a15 => zoS (sh a15) 8 (fun le17 => Option.bind ((p6.2).2.2 a15 4) (fun a18 => zoR (sh a18) (fun t22 le20 => if (x0_ : Int32) < 0 ∨ le20 ≤ (x0_ : Int32).toNatClampNeg then none else Option.bind ((p6.2).2.2 a18 (x0_ : Int32).toNatClampNeg) (fun a23 => zoS (sh a23) 3 (fun le25 => Option.bind ((p6.2).2.2 a23 4) (fun a26 => zoL (3 * x1_) (fun i27 => zoS (sh a26) 100 (fun le29 => if (i27 : Int32) < 0 ∨ le29 ≤ (i27 : Int32).toNatClampNeg then none else zoL (mI (p6.2) a26 (i27 : Int32).toNatClampNeg x2_) (fun mm31 => zoL ((3 * x1_) + 1) (fun i32 => zoS (sh a26) 100 (fun le34 => if (i32 : Int32) < 0 ∨ le34 ≤ (i32 : Int32).toNatClampNeg then none else zoL (mI mm31 a26 (i32 : Int32).toNatClampNeg x3_) (fun mm36 => zoL ((3 * x1_) + 2) (fun i37 => zoS (sh a26) 100 (fun le39 => if (i37 : Int32) < 0 ∨ le39 ≤ (i37 : Int32).toNatClampNeg then none else zoL (mI mm36 a26 (i37 : Int32).toNatClampNeg x4_) (fun mm41 => zoS (sh o) 0 (fun le43 => Option.bind (mm41.2.2 o 5) (fun a44 => zoS (sh a44) 8 (fun le46 => zoL (mI mm41 a44 9 0) (fun mm47 => some (1, mm47)))))))))))))))))))))))))))))
set_option maxHeartbeats 4000000 in
set_option maxRecDepth 100000 in
theorem k_OB_set (l : Launch) (D : va_G) (tA : Nat → ClassId) (b : Nat) (sh : zSh) (n : Nat) {mm : zMem} {o : Nat} {x0_ : Int32} {x1_ : Int32} {x2_ : Int32} {x3_ : Int32} {x4_ : Int32} {r : (Int32 × zMem)} (h : F_OB_set sh mm o x0_ x1_ x2_ x3_ x4_ = some r) : zM l D tA b zy_OB_set zb_OB_set 7 (some .boolean) 2 45 0 0 [.ref (b + o), .int x0_, .int x1_, .int x2_, .int x3_, .int x4_] (zW tA b sh mm) n (zE (some (.int (r.1))) (zW tA b sh r.2) n) := by
  unfold F_OB_set at h
  refine zM_of (own := "OrreryBox") (plainFor_of_name (by decide)) rfl (Nat.le_of_ble_eq_true rfl) (fun p e s m below meth c F hr hin hH => ?_)
  refine zr_aload_n F zd_OB_set_0 rfl ?_
  obtain ⟨le2, hs1, h⟩ := zoS_s h
  obtain ⟨a3, ea3, h⟩ := zoB_s h
  refine zr_get F 0 5 zd_OB_set_1 (zW_o hs1 (by decide)) rfl (by decide) zw_493 rfl (by rfl) ?_
  refine zr_tor ea3 ?_
  refine zr_iload_n F zd_OB_set_4 rfl ?_
  obtain ⟨le5, hs4, h⟩ := zoS_s h
  obtain ⟨p6, ep6, h⟩ := zoB_s h
  refine zr_callV1 F (k_XScene_hasNode l D tA b sh _ ep6) zd_OB_set_5 (zW_o hs4 (by decide)) rfl zs_OB_105 rfl zq_XScene_hasNode rfl rfl ⟨(Nat.le_of_ble_eq_true rfl), (Nat.le_of_ble_eq_true rfl)⟩ (Nat.le_of_ble_eq_true rfl) ⟨(Nat.le_of_ble_eq_true rfl), (Nat.le_of_ble_eq_true rfl)⟩ ?_
  refine zr_if_eq F 35 zd_OB_set_8 (by decide) (fun hb7 => ?_) (fun hb7 => ?_)
  ·
    rw [if_pos hb7] at h
    refine zr_iconstv (v := 0) F zd_OB_set_35 (by decide) ?_
    obtain rfl := Option.some.inj h
    exact zr_zret F hr rfl zd_OB_set_36 (Nat.le_of_ble_eq_true rfl) (Nat.le_of_ble_eq_true rfl) ⟨rfl, rfl, rfl⟩
  ·
    rw [if_neg hb7] at h
    refine zr_pcn 11 rfl ?_
    refine zr_iload_n F zd_OB_set_11 rfl ?_
    refine zr_iconstv (v := 0) F zd_OB_set_12 (by decide) ?_
    refine zr_iconstv (v := 2) F zd_OB_set_13 (by decide) ?_
    refine zr_callS1 F (c_OB_within l D tA b _ _ x1_ 0 2) zd_OB_set_14 zs_OB_97 zq_OB_within rfl rfl ⟨(Nat.le_of_ble_eq_true rfl), (Nat.le_of_ble_eq_true rfl)⟩ (Nat.le_of_ble_eq_true rfl) ⟨(Nat.le_of_ble_eq_true rfl), (Nat.le_of_ble_eq_true rfl)⟩ ?_
    refine zr_if_eq F 35 zd_OB_set_17 (by decide) (fun hb9 => ?_) (fun hb9 => ?_)
    ·
      rw [if_pos hb9] at h
      refine zr_iconstv (v := 0) F zd_OB_set_35 (by decide) ?_
      obtain rfl := Option.some.inj h
      exact zr_zret F hr rfl zd_OB_set_36 (Nat.le_of_ble_eq_true rfl) (Nat.le_of_ble_eq_true rfl) ⟨rfl, rfl, rfl⟩
    ·
      rw [if_neg hb9] at h
      refine zr_iload_n F zd_OB_set_20 rfl ?_
      refine zr_pcn 21 rfl ?_
      refine zr_iload F zd_OB_set_21 rfl ?_
      refine zr_iload F zd_OB_set_23 rfl ?_
      refine zr_iload_n F zd_OB_set_25 rfl ?_
      refine zr_callS1 F (c_OB_reachOf l D tA b _ _ x1_) zd_OB_set_26 zs_OB_109 zq_OB_reachOf rfl rfl ⟨(Nat.le_of_ble_eq_true rfl), (Nat.le_of_ble_eq_true rfl)⟩ (Nat.le_of_ble_eq_true rfl) ⟨(Nat.le_of_ble_eq_true rfl), (Nat.le_of_ble_eq_true rfl)⟩ ?_
      refine zr_callS1 F (c_OB_allWithin l D tA b _ _ x2_ x3_ x4_ (sp_OB_reachOf x1_)) zd_OB_set_29 zs_OB_113 zq_OB_allWithin rfl rfl ⟨(Nat.le_of_ble_eq_true rfl), (Nat.le_of_ble_eq_true rfl)⟩ (Nat.le_of_ble_eq_true rfl) ⟨(Nat.le_of_ble_eq_true rfl), (Nat.le_of_ble_eq_true rfl)⟩ ?_
      refine zr_if_ne F 37 zd_OB_set_32 (by decide) (fun hb12 => ?_) (fun hb12 => ?_)
      ·
        rw [if_neg hb12] at h
        refine zr_aload_n F zd_OB_set_37 rfl ?_
        obtain ⟨le14, hs13, h⟩ := zoS_s h
        obtain ⟨a15, ea15, h⟩ := zoB_s h
        refine zr_get F 0 5 zd_OB_set_38 (zW_o hs13 (by decide)) rfl (by decide) zw_493 rfl (by rfl) ?_
        refine zr_tor ea15 ?_
        refine zr_pcn 41 rfl ?_
        obtain ⟨le17, hs16, h⟩ := zoS_s h
        obtain ⟨a18, ea18, h⟩ := zoB_s h
        refine zr_get F 8 4 zd_OB_set_41 (zW_o hs16 (by decide)) rfl (by decide) zw_298 rfl (by rfl) ?_
        refine zr_tor ea18 ?_
        refine zr_iload_n F zd_OB_set_44 rfl ?_
        obtain ⟨t22, le20, hs19, h⟩ := zoR_s h
        obtain ⟨hi21, h⟩ := zoI_s h
        obtain ⟨a23, ea23, h⟩ := zoB_s h
        refine zr_aaldW F zd_OB_set_45 hs19 hi21 ea23 ?_
        obtain ⟨le25, hs24, h⟩ := zoS_s h
        obtain ⟨a26, ea26, h⟩ := zoB_s h
        refine zr_get F 3 4 zd_OB_set_46 (zW_o hs24 (by decide)) rfl (by decide) zw_227 rfl (by rfl) ?_
        refine zr_tor ea26 ?_
        refine zr_astore F zd_OB_set_49 (by decide) ?_
        refine zr_aload F zd_OB_set_51 rfl ?_
        refine zr_iconstv (v := 3) F zd_OB_set_53 (by decide) ?_
        refine zr_iload_n F zd_OB_set_54 rfl ?_
        refine zr_pcn 55 rfl ?_
        refine zr_imul F zd_OB_set_55 ?_
        refine zr_iload_n F zd_OB_set_56 rfl ?_
        obtain ⟨i27, ei27, h⟩ := zoL_s h
        rw [← ei27]
        obtain ⟨le29, hs28, h⟩ := zoS_s h
        obtain ⟨hi30, h⟩ := zoI_s h
        refine zr_iast F zd_OB_set_57 (zW_a0 hs28) hi30 ?_
        obtain ⟨mm31, emm31, h⟩ := zoL_s h
        refine zr_norm (zW tA b sh mm31) _ (by rw [emm31]; exact zW_s0 hs28) rfl ?_
        refine zr_aload F zd_OB_set_58 rfl ?_
        refine zr_iconstv (v := 3) F zd_OB_set_60 (by decide) ?_
        refine zr_iload_n F zd_OB_set_61 rfl ?_
        refine zr_imul F zd_OB_set_62 ?_
        refine zr_iconstv (v := 1) F zd_OB_set_63 (by decide) ?_
        refine zr_pcn 64 rfl ?_
        refine zr_iadd F zd_OB_set_64 ?_
        refine zr_iload F zd_OB_set_65 rfl ?_
        obtain ⟨i32, ei32, h⟩ := zoL_s h
        rw [← ei32]
        obtain ⟨le34, hs33, h⟩ := zoS_s h
        obtain ⟨hi35, h⟩ := zoI_s h
        refine zr_iast F zd_OB_set_67 (zW_a0 hs33) hi35 ?_
        obtain ⟨mm36, emm36, h⟩ := zoL_s h
        refine zr_norm (zW tA b sh mm36) _ (by rw [emm36]; exact zW_s0 hs33) rfl ?_
        refine zr_aload F zd_OB_set_68 rfl ?_
        refine zr_iconstv (v := 3) F zd_OB_set_70 (by decide) ?_
        refine zr_iload_n F zd_OB_set_71 rfl ?_
        refine zr_imul F zd_OB_set_72 ?_
        refine zr_iconstv (v := 2) F zd_OB_set_73 (by decide) ?_
        refine zr_pcn 74 rfl ?_
        refine zr_iadd F zd_OB_set_74 ?_
        refine zr_iload F zd_OB_set_75 rfl ?_
        obtain ⟨i37, ei37, h⟩ := zoL_s h
        rw [← ei37]
        obtain ⟨le39, hs38, h⟩ := zoS_s h
        obtain ⟨hi40, h⟩ := zoI_s h
        refine zr_iast F zd_OB_set_77 (zW_a0 hs38) hi40 ?_
        obtain ⟨mm41, emm41, h⟩ := zoL_s h
        refine zr_norm (zW tA b sh mm41) _ (by rw [emm41]; exact zW_s0 hs38) rfl ?_
        refine zr_aload_n F zd_OB_set_78 rfl ?_
        obtain ⟨le43, hs42, h⟩ := zoS_s h
        obtain ⟨a44, ea44, h⟩ := zoB_s h
        refine zr_get F 0 5 zd_OB_set_79 (zW_o hs42 (by decide)) rfl (by decide) zw_493 rfl (by rfl) ?_
        refine zr_tor ea44 ?_
        refine zr_iconstv (v := 0) F zd_OB_set_82 (by decide) ?_
        obtain ⟨le46, hs45, h⟩ := zoS_s h
        refine zr_put F 8 9 zd_OB_set_83 (zW_o hs45 (by decide)) rfl (by decide) zw_312 rfl rfl rfl rfl (by exact (Nat.le_of_ble_eq_true rfl)) ?_
        obtain ⟨mm47, emm47, h⟩ := zoL_s h
        refine zr_norm (zW tA b sh mm47) _ (by rw [emm47]; exact zW_pI (v := 0) hs45 (by decide) (zf_I_8_9 b _ _ _)) rfl ?_
        refine zr_iconstv (v := 1) F zd_OB_set_86 (by decide) ?_
        refine zr_pcn 87 rfl ?_
        obtain rfl := Option.some.inj h
        exact zr_zret F hr rfl zd_OB_set_87 (Nat.le_of_ble_eq_true rfl) (Nat.le_of_ble_eq_true rfl) ⟨rfl, rfl, rfl⟩
      ·
        rw [if_pos hb12] at h
        refine zr_iconstv (v := 0) F zd_OB_set_35 (by decide) ?_
        obtain rfl := Option.some.inj h
        exact zr_zret F hr rfl zd_OB_set_36 (Nat.le_of_ble_eq_true rfl) (Nat.le_of_ble_eq_true rfl) ⟨rfl, rfl, rfl⟩
theorem zw_216 : (Jvm.Cond.fieldLink "OrreryBox" (130 : Nat) "OrreryBox$Node" "parent" "I") ∈ gw := gw_t 216 (by decide +kernel) rfl
theorem zf_I_3_0 (b : Nat) (m : zMem) (k : Nat) (v : Int32) : (zfl b 3 m k).set 0 (.int v) = zfl b 3 (mI m k 0 v) k := by simp [zfl, mI, upd, vp_updL]
def F_OB_hang (sh : zSh) (mm : zMem) (o : Nat) (x0_ : Int32) (x1_ : Int32) : Option (Int32 × zMem) := zoS (sh o) 0 (fun le2 => Option.bind (mm.2.2 o 5) (fun a3 => zoS (sh a3) 8 (fun le5 => Option.bind (F_XScene_hasNode sh mm a3 x0_) (fun p6 => (if p6.1 = 0 then some (0, p6.2) else (if (sp_OB_within x1_ (-1) (x0_ - 1)) = 0 then some (0, p6.2) else zoS (sh o) 0 (fun le11 => Option.bind ((p6.2).2.2 o 5) (fun a12 => zoS (sh a12) 8 (fun le14 => Option.bind ((p6.2).2.2 a12 4) (fun a15 => zoR (sh a15) (fun t19 le17 => if (x0_ : Int32) < 0 ∨ le17 ≤ (x0_ : Int32).toNatClampNeg then none else Option.bind ((p6.2).2.2 a15 (x0_ : Int32).toNatClampNeg) (fun a20 => zoS (sh a20) 3 (fun le22 => zoL (mI (p6.2) a20 0 x1_) (fun mm23 => zoS (sh o) 0 (fun le25 => Option.bind (mm23.2.2 o 5) (fun a26 => zoS (sh a26) 8 (fun le28 => zoL (mI mm23 a26 9 0) (fun mm29 => some (1, mm29)))))))))))))))))))
set_option maxHeartbeats 4000000 in
set_option maxRecDepth 100000 in
theorem k_OB_hang (l : Launch) (D : va_G) (tA : Nat → ClassId) (b : Nat) (sh : zSh) (n : Nat) {mm : zMem} {o : Nat} {x0_ : Int32} {x1_ : Int32} {r : (Int32 × zMem)} (h : F_OB_hang sh mm o x0_ x1_ = some r) : zM l D tA b zy_OB_hang zb_OB_hang 3 (some .boolean) 1 22 0 0 [.ref (b + o), .int x0_, .int x1_] (zW tA b sh mm) n (zE (some (.int (r.1))) (zW tA b sh r.2) n) := by
  unfold F_OB_hang at h
  refine zM_of (own := "OrreryBox") (plainFor_of_name (by decide)) rfl (Nat.le_of_ble_eq_true rfl) (fun p e s m below meth c F hr hin hH => ?_)
  refine zr_aload_n F zd_OB_hang_0 rfl ?_
  obtain ⟨le2, hs1, h⟩ := zoS_s h
  obtain ⟨a3, ea3, h⟩ := zoB_s h
  refine zr_get F 0 5 zd_OB_hang_1 (zW_o hs1 (by decide)) rfl (by decide) zw_493 rfl (by rfl) ?_
  refine zr_tor ea3 ?_
  refine zr_iload_n F zd_OB_hang_4 rfl ?_
  obtain ⟨le5, hs4, h⟩ := zoS_s h
  obtain ⟨p6, ep6, h⟩ := zoB_s h
  refine zr_callV1 F (k_XScene_hasNode l D tA b sh _ ep6) zd_OB_hang_5 (zW_o hs4 (by decide)) rfl zs_OB_105 rfl zq_XScene_hasNode rfl rfl ⟨(Nat.le_of_ble_eq_true rfl), (Nat.le_of_ble_eq_true rfl)⟩ (Nat.le_of_ble_eq_true rfl) ⟨(Nat.le_of_ble_eq_true rfl), (Nat.le_of_ble_eq_true rfl)⟩ ?_
  refine zr_if_eq F 22 zd_OB_hang_8 (by decide) (fun hb7 => ?_) (fun hb7 => ?_)
  ·
    rw [if_pos hb7] at h
    refine zr_iconstv (v := 0) F zd_OB_hang_22 (by decide) ?_
    obtain rfl := Option.some.inj h
    exact zr_zret F hr rfl zd_OB_hang_23 (Nat.le_of_ble_eq_true rfl) (Nat.le_of_ble_eq_true rfl) ⟨rfl, rfl, rfl⟩
  ·
    rw [if_neg hb7] at h
    refine zr_pcn 11 rfl ?_
    refine zr_iload_n F zd_OB_hang_11 rfl ?_
    refine zr_iconstv (v := (-1)) F zd_OB_hang_12 (by decide) ?_
    refine zr_iload_n F zd_OB_hang_13 rfl ?_
    refine zr_iconstv (v := 1) F zd_OB_hang_14 (by decide) ?_
    refine zr_isub F zd_OB_hang_15 ?_
    refine zr_callS1 F (c_OB_within l D tA b _ _ x1_ (-1) (x0_ - 1)) zd_OB_hang_16 zs_OB_97 zq_OB_within rfl rfl ⟨(Nat.le_of_ble_eq_true rfl), (Nat.le_of_ble_eq_true rfl)⟩ (Nat.le_of_ble_eq_true rfl) ⟨(Nat.le_of_ble_eq_true rfl), (Nat.le_of_ble_eq_true rfl)⟩ ?_
    refine zr_if_ne F 24 zd_OB_hang_19 (by decide) (fun hb9 => ?_) (fun hb9 => ?_)
    ·
      rw [if_neg hb9] at h
      refine zr_aload_n F zd_OB_hang_24 rfl ?_
      refine zr_pcn 25 rfl ?_
      obtain ⟨le11, hs10, h⟩ := zoS_s h
      obtain ⟨a12, ea12, h⟩ := zoB_s h
      refine zr_get F 0 5 zd_OB_hang_25 (zW_o hs10 (by decide)) rfl (by decide) zw_493 rfl (by rfl) ?_
      refine zr_tor ea12 ?_
      obtain ⟨le14, hs13, h⟩ := zoS_s h
      obtain ⟨a15, ea15, h⟩ := zoB_s h
      refine zr_get F 8 4 zd_OB_hang_28 (zW_o hs13 (by decide)) rfl (by decide) zw_298 rfl (by rfl) ?_
      refine zr_tor ea15 ?_
      refine zr_iload_n F zd_OB_hang_31 rfl ?_
      obtain ⟨t19, le17, hs16, h⟩ := zoR_s h
      obtain ⟨hi18, h⟩ := zoI_s h
      obtain ⟨a20, ea20, h⟩ := zoB_s h
      refine zr_aaldW F zd_OB_hang_32 hs16 hi18 ea20 ?_
      refine zr_iload_n F zd_OB_hang_33 rfl ?_
      obtain ⟨le22, hs21, h⟩ := zoS_s h
      refine zr_put F 3 0 zd_OB_hang_34 (zW_o hs21 (by decide)) rfl (by decide) zw_216 rfl rfl rfl rfl (by exact (Nat.le_of_ble_eq_true rfl)) ?_
      obtain ⟨mm23, emm23, h⟩ := zoL_s h
      refine zr_norm (zW tA b sh mm23) _ (by rw [emm23]; exact zW_pI (v := x1_) hs21 (by decide) (zf_I_3_0 b _ _ _)) rfl ?_
      refine zr_aload_n F zd_OB_hang_37 rfl ?_
      obtain ⟨le25, hs24, h⟩ := zoS_s h
      obtain ⟨a26, ea26, h⟩ := zoB_s h
      refine zr_get F 0 5 zd_OB_hang_38 (zW_o hs24 (by decide)) rfl (by decide) zw_493 rfl (by rfl) ?_
      refine zr_tor ea26 ?_
      refine zr_pcn 41 rfl ?_
      refine zr_iconstv (v := 0) F zd_OB_hang_41 (by decide) ?_
      obtain ⟨le28, hs27, h⟩ := zoS_s h
      refine zr_put F 8 9 zd_OB_hang_42 (zW_o hs27 (by decide)) rfl (by decide) zw_312 rfl rfl rfl rfl (by exact (Nat.le_of_ble_eq_true rfl)) ?_
      obtain ⟨mm29, emm29, h⟩ := zoL_s h
      refine zr_norm (zW tA b sh mm29) _ (by rw [emm29]; exact zW_pI (v := 0) hs27 (by decide) (zf_I_8_9 b _ _ _)) rfl ?_
      refine zr_iconstv (v := 1) F zd_OB_hang_45 (by decide) ?_
      obtain rfl := Option.some.inj h
      exact zr_zret F hr rfl zd_OB_hang_46 (Nat.le_of_ble_eq_true rfl) (Nat.le_of_ble_eq_true rfl) ⟨rfl, rfl, rfl⟩
    ·
      rw [if_pos hb9] at h
      refine zr_iconstv (v := 0) F zd_OB_hang_22 (by decide) ?_
      obtain rfl := Option.some.inj h
      exact zr_zret F hr rfl zd_OB_hang_23 (Nat.le_of_ble_eq_true rfl) (Nat.le_of_ble_eq_true rfl) ⟨rfl, rfl, rfl⟩
theorem zw_222 : (Jvm.Cond.fieldLink "OrreryBox" (133 : Nat) "OrreryBox$Node" "hidden" "Z") ∈ gw := gw_t 222 (by decide +kernel) rfl
theorem zf_I_3_2 (b : Nat) (m : zMem) (k : Nat) (v : Int32) : (zfl b 3 m k).set 2 (.int v) = zfl b 3 (mI m k 2 v) k := by simp [zfl, mI, upd, vp_updL]
def F_OB_hide (sh : zSh) (mm : zMem) (o : Nat) (x0_ : Int32) (x1_ : Int32) : Option (Int32 × zMem) := zoS (sh o) 0 (fun le2 => Option.bind (mm.2.2 o 5) (fun a3 => zoS (sh a3) 8 (fun le5 => Option.bind (F_XScene_hasNode sh mm a3 x0_) (fun p6 => (if p6.1 = 0 then some (0, p6.2) else zoS (sh o) 0 (fun le9 => Option.bind ((p6.2).2.2 o 5) (fun a10 => zoS (sh a10) 8 (fun le12 => Option.bind ((p6.2).2.2 a10 4) (fun a13 => zoR (sh a13) (fun t17 le15 => if (x0_ : Int32) < 0 ∨ le15 ≤ (x0_ : Int32).toNatClampNeg then none else Option.bind ((p6.2).2.2 a13 (x0_ : Int32).toNatClampNeg) (fun a18 => (if x1_ = 0 ∨ x1_ = 1 then zoS (sh a18) 3 (fun le21 => zoL (mI (p6.2) a18 2 x1_) (fun mm22 => zoS (sh o) 0 (fun le24 => Option.bind (mm22.2.2 o 5) (fun a25 => zoS (sh a25) 8 (fun le27 => zoL (mI mm22 a25 9 0) (fun mm28 => some (1, mm28))))))) else none))))))))))))
set_option maxHeartbeats 4000000 in
set_option maxRecDepth 100000 in
theorem k_OB_hide (l : Launch) (D : va_G) (tA : Nat → ClassId) (b : Nat) (sh : zSh) (n : Nat) {mm : zMem} {o : Nat} {x0_ : Int32} {x1_ : Int32} {r : (Int32 × zMem)} (h : F_OB_hide sh mm o x0_ x1_ = some r) : zM l D tA b zy_OB_hide zb_OB_hide 3 (some .boolean) 1 21 0 0 [.ref (b + o), .int x0_, .int x1_] (zW tA b sh mm) n (zE (some (.int (r.1))) (zW tA b sh r.2) n) := by
  unfold F_OB_hide at h
  refine zM_of (own := "OrreryBox") (plainFor_of_name (by decide)) rfl (Nat.le_of_ble_eq_true rfl) (fun p e s m below meth c F hr hin hH => ?_)
  refine zr_aload_n F zd_OB_hide_0 rfl ?_
  obtain ⟨le2, hs1, h⟩ := zoS_s h
  obtain ⟨a3, ea3, h⟩ := zoB_s h
  refine zr_get F 0 5 zd_OB_hide_1 (zW_o hs1 (by decide)) rfl (by decide) zw_493 rfl (by rfl) ?_
  refine zr_tor ea3 ?_
  refine zr_iload_n F zd_OB_hide_4 rfl ?_
  obtain ⟨le5, hs4, h⟩ := zoS_s h
  obtain ⟨p6, ep6, h⟩ := zoB_s h
  refine zr_callV1 F (k_XScene_hasNode l D tA b sh _ ep6) zd_OB_hide_5 (zW_o hs4 (by decide)) rfl zs_OB_105 rfl zq_XScene_hasNode rfl rfl ⟨(Nat.le_of_ble_eq_true rfl), (Nat.le_of_ble_eq_true rfl)⟩ (Nat.le_of_ble_eq_true rfl) ⟨(Nat.le_of_ble_eq_true rfl), (Nat.le_of_ble_eq_true rfl)⟩ ?_
  refine zr_if_ne F 13 zd_OB_hide_8 (by decide) (fun hb7 => ?_) (fun hb7 => ?_)
  ·
    rw [if_neg hb7] at h
    refine zr_aload_n F zd_OB_hide_13 rfl ?_
    obtain ⟨le9, hs8, h⟩ := zoS_s h
    obtain ⟨a10, ea10, h⟩ := zoB_s h
    refine zr_get F 0 5 zd_OB_hide_14 (zW_o hs8 (by decide)) rfl (by decide) zw_493 rfl (by rfl) ?_
    refine zr_tor ea10 ?_
    refine zr_pcn 17 rfl ?_
    obtain ⟨le12, hs11, h⟩ := zoS_s h
    obtain ⟨a13, ea13, h⟩ := zoB_s h
    refine zr_get F 8 4 zd_OB_hide_17 (zW_o hs11 (by decide)) rfl (by decide) zw_298 rfl (by rfl) ?_
    refine zr_tor ea13 ?_
    refine zr_iload_n F zd_OB_hide_20 rfl ?_
    obtain ⟨t17, le15, hs14, h⟩ := zoR_s h
    obtain ⟨hi16, h⟩ := zoI_s h
    obtain ⟨a18, ea18, h⟩ := zoB_s h
    refine zr_aaldW F zd_OB_hide_21 hs14 hi16 ea18 ?_
    refine zr_iload_n F zd_OB_hide_22 rfl ?_
    obtain ⟨hn19, h⟩ := zoT_s h
    obtain ⟨le21, hs20, h⟩ := zoS_s h
    refine zr_put F 3 2 zd_OB_hide_23 (zW_o hs20 (by decide)) rfl (by decide) zw_222 rfl rfl (zx_narW hn19) (zx_fitW hn19) (by exact (Nat.le_of_ble_eq_true rfl)) ?_
    obtain ⟨mm22, emm22, h⟩ := zoL_s h
    refine zr_norm (zW tA b sh mm22) _ (by rw [emm22]; exact zW_pI (v := x1_) hs20 (by decide) (zf_I_3_2 b _ _ _)) rfl ?_
    refine zr_aload_n F zd_OB_hide_26 rfl ?_
    obtain ⟨le24, hs23, h⟩ := zoS_s h
    obtain ⟨a25, ea25, h⟩ := zoB_s h
    refine zr_get F 0 5 zd_OB_hide_27 (zW_o hs23 (by decide)) rfl (by decide) zw_493 rfl (by rfl) ?_
    refine zr_tor ea25 ?_
    refine zr_iconstv (v := 0) F zd_OB_hide_30 (by decide) ?_
    refine zr_pcn 31 rfl ?_
    obtain ⟨le27, hs26, h⟩ := zoS_s h
    refine zr_put F 8 9 zd_OB_hide_31 (zW_o hs26 (by decide)) rfl (by decide) zw_312 rfl rfl rfl rfl (by exact (Nat.le_of_ble_eq_true rfl)) ?_
    obtain ⟨mm28, emm28, h⟩ := zoL_s h
    refine zr_norm (zW tA b sh mm28) _ (by rw [emm28]; exact zW_pI (v := 0) hs26 (by decide) (zf_I_8_9 b _ _ _)) rfl ?_
    refine zr_iconstv (v := 1) F zd_OB_hide_34 (by decide) ?_
    obtain rfl := Option.some.inj h
    exact zr_zret F hr rfl zd_OB_hide_35 (Nat.le_of_ble_eq_true rfl) (Nat.le_of_ble_eq_true rfl) ⟨rfl, rfl, rfl⟩
  ·
    rw [if_pos hb7] at h
    refine zr_iconstv (v := 0) F zd_OB_hide_11 (by decide) ?_
    obtain rfl := Option.some.inj h
    exact zr_zret F hr rfl zd_OB_hide_12 (Nat.le_of_ble_eq_true rfl) (Nat.le_of_ble_eq_true rfl) ⟨rfl, rfl, rfl⟩
theorem zw_432 : (Jvm.Cond.fieldLink "OrreryBox" (195 : Nat) "OrreryBox$Picture" "colours" "[I") ∈ gw := gw_t 432 (by decide +kernel) rfl
def F_OB_pixel (sh : zSh) (mm : zMem) (o : Nat) (x0_ : Int32) (x1_ : Int32) : Option (Int32 × zMem) := zoS (sh o) 0 (fun le2 => Option.bind (F_OB_hasPixel sh mm o x0_ x1_) (fun p3 => (if p3.1 = 0 then some ((-1), p3.2) else zoS (sh o) 0 (fun le6 => Option.bind ((p3.2).2.2 o 8) (fun a7 => zoS (sh a7) 5 (fun le9 => Option.bind (F_XPicture_shows sh (p3.2) a7 x0_ x1_) (fun p10 => (if p10.1 = 0 then some ((-1), p10.2) else zoS (sh o) 0 (fun le13 => Option.bind ((p10.2).2.2 o 8) (fun a14 => zoS (sh a14) 5 (fun le16 => Option.bind ((p10.2).2.2 a14 1) (fun a17 => zoS (sh o) 0 (fun le19 => zoL ((x1_ * ((p10.2).1 o 0)) + x0_) (fun i20 => zoS (sh a17) 100 (fun le22 => if (i20 : Int32) < 0 ∨ le22 ≤ (i20 : Int32).toNatClampNeg then none else some (((p10.2).1 a17 (i20 : Int32).toNatClampNeg), p10.2))))))))))))))))
set_option maxHeartbeats 4000000 in
set_option maxRecDepth 100000 in
theorem k_OB_pixel (l : Launch) (D : va_G) (tA : Nat → ClassId) (b : Nat) (sh : zSh) (n : Nat) {mm : zMem} {o : Nat} {x0_ : Int32} {x1_ : Int32} {r : (Int32 × zMem)} (h : F_OB_pixel sh mm o x0_ x1_ = some r) : zM l D tA b zy_OB_pixel zb_OB_pixel 3 (some .int) 2 44 0 0 [.ref (b + o), .int x0_, .int x1_] (zW tA b sh mm) n (zE (some (.int (r.1))) (zW tA b sh r.2) n) := by
  unfold F_OB_pixel at h
  refine zM_of (own := "OrreryBox") (plainFor_of_name (by decide)) rfl (Nat.le_of_ble_eq_true rfl) (fun p e s m below meth c F hr hin hH => ?_)
  refine zr_aload_n F zd_OB_pixel_0 rfl ?_
  refine zr_iload_n F zd_OB_pixel_1 rfl ?_
  refine zr_iload_n F zd_OB_pixel_2 rfl ?_
  obtain ⟨le2, hs1, h⟩ := zoS_s h
  obtain ⟨p3, ep3, h⟩ := zoB_s h
  refine zr_callV1 F (k_OB_hasPixel l D tA b sh _ ep3) zd_OB_pixel_3 (zW_o hs1 (by decide)) rfl zs_OB_188 rfl zq_OB_hasPixel rfl rfl ⟨(Nat.le_of_ble_eq_true rfl), (Nat.le_of_ble_eq_true rfl)⟩ (Nat.le_of_ble_eq_true rfl) ⟨(Nat.le_of_ble_eq_true rfl), (Nat.le_of_ble_eq_true rfl)⟩ ?_
  refine zr_if_eq F 40 zd_OB_pixel_6 (by decide) (fun hb4 => ?_) (fun hb4 => ?_)
  ·
    rw [if_pos hb4] at h
    refine zr_iconstv (v := (-1)) F zd_OB_pixel_40 (by decide) ?_
    obtain rfl := Option.some.inj h
    exact zr_iret F hr zd_OB_pixel_41 (Nat.le_of_ble_eq_true rfl) (Nat.le_of_ble_eq_true rfl) ⟨rfl, rfl, rfl⟩
  ·
    rw [if_neg hb4] at h
    refine zr_pcn 9 rfl ?_
    refine zr_aload_n F zd_OB_pixel_9 rfl ?_
    obtain ⟨le6, hs5, h⟩ := zoS_s h
    obtain ⟨a7, ea7, h⟩ := zoB_s h
    refine zr_get F 0 8 zd_OB_pixel_10 (zW_o hs5 (by decide)) rfl (by decide) zw_496 rfl (by rfl) ?_
    refine zr_tor ea7 ?_
    refine zr_iload_n F zd_OB_pixel_13 rfl ?_
    refine zr_iload_n F zd_OB_pixel_14 rfl ?_
    obtain ⟨le9, hs8, h⟩ := zoS_s h
    obtain ⟨p10, ep10, h⟩ := zoB_s h
    refine zr_callV1 F (k_XPicture_shows l D tA b sh _ ep10) zd_OB_pixel_15 (zW_o hs8 (by decide)) rfl zs_OB_192 rfl zq_XPicture_shows rfl rfl ⟨(Nat.le_of_ble_eq_true rfl), (Nat.le_of_ble_eq_true rfl)⟩ (Nat.le_of_ble_eq_true rfl) ⟨(Nat.le_of_ble_eq_true rfl), (Nat.le_of_ble_eq_true rfl)⟩ ?_
    refine zr_if_eq F 40 zd_OB_pixel_18 (by decide) (fun hb11 => ?_) (fun hb11 => ?_)
    ·
      rw [if_pos hb11] at h
      refine zr_iconstv (v := (-1)) F zd_OB_pixel_40 (by decide) ?_
      obtain rfl := Option.some.inj h
      exact zr_iret F hr zd_OB_pixel_41 (Nat.le_of_ble_eq_true rfl) (Nat.le_of_ble_eq_true rfl) ⟨rfl, rfl, rfl⟩
    ·
      rw [if_neg hb11] at h
      refine zr_pcn 21 rfl ?_
      refine zr_aload_n F zd_OB_pixel_21 rfl ?_
      obtain ⟨le13, hs12, h⟩ := zoS_s h
      obtain ⟨a14, ea14, h⟩ := zoB_s h
      refine zr_get F 0 8 zd_OB_pixel_22 (zW_o hs12 (by decide)) rfl (by decide) zw_496 rfl (by rfl) ?_
      refine zr_tor ea14 ?_
      obtain ⟨le16, hs15, h⟩ := zoS_s h
      obtain ⟨a17, ea17, h⟩ := zoB_s h
      refine zr_get F 5 1 zd_OB_pixel_25 (zW_o hs15 (by decide)) rfl (by decide) zw_432 rfl (by rfl) ?_
      refine zr_tor ea17 ?_
      refine zr_iload_n F zd_OB_pixel_28 rfl ?_
      refine zr_aload_n F zd_OB_pixel_29 rfl ?_
      obtain ⟨le19, hs18, h⟩ := zoS_s h
      refine zr_get F 0 0 zd_OB_pixel_30 (zW_o hs18 (by decide)) rfl (by decide) zw_488 rfl (by rfl) ?_
      refine zr_imul F zd_OB_pixel_33 ?_
      refine zr_iload_n F zd_OB_pixel_34 rfl ?_
      refine zr_pcn 35 rfl ?_
      refine zr_iadd F zd_OB_pixel_35 ?_
      obtain ⟨i20, ei20, h⟩ := zoL_s h
      rw [← ei20]
      obtain ⟨le22, hs21, h⟩ := zoS_s h
      obtain ⟨hi23, h⟩ := zoI_s h
      refine zr_iald F zd_OB_pixel_36 (zW_a0 hs21) hi23 ?_
      refine zr_goto F 41 zd_OB_pixel_37 (by decide) ?_
      obtain rfl := Option.some.inj h
      exact zr_iret F hr zd_OB_pixel_41 (Nat.le_of_ble_eq_true rfl) (Nat.le_of_ble_eq_true rfl) ⟨rfl, rfl, rfl⟩
theorem zw_434 : (Jvm.Cond.fieldLink "OrreryBox" (198 : Nat) "OrreryBox$Picture" "nears" "[I") ∈ gw := gw_t 434 (by decide +kernel) rfl
def F_OB_nearness (sh : zSh) (mm : zMem) (o : Nat) (x0_ : Int32) (x1_ : Int32) : Option (Int32 × zMem) := zoS (sh o) 0 (fun le2 => Option.bind (F_OB_hasPixel sh mm o x0_ x1_) (fun p3 => (if p3.1 = 0 then some ((-1), p3.2) else zoS (sh o) 0 (fun le6 => Option.bind ((p3.2).2.2 o 8) (fun a7 => zoS (sh a7) 5 (fun le9 => Option.bind (F_XPicture_shows sh (p3.2) a7 x0_ x1_) (fun p10 => (if p10.1 = 0 then some ((-1), p10.2) else zoS (sh o) 0 (fun le13 => Option.bind ((p10.2).2.2 o 8) (fun a14 => zoS (sh a14) 5 (fun le16 => Option.bind ((p10.2).2.2 a14 2) (fun a17 => zoS (sh o) 0 (fun le19 => zoL ((x1_ * ((p10.2).1 o 0)) + x0_) (fun i20 => zoS (sh a17) 100 (fun le22 => if (i20 : Int32) < 0 ∨ le22 ≤ (i20 : Int32).toNatClampNeg then none else some (((p10.2).1 a17 (i20 : Int32).toNatClampNeg), p10.2))))))))))))))))
set_option maxHeartbeats 4000000 in
set_option maxRecDepth 100000 in
theorem k_OB_nearness (l : Launch) (D : va_G) (tA : Nat → ClassId) (b : Nat) (sh : zSh) (n : Nat) {mm : zMem} {o : Nat} {x0_ : Int32} {x1_ : Int32} {r : (Int32 × zMem)} (h : F_OB_nearness sh mm o x0_ x1_ = some r) : zM l D tA b zy_OB_nearness zb_OB_nearness 3 (some .int) 2 44 0 0 [.ref (b + o), .int x0_, .int x1_] (zW tA b sh mm) n (zE (some (.int (r.1))) (zW tA b sh r.2) n) := by
  unfold F_OB_nearness at h
  refine zM_of (own := "OrreryBox") (plainFor_of_name (by decide)) rfl (Nat.le_of_ble_eq_true rfl) (fun p e s m below meth c F hr hin hH => ?_)
  refine zr_aload_n F zd_OB_nearness_0 rfl ?_
  refine zr_iload_n F zd_OB_nearness_1 rfl ?_
  refine zr_iload_n F zd_OB_nearness_2 rfl ?_
  obtain ⟨le2, hs1, h⟩ := zoS_s h
  obtain ⟨p3, ep3, h⟩ := zoB_s h
  refine zr_callV1 F (k_OB_hasPixel l D tA b sh _ ep3) zd_OB_nearness_3 (zW_o hs1 (by decide)) rfl zs_OB_188 rfl zq_OB_hasPixel rfl rfl ⟨(Nat.le_of_ble_eq_true rfl), (Nat.le_of_ble_eq_true rfl)⟩ (Nat.le_of_ble_eq_true rfl) ⟨(Nat.le_of_ble_eq_true rfl), (Nat.le_of_ble_eq_true rfl)⟩ ?_
  refine zr_if_eq F 40 zd_OB_nearness_6 (by decide) (fun hb4 => ?_) (fun hb4 => ?_)
  ·
    rw [if_pos hb4] at h
    refine zr_iconstv (v := (-1)) F zd_OB_nearness_40 (by decide) ?_
    obtain rfl := Option.some.inj h
    exact zr_iret F hr zd_OB_nearness_41 (Nat.le_of_ble_eq_true rfl) (Nat.le_of_ble_eq_true rfl) ⟨rfl, rfl, rfl⟩
  ·
    rw [if_neg hb4] at h
    refine zr_pcn 9 rfl ?_
    refine zr_aload_n F zd_OB_nearness_9 rfl ?_
    obtain ⟨le6, hs5, h⟩ := zoS_s h
    obtain ⟨a7, ea7, h⟩ := zoB_s h
    refine zr_get F 0 8 zd_OB_nearness_10 (zW_o hs5 (by decide)) rfl (by decide) zw_496 rfl (by rfl) ?_
    refine zr_tor ea7 ?_
    refine zr_iload_n F zd_OB_nearness_13 rfl ?_
    refine zr_iload_n F zd_OB_nearness_14 rfl ?_
    obtain ⟨le9, hs8, h⟩ := zoS_s h
    obtain ⟨p10, ep10, h⟩ := zoB_s h
    refine zr_callV1 F (k_XPicture_shows l D tA b sh _ ep10) zd_OB_nearness_15 (zW_o hs8 (by decide)) rfl zs_OB_192 rfl zq_XPicture_shows rfl rfl ⟨(Nat.le_of_ble_eq_true rfl), (Nat.le_of_ble_eq_true rfl)⟩ (Nat.le_of_ble_eq_true rfl) ⟨(Nat.le_of_ble_eq_true rfl), (Nat.le_of_ble_eq_true rfl)⟩ ?_
    refine zr_if_eq F 40 zd_OB_nearness_18 (by decide) (fun hb11 => ?_) (fun hb11 => ?_)
    ·
      rw [if_pos hb11] at h
      refine zr_iconstv (v := (-1)) F zd_OB_nearness_40 (by decide) ?_
      obtain rfl := Option.some.inj h
      exact zr_iret F hr zd_OB_nearness_41 (Nat.le_of_ble_eq_true rfl) (Nat.le_of_ble_eq_true rfl) ⟨rfl, rfl, rfl⟩
    ·
      rw [if_neg hb11] at h
      refine zr_pcn 21 rfl ?_
      refine zr_aload_n F zd_OB_nearness_21 rfl ?_
      obtain ⟨le13, hs12, h⟩ := zoS_s h
      obtain ⟨a14, ea14, h⟩ := zoB_s h
      refine zr_get F 0 8 zd_OB_nearness_22 (zW_o hs12 (by decide)) rfl (by decide) zw_496 rfl (by rfl) ?_
      refine zr_tor ea14 ?_
      obtain ⟨le16, hs15, h⟩ := zoS_s h
      obtain ⟨a17, ea17, h⟩ := zoB_s h
      refine zr_get F 5 2 zd_OB_nearness_25 (zW_o hs15 (by decide)) rfl (by decide) zw_434 rfl (by rfl) ?_
      refine zr_tor ea17 ?_
      refine zr_iload_n F zd_OB_nearness_28 rfl ?_
      refine zr_aload_n F zd_OB_nearness_29 rfl ?_
      obtain ⟨le19, hs18, h⟩ := zoS_s h
      refine zr_get F 0 0 zd_OB_nearness_30 (zW_o hs18 (by decide)) rfl (by decide) zw_488 rfl (by rfl) ?_
      refine zr_imul F zd_OB_nearness_33 ?_
      refine zr_iload_n F zd_OB_nearness_34 rfl ?_
      refine zr_pcn 35 rfl ?_
      refine zr_iadd F zd_OB_nearness_35 ?_
      obtain ⟨i20, ei20, h⟩ := zoL_s h
      rw [← ei20]
      obtain ⟨le22, hs21, h⟩ := zoS_s h
      obtain ⟨hi23, h⟩ := zoI_s h
      refine zr_iald F zd_OB_nearness_36 (zW_a0 hs21) hi23 ?_
      refine zr_goto F 41 zd_OB_nearness_37 (by decide) ?_
      obtain rfl := Option.some.inj h
      exact zr_iret F hr zd_OB_nearness_41 (Nat.le_of_ble_eq_true rfl) (Nat.le_of_ble_eq_true rfl) ⟨rfl, rfl, rfl⟩
def F_MD_feed (sh : zSh) (mm : zMem) (o : Nat) (x0_ : Int32) (x1_ : Int32) (x2_ : Int32) (x3_ : Int32) (x4_ : Int32) : Option (Int32 × zMem) := zoS (sh o) 1 (fun le2 => zoL (mI mm o 11 0) (fun mm3 => zoS (sh o) 1 (fun le5 => (if ((mm3.1 o 3) + 20) ≤ 65536 then zoS (sh o) 1 (fun le8 => Option.bind (F_MD_feedOne sh mm3 o x0_) (fun p9 => zoS (sh o) 1 (fun le11 => Option.bind (F_MD_feedOne sh p9 o x1_) (fun p12 => zoS (sh o) 1 (fun le14 => Option.bind (F_MD_feedOne sh p12 o x2_) (fun p15 => zoS (sh o) 1 (fun le17 => Option.bind (F_MD_feedOne sh p15 o x3_) (fun p18 => zoS (sh o) 1 (fun le20 => Option.bind (F_MD_feedOne sh p18 o x4_) (fun p21 => some (1, p21))))))))))) else some (0, mm3)))))
set_option maxHeartbeats 4000000 in
set_option maxRecDepth 100000 in
theorem k_MD_feed (l : Launch) (D : va_G) (tA : Nat → ClassId) (b : Nat) (sh : zSh) (n : Nat) {mm : zMem} {o : Nat} {x0_ : Int32} {x1_ : Int32} {x2_ : Int32} {x3_ : Int32} {x4_ : Int32} {r : (Int32 × zMem)} (h : F_MD_feed sh mm o x0_ x1_ x2_ x3_ x4_ = some r) : zM l D tA b zy_MD_feed zb_MD_feed 6 (some .boolean) 1 22 0 0 [.ref (b + o), .int x0_, .int x1_, .int x2_, .int x3_, .int x4_] (zW tA b sh mm) n (zE (some (.int (r.1))) (zW tA b sh r.2) n) := by
  unfold F_MD_feed at h
  refine zM_of (own := "OrreryBoxModel") (plainFor_of_name (by decide)) rfl (Nat.le_of_ble_eq_true rfl) (fun p e s m below meth c F hr hin hH => ?_)
  refine zr_aload_n F zd_MD_feed_0 rfl ?_
  refine zr_iconstv (v := 0) F zd_MD_feed_1 (by decide) ?_
  obtain ⟨le2, hs1, h⟩ := zoS_s h
  refine zr_put F 1 11 zd_MD_feed_2 (zW_o hs1 (by decide)) rfl (by decide) zw_1691 rfl rfl rfl rfl (by exact (Nat.le_of_ble_eq_true rfl)) ?_
  obtain ⟨mm3, emm3, h⟩ := zoL_s h
  refine zr_norm (zW tA b sh mm3) _ (by rw [emm3]; exact zW_pI (v := 0) hs1 (by decide) (zf_I_1_11 b _ _ _)) rfl ?_
  refine zr_aload_n F zd_MD_feed_5 rfl ?_
  obtain ⟨le5, hs4, h⟩ := zoS_s h
  refine zr_get F 1 3 zd_MD_feed_6 (zW_o hs4 (by decide)) rfl (by decide) zw_1683 rfl (by rfl) ?_
  refine zr_bipushv (v := 20) F zd_MD_feed_9 (by decide) ?_
  refine zr_iadd F zd_MD_feed_11 ?_
  refine zr_pcn 12 rfl ?_
  refine zr_ldc F zd_MD_feed_12 zw_1308 ?_
  refine zr_icmp_le F 19 zd_MD_feed_14 (by decide) (fun hb6 => ?_) (fun hb6 => ?_)
  ·
    rw [if_pos hb6] at h
    refine zr_aload_n F zd_MD_feed_19 rfl ?_
    refine zr_iload_n F zd_MD_feed_20 rfl ?_
    obtain ⟨le8, hs7, h⟩ := zoS_s h
    obtain ⟨p9, ep9, h⟩ := zoB_s h
    refine zr_callV0 F (k_MD_feedOne l D tA b sh _ ep9) zd_MD_feed_21 (zW_o hs7 (by decide)) rfl zs_MD_86 rfl zq_MD_feedOne rfl rfl ⟨(Nat.le_of_ble_eq_true rfl), (Nat.le_of_ble_eq_true rfl)⟩ (Nat.le_of_ble_eq_true rfl) ⟨(Nat.le_of_ble_eq_true rfl), (Nat.le_of_ble_eq_true rfl)⟩ ?_
    refine zr_aload_n F zd_MD_feed_24 rfl ?_
    refine zr_iload_n F zd_MD_feed_25 rfl ?_
    obtain ⟨le11, hs10, h⟩ := zoS_s h
    obtain ⟨p12, ep12, h⟩ := zoB_s h
    refine zr_callV0 F (k_MD_feedOne l D tA b sh _ ep12) zd_MD_feed_26 (zW_o hs10 (by decide)) rfl zs_MD_86 rfl zq_MD_feedOne rfl rfl ⟨(Nat.le_of_ble_eq_true rfl), (Nat.le_of_ble_eq_true rfl)⟩ (Nat.le_of_ble_eq_true rfl) ⟨(Nat.le_of_ble_eq_true rfl), (Nat.le_of_ble_eq_true rfl)⟩ ?_
    refine zr_pcn 29 rfl ?_
    refine zr_aload_n F zd_MD_feed_29 rfl ?_
    refine zr_iload_n F zd_MD_feed_30 rfl ?_
    obtain ⟨le14, hs13, h⟩ := zoS_s h
    obtain ⟨p15, ep15, h⟩ := zoB_s h
    refine zr_callV0 F (k_MD_feedOne l D tA b sh _ ep15) zd_MD_feed_31 (zW_o hs13 (by decide)) rfl zs_MD_86 rfl zq_MD_feedOne rfl rfl ⟨(Nat.le_of_ble_eq_true rfl), (Nat.le_of_ble_eq_true rfl)⟩ (Nat.le_of_ble_eq_true rfl) ⟨(Nat.le_of_ble_eq_true rfl), (Nat.le_of_ble_eq_true rfl)⟩ ?_
    refine zr_aload_n F zd_MD_feed_34 rfl ?_
    refine zr_iload F zd_MD_feed_35 rfl ?_
    obtain ⟨le17, hs16, h⟩ := zoS_s h
    obtain ⟨p18, ep18, h⟩ := zoB_s h
    refine zr_callV0 F (k_MD_feedOne l D tA b sh _ ep18) zd_MD_feed_37 (zW_o hs16 (by decide)) rfl zs_MD_86 rfl zq_MD_feedOne rfl rfl ⟨(Nat.le_of_ble_eq_true rfl), (Nat.le_of_ble_eq_true rfl)⟩ (Nat.le_of_ble_eq_true rfl) ⟨(Nat.le_of_ble_eq_true rfl), (Nat.le_of_ble_eq_true rfl)⟩ ?_
    refine zr_aload_n F zd_MD_feed_40 rfl ?_
    refine zr_iload F zd_MD_feed_41 rfl ?_
    refine zr_pcn 43 rfl ?_
    obtain ⟨le20, hs19, h⟩ := zoS_s h
    obtain ⟨p21, ep21, h⟩ := zoB_s h
    refine zr_callV0 F (k_MD_feedOne l D tA b sh _ ep21) zd_MD_feed_43 (zW_o hs19 (by decide)) rfl zs_MD_86 rfl zq_MD_feedOne rfl rfl ⟨(Nat.le_of_ble_eq_true rfl), (Nat.le_of_ble_eq_true rfl)⟩ (Nat.le_of_ble_eq_true rfl) ⟨(Nat.le_of_ble_eq_true rfl), (Nat.le_of_ble_eq_true rfl)⟩ ?_
    refine zr_iconstv (v := 1) F zd_MD_feed_46 (by decide) ?_
    obtain rfl := Option.some.inj h
    exact zr_zret F hr rfl zd_MD_feed_47 (Nat.le_of_ble_eq_true rfl) (Nat.le_of_ble_eq_true rfl) ⟨rfl, rfl, rfl⟩
  ·
    rw [if_neg hb6] at h
    refine zr_iconstv (v := 0) F zd_MD_feed_17 (by decide) ?_
    obtain rfl := Option.some.inj h
    exact zr_zret F hr rfl zd_MD_feed_18 (Nat.le_of_ble_eq_true rfl) (Nat.le_of_ble_eq_true rfl) ⟨rfl, rfl, rfl⟩
theorem zf_I_1_12 (b : Nat) (m : zMem) (k : Nat) (v : Int32) : (zfl b 1 m k).set 12 (.int v) = zfl b 1 (mI m k 12 v) k := by simp [zfl, mI, upd, vp_updL]
theorem zf_I_1_13 (b : Nat) (m : zMem) (k : Nat) (v : Int32) : (zfl b 1 m k).set 13 (.int v) = zfl b 1 (mI m k 13 v) k := by simp [zfl, mI, upd, vp_updL]
theorem zw_1907 : (Jvm.Cond.methodLink "OrreryBoxModel" (103 : Nat) ({ cls := "OrreryBoxModel$Scene", name := "makeLevels", desc := "()V" } : Jvm.MethodName)) ∈ gw := gw_t 1907 (by decide +kernel) rfl
theorem zw_1908 : (Jvm.Cond.instanceMethod ({ cls := "OrreryBoxModel$Scene", name := "makeLevels", desc := "()V" } : Jvm.MethodName)) ∈ gw := gw_t 1908 (by decide +kernel) rfl
theorem zw_1909 : (Jvm.Cond.selects "OrreryBoxModel$Scene" ({ cls := "OrreryBoxModel$Scene", name := "makeLevels", desc := "()V" } : Jvm.MethodName) ({ cls := "OrreryBoxModel$Scene", name := "makeLevels", desc := "()V" } : Jvm.MethodName)) ∈ gw := gw_t 1909 (by decide +kernel) rfl
theorem zs_MD_103 : zwV "OrreryBoxModel" 103 "OrreryBoxModel$Scene" zy_MScene_makeLevels zb_MScene_makeLevels 12 none := ⟨zw_1907, zw_1908, zw_1909, zw_14, zc_MScene_makeLevels⟩
theorem zf_I_1_10 (b : Nat) (m : zMem) (k : Nat) (v : Int32) : (zfl b 1 m k).set 10 (.int v) = zfl b 1 (mI m k 10 v) k := by simp [zfl, mI, upd, vp_updL]
def F_MD_load (sh : zSh) (mm : zMem) (o : Nat) : Option (Int32 × zMem) := zoS (sh o) 1 (fun le2 => zoL (mm.1 o 3) (fun x3 => zoS (sh o) 1 (fun le5 => zoL (mI mm o 3 0) (fun mm6 => zoS (sh o) 1 (fun le8 => Option.bind (mm6.2.2 o 5) (fun a9 => zoS (sh a9) 15 (fun le11 => Option.bind (F_MScene_clear sh mm6 a9) (fun p12 => zoS (sh o) 1 (fun le14 => Option.bind (p12.2.2 o 7) (fun a15 => zoS (sh a15) 14 (fun le17 => Option.bind (F_MReader_read sh p12 a15 x3) (fun p18 => zoS (sh o) 1 (fun le20 => Option.bind (p18.2.2 o 7) (fun a21 => zoS (sh a21) 14 (fun le23 => zoL (p18.1 a21 4) (fun x24 => zoS (sh o) 1 (fun le26 => zoL (mI p18 o 12 x24) (fun mm27 => zoS (sh o) 1 (fun le29 => Option.bind (mm27.2.2 o 7) (fun a30 => zoS (sh a30) 14 (fun le32 => zoL (mm27.1 a30 5) (fun x33 => zoS (sh o) 1 (fun le35 => zoL (mI mm27 o 13 x33) (fun mm36 => zoS (sh o) 1 (fun le38 => (if (mm36.1 o 12) = 0 then zoS (sh o) 1 (fun le70 => zoL (mI mm36 o 11 0) (fun mm71 => zoS (sh o) 1 (fun le73 => (if (mm71.1 o 11) = 0 then zoS (sh o) 1 (fun le76 => Option.bind (mm71.2.2 o 5) (fun a77 => zoS (sh a77) 15 (fun le79 => Option.bind (F_MScene_makeLevels sh mm71 a77) (fun p80 => zoS (sh o) 1 (fun le82 => Option.bind (p80.2.2 o 4) (fun a83 => zoS (sh o) 1 (fun le85 => Option.bind (p80.2.2 o 5) (fun a86 => zoS (sh a83) 15 (fun le88 => Option.bind (F_MScene_become sh p80 a83 a86) (fun p89 => zoS (sh o) 1 (fun le91 => zoL (mI p89 o 10 0) (fun mm92 => zoS (sh o) 1 (fun le94 => Option.bind (mm92.2.2 o 4) (fun a95 => zoS (sh a95) 15 (fun le97 => some ((mm92.1 a95 3), mm92)))))))))))))))) else some (0, mm71))))) else zoS (sh o) 1 (fun le41 => zoL (mI mm36 o 11 1) (fun mm42 => zoS (sh o) 1 (fun le44 => (if (mm42.1 o 11) = 0 then zoS (sh o) 1 (fun le47 => Option.bind (mm42.2.2 o 5) (fun a48 => zoS (sh a48) 15 (fun le50 => Option.bind (F_MScene_makeLevels sh mm42 a48) (fun p51 => zoS (sh o) 1 (fun le53 => Option.bind (p51.2.2 o 4) (fun a54 => zoS (sh o) 1 (fun le56 => Option.bind (p51.2.2 o 5) (fun a57 => zoS (sh a54) 15 (fun le59 => Option.bind (F_MScene_become sh p51 a54 a57) (fun p60 => zoS (sh o) 1 (fun le62 => zoL (mI p60 o 10 0) (fun mm63 => zoS (sh o) 1 (fun le65 => Option.bind (mm63.2.2 o 4) (fun a66 => zoS (sh a66) 15 (fun le68 => some ((mm63.1 a66 3), mm63)))))))))))))))) else some (0, mm42)))))))))))))))))))))))))))))))
set_option maxHeartbeats 4000000 in
set_option maxRecDepth 100000 in
theorem k_MD_load (l : Launch) (D : va_G) (tA : Nat → ClassId) (b : Nat) (sh : zSh) (n : Nat) {mm : zMem} {o : Nat} {r : (Int32 × zMem)} (h : F_MD_load sh mm o = some r) : zM l D tA b zy_MD_load zb_MD_load 2 (some .int) 13 292 0 0 [.ref (b + o)] (zW tA b sh mm) n (zE (some (.int (r.1))) (zW tA b sh r.2) n) := by
  unfold F_MD_load at h
  refine zM_of (own := "OrreryBoxModel") (plainFor_of_name (by decide)) rfl (Nat.le_of_ble_eq_true rfl) (fun p e s m below meth c F hr hin hH => ?_)
  refine zr_aload_n F zd_MD_load_0 rfl ?_
  obtain ⟨le2, hs1, h⟩ := zoS_s h
  refine zr_get F 1 3 zd_MD_load_1 (zW_o hs1 (by decide)) rfl (by decide) zw_1683 rfl (by rfl) ?_
  obtain ⟨x3, ex3, h⟩ := zoL_s h
  rw [← ex3]
  refine zr_istore_n F zd_MD_load_4 (by decide) ?_
  refine zr_aload_n F zd_MD_load_5 rfl ?_
  refine zr_iconstv (v := 0) F zd_MD_load_6 (by decide) ?_
  obtain ⟨le5, hs4, h⟩ := zoS_s h
  refine zr_put F 1 3 zd_MD_load_7 (zW_o hs4 (by decide)) rfl (by decide) zw_1683 rfl rfl rfl rfl (by exact (Nat.le_of_ble_eq_true rfl)) ?_
  obtain ⟨mm6, emm6, h⟩ := zoL_s h
  refine zr_norm (zW tA b sh mm6) _ (by rw [emm6]; exact zW_pI (v := 0) hs4 (by decide) (zf_I_1_3 b _ _ _)) rfl ?_
  refine zr_aload_n F zd_MD_load_10 rfl ?_
  refine zr_pcn 11 rfl ?_
  obtain ⟨le8, hs7, h⟩ := zoS_s h
  obtain ⟨a9, ea9, h⟩ := zoB_s h
  refine zr_get F 1 5 zd_MD_load_11 (zW_o hs7 (by decide)) rfl (by decide) zw_1685 rfl (by rfl) ?_
  refine zr_tor ea9 ?_
  obtain ⟨le11, hs10, h⟩ := zoS_s h
  obtain ⟨p12, ep12, h⟩ := zoB_s h
  refine zr_callV0 F (k_MScene_clear l D tA b sh _ ep12) zd_MD_load_14 (zW_o hs10 (by decide)) rfl zs_MD_77 rfl zq_MScene_clear rfl rfl ⟨(Nat.le_of_ble_eq_true rfl), (Nat.le_of_ble_eq_true rfl)⟩ (Nat.le_of_ble_eq_true rfl) ⟨(Nat.le_of_ble_eq_true rfl), (Nat.le_of_ble_eq_true rfl)⟩ ?_
  refine zr_aload_n F zd_MD_load_17 rfl ?_
  obtain ⟨le14, hs13, h⟩ := zoS_s h
  obtain ⟨a15, ea15, h⟩ := zoB_s h
  refine zr_get F 1 7 zd_MD_load_18 (zW_o hs13 (by decide)) rfl (by decide) zw_1687 rfl (by rfl) ?_
  refine zr_tor ea15 ?_
  refine zr_iload_n F zd_MD_load_21 rfl ?_
  obtain ⟨le17, hs16, h⟩ := zoS_s h
  obtain ⟨p18, ep18, h⟩ := zoB_s h
  refine zr_callV0 F (k_MReader_read l D tA b sh _ ep18) zd_MD_load_22 (zW_o hs16 (by decide)) rfl zs_MD_90 rfl zq_MReader_read rfl rfl ⟨(Nat.le_of_ble_eq_true rfl), (Nat.le_of_ble_eq_true rfl)⟩ (Nat.le_of_ble_eq_true rfl) ⟨(Nat.le_of_ble_eq_true rfl), (Nat.le_of_ble_eq_true rfl)⟩ ?_
  refine zr_aload_n F zd_MD_load_25 rfl ?_
  refine zr_aload_n F zd_MD_load_26 rfl ?_
  refine zr_pcn 27 rfl ?_
  obtain ⟨le20, hs19, h⟩ := zoS_s h
  obtain ⟨a21, ea21, h⟩ := zoB_s h
  refine zr_get F 1 7 zd_MD_load_27 (zW_o hs19 (by decide)) rfl (by decide) zw_1687 rfl (by rfl) ?_
  refine zr_tor ea21 ?_
  obtain ⟨le23, hs22, h⟩ := zoS_s h
  refine zr_get F 14 4 zd_MD_load_30 (zW_o hs22 (by decide)) rfl (by decide) zw_1509 rfl (by rfl) ?_
  obtain ⟨x24, ex24, h⟩ := zoL_s h
  rw [← ex24]
  obtain ⟨le26, hs25, h⟩ := zoS_s h
  refine zr_put F 1 12 zd_MD_load_33 (zW_o hs25 (by decide)) rfl (by decide) zw_1692 rfl rfl rfl rfl (by exact (Nat.le_of_ble_eq_true rfl)) ?_
  obtain ⟨mm27, emm27, h⟩ := zoL_s h
  refine zr_norm (zW tA b sh mm27) _ (by rw [emm27]; exact zW_pI (v := x24) hs25 (by decide) (zf_I_1_12 b _ _ _)) rfl ?_
  refine zr_aload_n F zd_MD_load_36 rfl ?_
  refine zr_aload_n F zd_MD_load_37 rfl ?_
  obtain ⟨le29, hs28, h⟩ := zoS_s h
  obtain ⟨a30, ea30, h⟩ := zoB_s h
  refine zr_get F 1 7 zd_MD_load_38 (zW_o hs28 (by decide)) rfl (by decide) zw_1687 rfl (by rfl) ?_
  refine zr_tor ea30 ?_
  obtain ⟨le32, hs31, h⟩ := zoS_s h
  refine zr_get F 14 5 zd_MD_load_41 (zW_o hs31 (by decide)) rfl (by decide) zw_1511 rfl (by rfl) ?_
  obtain ⟨x33, ex33, h⟩ := zoL_s h
  rw [← ex33]
  obtain ⟨le35, hs34, h⟩ := zoS_s h
  refine zr_put F 1 13 zd_MD_load_44 (zW_o hs34 (by decide)) rfl (by decide) zw_1693 rfl rfl rfl rfl (by exact (Nat.le_of_ble_eq_true rfl)) ?_
  obtain ⟨mm36, emm36, h⟩ := zoL_s h
  refine zr_norm (zW tA b sh mm36) _ (by rw [emm36]; exact zW_pI (v := x33) hs34 (by decide) (zf_I_1_13 b _ _ _)) rfl ?_
  refine zr_pcn 47 rfl ?_
  refine zr_aload_n F zd_MD_load_47 rfl ?_
  refine zr_aload_n F zd_MD_load_48 rfl ?_
  obtain ⟨le38, hs37, h⟩ := zoS_s h
  refine zr_get F 1 12 zd_MD_load_49 (zW_o hs37 (by decide)) rfl (by decide) zw_1692 rfl (by rfl) ?_
  refine zr_if_ne F 59 zd_MD_load_52 (by decide) (fun hb39 => ?_) (fun hb39 => ?_)
  ·
    rw [if_neg hb39] at h
    refine zr_iconstv (v := 1) F zd_MD_load_59 (by decide) ?_
    obtain ⟨le41, hs40, h⟩ := zoS_s h
    refine zr_put F 1 11 zd_MD_load_60 (zW_o hs40 (by decide)) rfl (by decide) zw_1691 rfl rfl rfl rfl (by exact (Nat.le_of_ble_eq_true rfl)) ?_
    obtain ⟨mm42, emm42, h⟩ := zoL_s h
    refine zr_norm (zW tA b sh mm42) _ (by rw [emm42]; exact zW_pI (v := 1) hs40 (by decide) (zf_I_1_11 b _ _ _)) rfl ?_
    refine zr_aload_n F zd_MD_load_63 rfl ?_
    obtain ⟨le44, hs43, h⟩ := zoS_s h
    refine zr_get F 1 11 zd_MD_load_64 (zW_o hs43 (by decide)) rfl (by decide) zw_1691 rfl (by rfl) ?_
    refine zr_pcn 67 rfl ?_
    refine zr_if_eq F 72 zd_MD_load_67 (by decide) (fun hb45 => ?_) (fun hb45 => ?_)
    ·
      rw [if_pos hb45] at h
      refine zr_aload_n F zd_MD_load_72 rfl ?_
      obtain ⟨le47, hs46, h⟩ := zoS_s h
      obtain ⟨a48, ea48, h⟩ := zoB_s h
      refine zr_get F 1 5 zd_MD_load_73 (zW_o hs46 (by decide)) rfl (by decide) zw_1685 rfl (by rfl) ?_
      refine zr_tor ea48 ?_
      obtain ⟨le50, hs49, h⟩ := zoS_s h
      obtain ⟨p51, ep51, h⟩ := zoB_s h
      refine zr_callV0 F (k_MScene_makeLevels l D tA b sh _ ep51) zd_MD_load_76 (zW_o hs49 (by decide)) rfl zs_MD_103 rfl zq_MScene_makeLevels rfl rfl ⟨(Nat.le_of_ble_eq_true rfl), (Nat.le_of_ble_eq_true rfl)⟩ (Nat.le_of_ble_eq_true rfl) ⟨(Nat.le_of_ble_eq_true rfl), (Nat.le_of_ble_eq_true rfl)⟩ ?_
      refine zr_aload_n F zd_MD_load_79 rfl ?_
      obtain ⟨le53, hs52, h⟩ := zoS_s h
      obtain ⟨a54, ea54, h⟩ := zoB_s h
      refine zr_get F 1 4 zd_MD_load_80 (zW_o hs52 (by decide)) rfl (by decide) zw_1684 rfl (by rfl) ?_
      refine zr_tor ea54 ?_
      refine zr_aload_n F zd_MD_load_83 rfl ?_
      obtain ⟨le56, hs55, h⟩ := zoS_s h
      obtain ⟨a57, ea57, h⟩ := zoB_s h
      refine zr_get F 1 5 zd_MD_load_84 (zW_o hs55 (by decide)) rfl (by decide) zw_1685 rfl (by rfl) ?_
      refine zr_tor ea57 ?_
      refine zr_pcn 87 rfl ?_
      obtain ⟨le59, hs58, h⟩ := zoS_s h
      obtain ⟨p60, ep60, h⟩ := zoB_s h
      refine zr_callV0 F (k_MScene_become l D tA b sh _ ep60) zd_MD_load_87 (zW_o hs58 (by decide)) rfl zs_MD_106 rfl zq_MScene_become rfl rfl ⟨(Nat.le_of_ble_eq_true rfl), (Nat.le_of_ble_eq_true rfl)⟩ (Nat.le_of_ble_eq_true rfl) ⟨(Nat.le_of_ble_eq_true rfl), (Nat.le_of_ble_eq_true rfl)⟩ ?_
      refine zr_aload_n F zd_MD_load_90 rfl ?_
      refine zr_iconstv (v := 0) F zd_MD_load_91 (by decide) ?_
      obtain ⟨le62, hs61, h⟩ := zoS_s h
      refine zr_put F 1 10 zd_MD_load_92 (zW_o hs61 (by decide)) rfl (by decide) zw_1690 rfl rfl rfl rfl (by exact (Nat.le_of_ble_eq_true rfl)) ?_
      obtain ⟨mm63, emm63, h⟩ := zoL_s h
      refine zr_norm (zW tA b sh mm63) _ (by rw [emm63]; exact zW_pI (v := 0) hs61 (by decide) (zf_I_1_10 b _ _ _)) rfl ?_
      refine zr_aload_n F zd_MD_load_95 rfl ?_
      obtain ⟨le65, hs64, h⟩ := zoS_s h
      obtain ⟨a66, ea66, h⟩ := zoB_s h
      refine zr_get F 1 4 zd_MD_load_96 (zW_o hs64 (by decide)) rfl (by decide) zw_1684 rfl (by rfl) ?_
      refine zr_tor ea66 ?_
      obtain ⟨le68, hs67, h⟩ := zoS_s h
      refine zr_get F 15 3 zd_MD_load_99 (zW_o hs67 (by decide)) rfl (by decide) zw_1325 rfl (by rfl) ?_
      obtain rfl := Option.some.inj h
      exact zr_iret F hr zd_MD_load_102 (Nat.le_of_ble_eq_true rfl) (Nat.le_of_ble_eq_true rfl) ⟨rfl, rfl, rfl⟩
    ·
      rw [if_neg hb45] at h
      refine zr_pcn 70 rfl ?_
      refine zr_iconstv (v := 0) F zd_MD_load_70 (by decide) ?_
      obtain rfl := Option.some.inj h
      exact zr_iret F hr zd_MD_load_71 (Nat.le_of_ble_eq_true rfl) (Nat.le_of_ble_eq_true rfl) ⟨rfl, rfl, rfl⟩
  ·
    rw [if_pos hb39] at h
    refine zr_iconstv (v := 0) F zd_MD_load_55 (by decide) ?_
    refine zr_goto F 60 zd_MD_load_56 (by decide) ?_
    obtain ⟨le70, hs69, h⟩ := zoS_s h
    refine zr_put F 1 11 zd_MD_load_60 (zW_o hs69 (by decide)) rfl (by decide) zw_1691 rfl rfl rfl rfl (by exact (Nat.le_of_ble_eq_true rfl)) ?_
    obtain ⟨mm71, emm71, h⟩ := zoL_s h
    refine zr_norm (zW tA b sh mm71) _ (by rw [emm71]; exact zW_pI (v := 0) hs69 (by decide) (zf_I_1_11 b _ _ _)) rfl ?_
    refine zr_aload_n F zd_MD_load_63 rfl ?_
    obtain ⟨le73, hs72, h⟩ := zoS_s h
    refine zr_get F 1 11 zd_MD_load_64 (zW_o hs72 (by decide)) rfl (by decide) zw_1691 rfl (by rfl) ?_
    refine zr_if_eq F 72 zd_MD_load_67 (by decide) (fun hb74 => ?_) (fun hb74 => ?_)
    ·
      rw [if_pos hb74] at h
      refine zr_pcn 72 rfl ?_
      refine zr_aload_n F zd_MD_load_72 rfl ?_
      obtain ⟨le76, hs75, h⟩ := zoS_s h
      obtain ⟨a77, ea77, h⟩ := zoB_s h
      refine zr_get F 1 5 zd_MD_load_73 (zW_o hs75 (by decide)) rfl (by decide) zw_1685 rfl (by rfl) ?_
      refine zr_tor ea77 ?_
      obtain ⟨le79, hs78, h⟩ := zoS_s h
      obtain ⟨p80, ep80, h⟩ := zoB_s h
      refine zr_callV0 F (k_MScene_makeLevels l D tA b sh _ ep80) zd_MD_load_76 (zW_o hs78 (by decide)) rfl zs_MD_103 rfl zq_MScene_makeLevels rfl rfl ⟨(Nat.le_of_ble_eq_true rfl), (Nat.le_of_ble_eq_true rfl)⟩ (Nat.le_of_ble_eq_true rfl) ⟨(Nat.le_of_ble_eq_true rfl), (Nat.le_of_ble_eq_true rfl)⟩ ?_
      refine zr_aload_n F zd_MD_load_79 rfl ?_
      obtain ⟨le82, hs81, h⟩ := zoS_s h
      obtain ⟨a83, ea83, h⟩ := zoB_s h
      refine zr_get F 1 4 zd_MD_load_80 (zW_o hs81 (by decide)) rfl (by decide) zw_1684 rfl (by rfl) ?_
      refine zr_tor ea83 ?_
      refine zr_aload_n F zd_MD_load_83 rfl ?_
      obtain ⟨le85, hs84, h⟩ := zoS_s h
      obtain ⟨a86, ea86, h⟩ := zoB_s h
      refine zr_get F 1 5 zd_MD_load_84 (zW_o hs84 (by decide)) rfl (by decide) zw_1685 rfl (by rfl) ?_
      refine zr_tor ea86 ?_
      obtain ⟨le88, hs87, h⟩ := zoS_s h
      obtain ⟨p89, ep89, h⟩ := zoB_s h
      refine zr_callV0 F (k_MScene_become l D tA b sh _ ep89) zd_MD_load_87 (zW_o hs87 (by decide)) rfl zs_MD_106 rfl zq_MScene_become rfl rfl ⟨(Nat.le_of_ble_eq_true rfl), (Nat.le_of_ble_eq_true rfl)⟩ (Nat.le_of_ble_eq_true rfl) ⟨(Nat.le_of_ble_eq_true rfl), (Nat.le_of_ble_eq_true rfl)⟩ ?_
      refine zr_pcn 90 rfl ?_
      refine zr_aload_n F zd_MD_load_90 rfl ?_
      refine zr_iconstv (v := 0) F zd_MD_load_91 (by decide) ?_
      obtain ⟨le91, hs90, h⟩ := zoS_s h
      refine zr_put F 1 10 zd_MD_load_92 (zW_o hs90 (by decide)) rfl (by decide) zw_1690 rfl rfl rfl rfl (by exact (Nat.le_of_ble_eq_true rfl)) ?_
      obtain ⟨mm92, emm92, h⟩ := zoL_s h
      refine zr_norm (zW tA b sh mm92) _ (by rw [emm92]; exact zW_pI (v := 0) hs90 (by decide) (zf_I_1_10 b _ _ _)) rfl ?_
      refine zr_aload_n F zd_MD_load_95 rfl ?_
      obtain ⟨le94, hs93, h⟩ := zoS_s h
      obtain ⟨a95, ea95, h⟩ := zoB_s h
      refine zr_get F 1 4 zd_MD_load_96 (zW_o hs93 (by decide)) rfl (by decide) zw_1684 rfl (by rfl) ?_
      refine zr_tor ea95 ?_
      obtain ⟨le97, hs96, h⟩ := zoS_s h
      refine zr_get F 15 3 zd_MD_load_99 (zW_o hs96 (by decide)) rfl (by decide) zw_1325 rfl (by rfl) ?_
      obtain rfl := Option.some.inj h
      exact zr_iret F hr zd_MD_load_102 (Nat.le_of_ble_eq_true rfl) (Nat.le_of_ble_eq_true rfl) ⟨rfl, rfl, rfl⟩
    ·
      rw [if_neg hb74] at h
      refine zr_iconstv (v := 0) F zd_MD_load_70 (by decide) ?_
      refine zr_pcn 71 rfl ?_
      obtain rfl := Option.some.inj h
      exact zr_iret F hr zd_MD_load_71 (Nat.le_of_ble_eq_true rfl) (Nat.le_of_ble_eq_true rfl) ⟨rfl, rfl, rfl⟩
theorem zw_1965 : (Jvm.Cond.methodLink "OrreryBoxModel" (139 : Nat) ({ cls := "OrreryBoxModel$Scene", name := "of", desc := "(I)[I" } : Jvm.MethodName)) ∈ gw := gw_t 1965 (by decide +kernel) rfl
theorem zw_1940 : (Jvm.Cond.instanceMethod ({ cls := "OrreryBoxModel$Scene", name := "of", desc := "(I)[I" } : Jvm.MethodName)) ∈ gw := gw_t 1940 (by decide +kernel) rfl
theorem zw_1941 : (Jvm.Cond.selects "OrreryBoxModel$Scene" ({ cls := "OrreryBoxModel$Scene", name := "of", desc := "(I)[I" } : Jvm.MethodName) ({ cls := "OrreryBoxModel$Scene", name := "of", desc := "(I)[I" } : Jvm.MethodName)) ∈ gw := gw_t 1941 (by decide +kernel) rfl
theorem zs_MD_139 : zwV "OrreryBoxModel" 139 "OrreryBoxModel$Scene" zy_MScene_of zb_MScene_of 2 (some (.array .int)) := ⟨zw_1965, zw_1940, zw_1941, zw_14, zc_MScene_of⟩
def F_MD_set (sh : zSh) (mm : zMem) (o : Nat) (x0_ : Int32) (x1_ : Int32) (x2_ : Int32) (x3_ : Int32) (x4_ : Int32) : Option (Int32 × zMem) := zoS (sh o) 1 (fun le2 => zoL (mI mm o 11 0) (fun mm3 => (if x0_ < 0 then some (0, mm3) else zoS (sh o) 1 (fun le6 => Option.bind (mm3.2.2 o 4) (fun a7 => zoS (sh a7) 15 (fun le9 => (if (mm3.1 a7 3) ≤ x0_ then some (0, mm3) else (if x1_ < 0 then some (0, mm3) else (if 2 < x1_ then some (0, mm3) else (if x1_ = 0 then (if (sp_MD_within x2_ x3_ x4_ 4194304) = 0 then some (0, mm3) else zoS (sh o) 1 (fun le40 => Option.bind (mm3.2.2 o 4) (fun a41 => zoS (sh a41) 15 (fun le43 => Option.bind (F_MScene_of sh mm3 a41 x1_) (fun p44 => zoL (3 * x0_) (fun i45 => zoS (sh (p44.1)) 100 (fun le47 => if (i45 : Int32) < 0 ∨ le47 ≤ (i45 : Int32).toNatClampNeg then none else zoL (mI (p44.2) (p44.1) (i45 : Int32).toNatClampNeg x2_) (fun mm49 => zoL ((3 * x0_) + 1) (fun i50 => zoS (sh (p44.1)) 100 (fun le52 => if (i50 : Int32) < 0 ∨ le52 ≤ (i50 : Int32).toNatClampNeg then none else zoL (mI mm49 (p44.1) (i50 : Int32).toNatClampNeg x3_) (fun mm54 => zoL ((3 * x0_) + 2) (fun i55 => zoS (sh (p44.1)) 100 (fun le57 => if (i55 : Int32) < 0 ∨ le57 ≤ (i55 : Int32).toNatClampNeg then none else zoL (mI mm54 (p44.1) (i55 : Int32).toNatClampNeg x4_) (fun mm59 => some (1, mm59))))))))))))))) else (if (sp_MD_within x2_ x3_ x4_ 1048576) = 0 then some (0, mm3) else zoS (sh o) 1 (fun le17 => Option.bind (mm3.2.2 o 4) (fun a18 => zoS (sh a18) 15 (fun le20 => Option.bind (F_MScene_of sh mm3 a18 x1_) (fun p21 => zoL (3 * x0_) (fun i22 => zoS (sh (p21.1)) 100 (fun le24 => if (i22 : Int32) < 0 ∨ le24 ≤ (i22 : Int32).toNatClampNeg then none else zoL (mI (p21.2) (p21.1) (i22 : Int32).toNatClampNeg x2_) (fun mm26 => zoL ((3 * x0_) + 1) (fun i27 => zoS (sh (p21.1)) 100 (fun le29 => if (i27 : Int32) < 0 ∨ le29 ≤ (i27 : Int32).toNatClampNeg then none else zoL (mI mm26 (p21.1) (i27 : Int32).toNatClampNeg x3_) (fun mm31 => zoL ((3 * x0_) + 2) (fun i32 => zoS (sh (p21.1)) 100 (fun le34 => if (i32 : Int32) < 0 ∨ le34 ≤ (i32 : Int32).toNatClampNeg then none else zoL (mI mm31 (p21.1) (i32 : Int32).toNatClampNeg x4_) (fun mm36 => some (1, mm36)))))))))))))))))))))))))
set_option maxHeartbeats 4000000 in
set_option maxRecDepth 100000 in
theorem k_MD_set (l : Launch) (D : va_G) (tA : Nat → ClassId) (b : Nat) (sh : zSh) (n : Nat) {mm : zMem} {o : Nat} {x0_ : Int32} {x1_ : Int32} {x2_ : Int32} {x3_ : Int32} {x4_ : Int32} {r : (Int32 × zMem)} (h : F_MD_set sh mm o x0_ x1_ x2_ x3_ x4_ = some r) : zM l D tA b zy_MD_set zb_MD_set 7 (some .boolean) 1 23 0 0 [.ref (b + o), .int x0_, .int x1_, .int x2_, .int x3_, .int x4_] (zW tA b sh mm) n (zE (some (.int (r.1))) (zW tA b sh r.2) n) := by
  unfold F_MD_set at h
  refine zM_of (own := "OrreryBoxModel") (plainFor_of_name (by decide)) rfl (Nat.le_of_ble_eq_true rfl) (fun p e s m below meth c F hr hin hH => ?_)
  refine zr_aload_n F zd_MD_set_0 rfl ?_
  refine zr_iconstv (v := 0) F zd_MD_set_1 (by decide) ?_
  obtain ⟨le2, hs1, h⟩ := zoS_s h
  refine zr_put F 1 11 zd_MD_set_2 (zW_o hs1 (by decide)) rfl (by decide) zw_1691 rfl rfl rfl rfl (by exact (Nat.le_of_ble_eq_true rfl)) ?_
  obtain ⟨mm3, emm3, h⟩ := zoL_s h
  refine zr_norm (zW tA b sh mm3) _ (by rw [emm3]; exact zW_pI (v := 0) hs1 (by decide) (zf_I_1_11 b _ _ _)) rfl ?_
  refine zr_iload_n F zd_MD_set_5 rfl ?_
  refine zr_if_lt F 51 zd_MD_set_6 (by decide) (fun hb4 => ?_) (fun hb4 => ?_)
  ·
    rw [if_pos hb4] at h
    refine zr_iconstv (v := 0) F zd_MD_set_51 (by decide) ?_
    obtain rfl := Option.some.inj h
    exact zr_zret F hr rfl zd_MD_set_52 (Nat.le_of_ble_eq_true rfl) (Nat.le_of_ble_eq_true rfl) ⟨rfl, rfl, rfl⟩
  ·
    rw [if_neg hb4] at h
    refine zr_pcn 9 rfl ?_
    refine zr_iload_n F zd_MD_set_9 rfl ?_
    refine zr_aload_n F zd_MD_set_10 rfl ?_
    obtain ⟨le6, hs5, h⟩ := zoS_s h
    obtain ⟨a7, ea7, h⟩ := zoB_s h
    refine zr_get F 1 4 zd_MD_set_11 (zW_o hs5 (by decide)) rfl (by decide) zw_1684 rfl (by rfl) ?_
    refine zr_tor ea7 ?_
    obtain ⟨le9, hs8, h⟩ := zoS_s h
    refine zr_get F 15 3 zd_MD_set_14 (zW_o hs8 (by decide)) rfl (by decide) zw_1325 rfl (by rfl) ?_
    refine zr_icmp_ge F 51 zd_MD_set_17 (by decide) (fun hb10 => ?_) (fun hb10 => ?_)
    ·
      rw [if_pos hb10] at h
      refine zr_iconstv (v := 0) F zd_MD_set_51 (by decide) ?_
      obtain rfl := Option.some.inj h
      exact zr_zret F hr rfl zd_MD_set_52 (Nat.le_of_ble_eq_true rfl) (Nat.le_of_ble_eq_true rfl) ⟨rfl, rfl, rfl⟩
    ·
      rw [if_neg hb10] at h
      refine zr_iload_n F zd_MD_set_20 rfl ?_
      refine zr_pcn 21 rfl ?_
      refine zr_if_lt F 51 zd_MD_set_21 (by decide) (fun hb11 => ?_) (fun hb11 => ?_)
      ·
        rw [if_pos hb11] at h
        refine zr_iconstv (v := 0) F zd_MD_set_51 (by decide) ?_
        obtain rfl := Option.some.inj h
        exact zr_zret F hr rfl zd_MD_set_52 (Nat.le_of_ble_eq_true rfl) (Nat.le_of_ble_eq_true rfl) ⟨rfl, rfl, rfl⟩
      ·
        rw [if_neg hb11] at h
        refine zr_iload_n F zd_MD_set_24 rfl ?_
        refine zr_iconstv (v := 2) F zd_MD_set_25 (by decide) ?_
        refine zr_icmp_gt F 51 zd_MD_set_26 (by decide) (fun hb12 => ?_) (fun hb12 => ?_)
        ·
          rw [if_pos hb12] at h
          refine zr_iconstv (v := 0) F zd_MD_set_51 (by decide) ?_
          obtain rfl := Option.some.inj h
          exact zr_zret F hr rfl zd_MD_set_52 (Nat.le_of_ble_eq_true rfl) (Nat.le_of_ble_eq_true rfl) ⟨rfl, rfl, rfl⟩
        ·
          rw [if_neg hb12] at h
          refine zr_pcn 29 rfl ?_
          refine zr_iload_n F zd_MD_set_29 rfl ?_
          refine zr_iload F zd_MD_set_30 rfl ?_
          refine zr_iload F zd_MD_set_32 rfl ?_
          refine zr_iload_n F zd_MD_set_34 rfl ?_
          refine zr_if_ne F 43 zd_MD_set_35 (by decide) (fun hb13 => ?_) (fun hb13 => ?_)
          ·
            rw [if_neg hb13] at h
            refine zr_ldc F zd_MD_set_43 zw_1961 ?_
            refine zr_callS1 F (c_MD_within l D tA b _ _ x2_ x3_ x4_ 1048576) zd_MD_set_45 zs_MD_135 zq_MD_within rfl rfl ⟨(Nat.le_of_ble_eq_true rfl), (Nat.le_of_ble_eq_true rfl)⟩ (Nat.le_of_ble_eq_true rfl) ⟨(Nat.le_of_ble_eq_true rfl), (Nat.le_of_ble_eq_true rfl)⟩ ?_
            refine zr_if_ne F 53 zd_MD_set_48 (by decide) (fun hb15 => ?_) (fun hb15 => ?_)
            ·
              rw [if_neg hb15] at h
              refine zr_pcn 53 rfl ?_
              refine zr_aload_n F zd_MD_set_53 rfl ?_
              obtain ⟨le17, hs16, h⟩ := zoS_s h
              obtain ⟨a18, ea18, h⟩ := zoB_s h
              refine zr_get F 1 4 zd_MD_set_54 (zW_o hs16 (by decide)) rfl (by decide) zw_1684 rfl (by rfl) ?_
              refine zr_tor ea18 ?_
              refine zr_iload_n F zd_MD_set_57 rfl ?_
              obtain ⟨le20, hs19, h⟩ := zoS_s h
              obtain ⟨p21, ep21, h⟩ := zoB_s h
              refine zr_callV1 F (k_MScene_of l D tA b sh _ ep21) zd_MD_set_58 (zW_o hs19 (by decide)) rfl zs_MD_139 rfl zq_MScene_of rfl rfl ⟨(Nat.le_of_ble_eq_true rfl), (Nat.le_of_ble_eq_true rfl)⟩ (Nat.le_of_ble_eq_true rfl) ⟨(Nat.le_of_ble_eq_true rfl), (Nat.le_of_ble_eq_true rfl)⟩ ?_
              refine zr_astore F zd_MD_set_61 (by decide) ?_
              refine zr_aload F zd_MD_set_63 rfl ?_
              refine zr_iconstv (v := 3) F zd_MD_set_65 (by decide) ?_
              refine zr_iload_n F zd_MD_set_66 rfl ?_
              refine zr_pcn 67 rfl ?_
              refine zr_imul F zd_MD_set_67 ?_
              refine zr_iload_n F zd_MD_set_68 rfl ?_
              obtain ⟨i22, ei22, h⟩ := zoL_s h
              rw [← ei22]
              obtain ⟨le24, hs23, h⟩ := zoS_s h
              obtain ⟨hi25, h⟩ := zoI_s h
              refine zr_iast F zd_MD_set_69 (zW_a0 hs23) hi25 ?_
              obtain ⟨mm26, emm26, h⟩ := zoL_s h
              refine zr_norm (zW tA b sh mm26) _ (by rw [emm26]; exact zW_s0 hs23) rfl ?_
              refine zr_aload F zd_MD_set_70 rfl ?_
              refine zr_iconstv (v := 3) F zd_MD_set_72 (by decide) ?_
              refine zr_iload_n F zd_MD_set_73 rfl ?_
              refine zr_imul F zd_MD_set_74 ?_
              refine zr_iconstv (v := 1) F zd_MD_set_75 (by decide) ?_
              refine zr_pcn 76 rfl ?_
              refine zr_iadd F zd_MD_set_76 ?_
              refine zr_iload F zd_MD_set_77 rfl ?_
              obtain ⟨i27, ei27, h⟩ := zoL_s h
              rw [← ei27]
              obtain ⟨le29, hs28, h⟩ := zoS_s h
              obtain ⟨hi30, h⟩ := zoI_s h
              refine zr_iast F zd_MD_set_79 (zW_a0 hs28) hi30 ?_
              obtain ⟨mm31, emm31, h⟩ := zoL_s h
              refine zr_norm (zW tA b sh mm31) _ (by rw [emm31]; exact zW_s0 hs28) rfl ?_
              refine zr_aload F zd_MD_set_80 rfl ?_
              refine zr_iconstv (v := 3) F zd_MD_set_82 (by decide) ?_
              refine zr_iload_n F zd_MD_set_83 rfl ?_
              refine zr_imul F zd_MD_set_84 ?_
              refine zr_iconstv (v := 2) F zd_MD_set_85 (by decide) ?_
              refine zr_pcn 86 rfl ?_
              refine zr_iadd F zd_MD_set_86 ?_
              refine zr_iload F zd_MD_set_87 rfl ?_
              obtain ⟨i32, ei32, h⟩ := zoL_s h
              rw [← ei32]
              obtain ⟨le34, hs33, h⟩ := zoS_s h
              obtain ⟨hi35, h⟩ := zoI_s h
              refine zr_iast F zd_MD_set_89 (zW_a0 hs33) hi35 ?_
              obtain ⟨mm36, emm36, h⟩ := zoL_s h
              refine zr_norm (zW tA b sh mm36) _ (by rw [emm36]; exact zW_s0 hs33) rfl ?_
              refine zr_iconstv (v := 1) F zd_MD_set_90 (by decide) ?_
              obtain rfl := Option.some.inj h
              exact zr_zret F hr rfl zd_MD_set_91 (Nat.le_of_ble_eq_true rfl) (Nat.le_of_ble_eq_true rfl) ⟨rfl, rfl, rfl⟩
            ·
              rw [if_pos hb15] at h
              refine zr_iconstv (v := 0) F zd_MD_set_51 (by decide) ?_
              obtain rfl := Option.some.inj h
              exact zr_zret F hr rfl zd_MD_set_52 (Nat.le_of_ble_eq_true rfl) (Nat.le_of_ble_eq_true rfl) ⟨rfl, rfl, rfl⟩
          ·
            rw [if_pos hb13] at h
            refine zr_ldc F zd_MD_set_38 zw_1960 ?_
            refine zr_pcn 40 rfl ?_
            refine zr_goto F 45 zd_MD_set_40 (by decide) ?_
            refine zr_callS1 F (c_MD_within l D tA b _ _ x2_ x3_ x4_ 4194304) zd_MD_set_45 zs_MD_135 zq_MD_within rfl rfl ⟨(Nat.le_of_ble_eq_true rfl), (Nat.le_of_ble_eq_true rfl)⟩ (Nat.le_of_ble_eq_true rfl) ⟨(Nat.le_of_ble_eq_true rfl), (Nat.le_of_ble_eq_true rfl)⟩ ?_
            refine zr_if_ne F 53 zd_MD_set_48 (by decide) (fun hb38 => ?_) (fun hb38 => ?_)
            ·
              rw [if_neg hb38] at h
              refine zr_aload_n F zd_MD_set_53 rfl ?_
              obtain ⟨le40, hs39, h⟩ := zoS_s h
              obtain ⟨a41, ea41, h⟩ := zoB_s h
              refine zr_get F 1 4 zd_MD_set_54 (zW_o hs39 (by decide)) rfl (by decide) zw_1684 rfl (by rfl) ?_
              refine zr_tor ea41 ?_
              refine zr_iload_n F zd_MD_set_57 rfl ?_
              obtain ⟨le43, hs42, h⟩ := zoS_s h
              obtain ⟨p44, ep44, h⟩ := zoB_s h
              refine zr_callV1 F (k_MScene_of l D tA b sh _ ep44) zd_MD_set_58 (zW_o hs42 (by decide)) rfl zs_MD_139 rfl zq_MScene_of rfl rfl ⟨(Nat.le_of_ble_eq_true rfl), (Nat.le_of_ble_eq_true rfl)⟩ (Nat.le_of_ble_eq_true rfl) ⟨(Nat.le_of_ble_eq_true rfl), (Nat.le_of_ble_eq_true rfl)⟩ ?_
              refine zr_astore F zd_MD_set_61 (by decide) ?_
              refine zr_pcn 63 rfl ?_
              refine zr_aload F zd_MD_set_63 rfl ?_
              refine zr_iconstv (v := 3) F zd_MD_set_65 (by decide) ?_
              refine zr_iload_n F zd_MD_set_66 rfl ?_
              refine zr_imul F zd_MD_set_67 ?_
              refine zr_iload_n F zd_MD_set_68 rfl ?_
              obtain ⟨i45, ei45, h⟩ := zoL_s h
              rw [← ei45]
              obtain ⟨le47, hs46, h⟩ := zoS_s h
              obtain ⟨hi48, h⟩ := zoI_s h
              refine zr_iast F zd_MD_set_69 (zW_a0 hs46) hi48 ?_
              obtain ⟨mm49, emm49, h⟩ := zoL_s h
              refine zr_norm (zW tA b sh mm49) _ (by rw [emm49]; exact zW_s0 hs46) rfl ?_
              refine zr_aload F zd_MD_set_70 rfl ?_
              refine zr_iconstv (v := 3) F zd_MD_set_72 (by decide) ?_
              refine zr_pcn 73 rfl ?_
              refine zr_iload_n F zd_MD_set_73 rfl ?_
              refine zr_imul F zd_MD_set_74 ?_
              refine zr_iconstv (v := 1) F zd_MD_set_75 (by decide) ?_
              refine zr_iadd F zd_MD_set_76 ?_
              refine zr_iload F zd_MD_set_77 rfl ?_
              obtain ⟨i50, ei50, h⟩ := zoL_s h
              rw [← ei50]
              obtain ⟨le52, hs51, h⟩ := zoS_s h
              obtain ⟨hi53, h⟩ := zoI_s h
              refine zr_iast F zd_MD_set_79 (zW_a0 hs51) hi53 ?_
              obtain ⟨mm54, emm54, h⟩ := zoL_s h
              refine zr_norm (zW tA b sh mm54) _ (by rw [emm54]; exact zW_s0 hs51) rfl ?_
              refine zr_aload F zd_MD_set_80 rfl ?_
              refine zr_iconstv (v := 3) F zd_MD_set_82 (by decide) ?_
              refine zr_pcn 83 rfl ?_
              refine zr_iload_n F zd_MD_set_83 rfl ?_
              refine zr_imul F zd_MD_set_84 ?_
              refine zr_iconstv (v := 2) F zd_MD_set_85 (by decide) ?_
              refine zr_iadd F zd_MD_set_86 ?_
              refine zr_iload F zd_MD_set_87 rfl ?_
              obtain ⟨i55, ei55, h⟩ := zoL_s h
              rw [← ei55]
              obtain ⟨le57, hs56, h⟩ := zoS_s h
              obtain ⟨hi58, h⟩ := zoI_s h
              refine zr_iast F zd_MD_set_89 (zW_a0 hs56) hi58 ?_
              obtain ⟨mm59, emm59, h⟩ := zoL_s h
              refine zr_norm (zW tA b sh mm59) _ (by rw [emm59]; exact zW_s0 hs56) rfl ?_
              refine zr_iconstv (v := 1) F zd_MD_set_90 (by decide) ?_
              obtain rfl := Option.some.inj h
              exact zr_zret F hr rfl zd_MD_set_91 (Nat.le_of_ble_eq_true rfl) (Nat.le_of_ble_eq_true rfl) ⟨rfl, rfl, rfl⟩
            ·
              rw [if_pos hb38] at h
              refine zr_pcn 51 rfl ?_
              refine zr_iconstv (v := 0) F zd_MD_set_51 (by decide) ?_
              obtain rfl := Option.some.inj h
              exact zr_zret F hr rfl zd_MD_set_52 (Nat.le_of_ble_eq_true rfl) (Nat.le_of_ble_eq_true rfl) ⟨rfl, rfl, rfl⟩
theorem zw_1582 : (Jvm.Cond.fieldLink "OrreryBoxModel" (168 : Nat) "OrreryBoxModel$Painter" "scene" "LOrreryBoxModel$Scene;") ∈ gw := gw_t 1582 (by decide +kernel) rfl
theorem zf_R_13_5 (b : Nat) (m : zMem) (k : Nat) (v : Option Nat) : (zfl b 13 m k).set 5 (zrf b v) = zfl b 13 (mR m k 5 v) k := by simp [zfl, mR, upd, vp_updL]
theorem zw_1993 : (Jvm.Cond.methodLink "OrreryBoxModel" (171 : Nat) ({ cls := "OrreryBoxModel$Painter", name := "toWorld", desc := "(I)V" } : Jvm.MethodName)) ∈ gw := gw_t 1993 (by decide +kernel) rfl
theorem zs_MD_171 : zwV "OrreryBoxModel" 171 "OrreryBoxModel$Painter" zy_MPainter_toWorld zb_MPainter_toWorld 4 none := ⟨zw_1993, zw_1994, zw_1995, zw_17, zc_MPainter_toWorld⟩
theorem zw_1594 : (Jvm.Cond.fieldLink "OrreryBoxModel" (174 : Nat) "OrreryBoxModel$Painter" "world" "[J") ∈ gw := gw_t 1594 (by decide +kernel) rfl
def F_MD_world (sh : zSh) (mm : zMem) (o : Nat) (x0_ : Int32) (x1_ : Int32) (x2_ : Int32) : Option (Int32 × zMem) := (if x0_ < 0 then zoS (sh o) 1 (fun le3 => zoL (mI mm o 11 1) (fun mm4 => zoS (sh o) 1 (fun le6 => (if (mm4.1 o 11) = 0 then zoS (sh o) 1 (fun le9 => Option.bind (mm4.2.2 o 8) (fun a10 => zoS (sh o) 1 (fun le12 => Option.bind (mm4.2.2 o 4) (fun a13 => zoS (sh a10) 13 (fun le15 => zoL (mR mm4 a10 5 (some a13)) (fun mm16 => zoS (sh o) 1 (fun le18 => Option.bind (mm16.2.2 o 8) (fun a19 => zoS (sh a19) 13 (fun le21 => Option.bind (F_MPainter_toWorld sh mm16 a19 x0_) (fun p22 => zoS (sh o) 1 (fun le24 => Option.bind (p22.2.2 o 8) (fun a25 => zoS (sh a25) 13 (fun le27 => Option.bind (p22.2.2 a25 14) (fun a28 => zoL ((4 * x1_) + x2_) (fun i29 => zoS (sh a28) 102 (fun le31 => if (i29 : Int32) < 0 ∨ le31 ≤ (i29 : Int32).toNatClampNeg then none else some ((((p22.2.1 a28 (i29 : Int32).toNatClampNeg) : Int64).toInt32), p22))))))))))))))))) else some (0, mm4))))) else zoS (sh o) 1 (fun le34 => Option.bind (mm.2.2 o 4) (fun a35 => zoS (sh a35) 15 (fun le37 => (if (mm.1 a35 3) ≤ x0_ then zoS (sh o) 1 (fun le40 => zoL (mI mm o 11 1) (fun mm41 => zoS (sh o) 1 (fun le43 => (if (mm41.1 o 11) = 0 then zoS (sh o) 1 (fun le46 => Option.bind (mm41.2.2 o 8) (fun a47 => zoS (sh o) 1 (fun le49 => Option.bind (mm41.2.2 o 4) (fun a50 => zoS (sh a47) 13 (fun le52 => zoL (mR mm41 a47 5 (some a50)) (fun mm53 => zoS (sh o) 1 (fun le55 => Option.bind (mm53.2.2 o 8) (fun a56 => zoS (sh a56) 13 (fun le58 => Option.bind (F_MPainter_toWorld sh mm53 a56 x0_) (fun p59 => zoS (sh o) 1 (fun le61 => Option.bind (p59.2.2 o 8) (fun a62 => zoS (sh a62) 13 (fun le64 => Option.bind (p59.2.2 a62 14) (fun a65 => zoL ((4 * x1_) + x2_) (fun i66 => zoS (sh a65) 102 (fun le68 => if (i66 : Int32) < 0 ∨ le68 ≤ (i66 : Int32).toNatClampNeg then none else some ((((p59.2.1 a65 (i66 : Int32).toNatClampNeg) : Int64).toInt32), p59))))))))))))))))) else some (0, mm41))))) else (if x1_ < 0 then zoS (sh o) 1 (fun le72 => zoL (mI mm o 11 1) (fun mm73 => zoS (sh o) 1 (fun le75 => (if (mm73.1 o 11) = 0 then zoS (sh o) 1 (fun le78 => Option.bind (mm73.2.2 o 8) (fun a79 => zoS (sh o) 1 (fun le81 => Option.bind (mm73.2.2 o 4) (fun a82 => zoS (sh a79) 13 (fun le84 => zoL (mR mm73 a79 5 (some a82)) (fun mm85 => zoS (sh o) 1 (fun le87 => Option.bind (mm85.2.2 o 8) (fun a88 => zoS (sh a88) 13 (fun le90 => Option.bind (F_MPainter_toWorld sh mm85 a88 x0_) (fun p91 => zoS (sh o) 1 (fun le93 => Option.bind (p91.2.2 o 8) (fun a94 => zoS (sh a94) 13 (fun le96 => Option.bind (p91.2.2 a94 14) (fun a97 => zoL ((4 * x1_) + x2_) (fun i98 => zoS (sh a97) 102 (fun le100 => if (i98 : Int32) < 0 ∨ le100 ≤ (i98 : Int32).toNatClampNeg then none else some ((((p91.2.1 a97 (i98 : Int32).toNatClampNeg) : Int64).toInt32), p91))))))))))))))))) else some (0, mm73))))) else (if 2 < x1_ then zoS (sh o) 1 (fun le104 => zoL (mI mm o 11 1) (fun mm105 => zoS (sh o) 1 (fun le107 => (if (mm105.1 o 11) = 0 then zoS (sh o) 1 (fun le110 => Option.bind (mm105.2.2 o 8) (fun a111 => zoS (sh o) 1 (fun le113 => Option.bind (mm105.2.2 o 4) (fun a114 => zoS (sh a111) 13 (fun le116 => zoL (mR mm105 a111 5 (some a114)) (fun mm117 => zoS (sh o) 1 (fun le119 => Option.bind (mm117.2.2 o 8) (fun a120 => zoS (sh a120) 13 (fun le122 => Option.bind (F_MPainter_toWorld sh mm117 a120 x0_) (fun p123 => zoS (sh o) 1 (fun le125 => Option.bind (p123.2.2 o 8) (fun a126 => zoS (sh a126) 13 (fun le128 => Option.bind (p123.2.2 a126 14) (fun a129 => zoL ((4 * x1_) + x2_) (fun i130 => zoS (sh a129) 102 (fun le132 => if (i130 : Int32) < 0 ∨ le132 ≤ (i130 : Int32).toNatClampNeg then none else some ((((p123.2.1 a129 (i130 : Int32).toNatClampNeg) : Int64).toInt32), p123))))))))))))))))) else some (0, mm105))))) else (if x2_ < 0 then zoS (sh o) 1 (fun le136 => zoL (mI mm o 11 1) (fun mm137 => zoS (sh o) 1 (fun le139 => (if (mm137.1 o 11) = 0 then zoS (sh o) 1 (fun le142 => Option.bind (mm137.2.2 o 8) (fun a143 => zoS (sh o) 1 (fun le145 => Option.bind (mm137.2.2 o 4) (fun a146 => zoS (sh a143) 13 (fun le148 => zoL (mR mm137 a143 5 (some a146)) (fun mm149 => zoS (sh o) 1 (fun le151 => Option.bind (mm149.2.2 o 8) (fun a152 => zoS (sh a152) 13 (fun le154 => Option.bind (F_MPainter_toWorld sh mm149 a152 x0_) (fun p155 => zoS (sh o) 1 (fun le157 => Option.bind (p155.2.2 o 8) (fun a158 => zoS (sh a158) 13 (fun le160 => Option.bind (p155.2.2 a158 14) (fun a161 => zoL ((4 * x1_) + x2_) (fun i162 => zoS (sh a161) 102 (fun le164 => if (i162 : Int32) < 0 ∨ le164 ≤ (i162 : Int32).toNatClampNeg then none else some ((((p155.2.1 a161 (i162 : Int32).toNatClampNeg) : Int64).toInt32), p155))))))))))))))))) else some (0, mm137))))) else (if x2_ ≤ 3 then zoS (sh o) 1 (fun le168 => zoL (mI mm o 11 0) (fun mm169 => zoS (sh o) 1 (fun le171 => (if (mm169.1 o 11) = 0 then zoS (sh o) 1 (fun le174 => Option.bind (mm169.2.2 o 8) (fun a175 => zoS (sh o) 1 (fun le177 => Option.bind (mm169.2.2 o 4) (fun a178 => zoS (sh a175) 13 (fun le180 => zoL (mR mm169 a175 5 (some a178)) (fun mm181 => zoS (sh o) 1 (fun le183 => Option.bind (mm181.2.2 o 8) (fun a184 => zoS (sh a184) 13 (fun le186 => Option.bind (F_MPainter_toWorld sh mm181 a184 x0_) (fun p187 => zoS (sh o) 1 (fun le189 => Option.bind (p187.2.2 o 8) (fun a190 => zoS (sh a190) 13 (fun le192 => Option.bind (p187.2.2 a190 14) (fun a193 => zoL ((4 * x1_) + x2_) (fun i194 => zoS (sh a193) 102 (fun le196 => if (i194 : Int32) < 0 ∨ le196 ≤ (i194 : Int32).toNatClampNeg then none else some ((((p187.2.1 a193 (i194 : Int32).toNatClampNeg) : Int64).toInt32), p187))))))))))))))))) else some (0, mm169))))) else zoS (sh o) 1 (fun le199 => zoL (mI mm o 11 1) (fun mm200 => zoS (sh o) 1 (fun le202 => (if (mm200.1 o 11) = 0 then zoS (sh o) 1 (fun le205 => Option.bind (mm200.2.2 o 8) (fun a206 => zoS (sh o) 1 (fun le208 => Option.bind (mm200.2.2 o 4) (fun a209 => zoS (sh a206) 13 (fun le211 => zoL (mR mm200 a206 5 (some a209)) (fun mm212 => zoS (sh o) 1 (fun le214 => Option.bind (mm212.2.2 o 8) (fun a215 => zoS (sh a215) 13 (fun le217 => Option.bind (F_MPainter_toWorld sh mm212 a215 x0_) (fun p218 => zoS (sh o) 1 (fun le220 => Option.bind (p218.2.2 o 8) (fun a221 => zoS (sh a221) 13 (fun le223 => Option.bind (p218.2.2 a221 14) (fun a224 => zoL ((4 * x1_) + x2_) (fun i225 => zoS (sh a224) 102 (fun le227 => if (i225 : Int32) < 0 ∨ le227 ≤ (i225 : Int32).toNatClampNeg then none else some ((((p218.2.1 a224 (i225 : Int32).toNatClampNeg) : Int64).toInt32), p218))))))))))))))))) else some (0, mm200))))))))))))))
set_option maxHeartbeats 4000000 in
set_option maxRecDepth 100000 in
theorem k_MD_world (l : Launch) (D : va_G) (tA : Nat → ClassId) (b : Nat) (sh : zSh) (n : Nat) {mm : zMem} {o : Nat} {x0_ : Int32} {x1_ : Int32} {x2_ : Int32} {r : (Int32 × zMem)} (h : F_MD_world sh mm o x0_ x1_ x2_ = some r) : zM l D tA b zy_MD_world zb_MD_world 4 (some .int) 9 212 0 0 [.ref (b + o), .int x0_, .int x1_, .int x2_] (zW tA b sh mm) n (zE (some (.int (r.1))) (zW tA b sh r.2) n) := by
  unfold F_MD_world at h
  refine zM_of (own := "OrreryBoxModel") (plainFor_of_name (by decide)) rfl (Nat.le_of_ble_eq_true rfl) (fun p e s m below meth c F hr hin hH => ?_)
  refine zr_aload_n F zd_MD_world_0 rfl ?_
  refine zr_iload_n F zd_MD_world_1 rfl ?_
  refine zr_if_lt F 34 zd_MD_world_2 (by decide) (fun hb1 => ?_) (fun hb1 => ?_)
  ·
    rw [if_pos hb1] at h
    refine zr_iconstv (v := 1) F zd_MD_world_34 (by decide) ?_
    refine zr_goto F 39 zd_MD_world_35 (by decide) ?_
    obtain ⟨le3, hs2, h⟩ := zoS_s h
    refine zr_put F 1 11 zd_MD_world_39 (zW_o hs2 (by decide)) rfl (by decide) zw_1691 rfl rfl rfl rfl (by exact (Nat.le_of_ble_eq_true rfl)) ?_
    obtain ⟨mm4, emm4, h⟩ := zoL_s h
    refine zr_norm (zW tA b sh mm4) _ (by rw [emm4]; exact zW_pI (v := 1) hs2 (by decide) (zf_I_1_11 b _ _ _)) rfl ?_
    refine zr_aload_n F zd_MD_world_42 rfl ?_
    refine zr_pcn 43 rfl ?_
    obtain ⟨le6, hs5, h⟩ := zoS_s h
    refine zr_get F 1 11 zd_MD_world_43 (zW_o hs5 (by decide)) rfl (by decide) zw_1691 rfl (by rfl) ?_
    refine zr_if_eq F 51 zd_MD_world_46 (by decide) (fun hb7 => ?_) (fun hb7 => ?_)
    ·
      rw [if_pos hb7] at h
      refine zr_aload_n F zd_MD_world_51 rfl ?_
      obtain ⟨le9, hs8, h⟩ := zoS_s h
      obtain ⟨a10, ea10, h⟩ := zoB_s h
      refine zr_get F 1 8 zd_MD_world_52 (zW_o hs8 (by decide)) rfl (by decide) zw_1688 rfl (by rfl) ?_
      refine zr_tor ea10 ?_
      refine zr_aload_n F zd_MD_world_55 rfl ?_
      obtain ⟨le12, hs11, h⟩ := zoS_s h
      obtain ⟨a13, ea13, h⟩ := zoB_s h
      refine zr_get F 1 4 zd_MD_world_56 (zW_o hs11 (by decide)) rfl (by decide) zw_1684 rfl (by rfl) ?_
      refine zr_tor ea13 ?_
      obtain ⟨le15, hs14, h⟩ := zoS_s h
      refine zr_put F 13 5 zd_MD_world_59 (zW_o hs14 (by decide)) rfl (by decide) zw_1582 rfl rfl rfl rfl (by exact (Nat.le_of_ble_eq_true rfl)) ?_
      obtain ⟨mm16, emm16, h⟩ := zoL_s h
      refine zr_norm (zW tA b sh mm16) _ (by rw [emm16]; exact zW_pR (v := (some a13)) hs14 (by decide) (zf_R_13_5 b _ _ _)) rfl ?_
      refine zr_aload_n F zd_MD_world_62 rfl ?_
      refine zr_pcn 63 rfl ?_
      obtain ⟨le18, hs17, h⟩ := zoS_s h
      obtain ⟨a19, ea19, h⟩ := zoB_s h
      refine zr_get F 1 8 zd_MD_world_63 (zW_o hs17 (by decide)) rfl (by decide) zw_1688 rfl (by rfl) ?_
      refine zr_tor ea19 ?_
      refine zr_iload_n F zd_MD_world_66 rfl ?_
      obtain ⟨le21, hs20, h⟩ := zoS_s h
      obtain ⟨p22, ep22, h⟩ := zoB_s h
      refine zr_callV0 F (k_MPainter_toWorld l D tA b sh _ ep22) zd_MD_world_67 (zW_o hs20 (by decide)) rfl zs_MD_171 rfl zq_MPainter_toWorld rfl rfl ⟨(Nat.le_of_ble_eq_true rfl), (Nat.le_of_ble_eq_true rfl)⟩ (Nat.le_of_ble_eq_true rfl) ⟨(Nat.le_of_ble_eq_true rfl), (Nat.le_of_ble_eq_true rfl)⟩ ?_
      refine zr_aload_n F zd_MD_world_70 rfl ?_
      obtain ⟨le24, hs23, h⟩ := zoS_s h
      obtain ⟨a25, ea25, h⟩ := zoB_s h
      refine zr_get F 1 8 zd_MD_world_71 (zW_o hs23 (by decide)) rfl (by decide) zw_1688 rfl (by rfl) ?_
      refine zr_tor ea25 ?_
      obtain ⟨le27, hs26, h⟩ := zoS_s h
      obtain ⟨a28, ea28, h⟩ := zoB_s h
      refine zr_get F 13 14 zd_MD_world_74 (zW_o hs26 (by decide)) rfl (by decide) zw_1594 rfl (by rfl) ?_
      refine zr_tor ea28 ?_
      refine zr_iconstv (v := 4) F zd_MD_world_77 (by decide) ?_
      refine zr_iload_n F zd_MD_world_78 rfl ?_
      refine zr_pcn 79 rfl ?_
      refine zr_imul F zd_MD_world_79 ?_
      refine zr_iload_n F zd_MD_world_80 rfl ?_
      refine zr_iadd F zd_MD_world_81 ?_
      obtain ⟨i29, ei29, h⟩ := zoL_s h
      rw [← ei29]
      obtain ⟨le31, hs30, h⟩ := zoS_s h
      obtain ⟨hi32, h⟩ := zoI_s h
      refine zr_lald F zd_MD_world_82 (zW_a2 hs30) hi32 ?_
      refine zr_l2i F zd_MD_world_83 ?_
      obtain rfl := Option.some.inj h
      exact zr_iret F hr zd_MD_world_84 (Nat.le_of_ble_eq_true rfl) (Nat.le_of_ble_eq_true rfl) ⟨rfl, rfl, rfl⟩
    ·
      rw [if_neg hb7] at h
      refine zr_iconstv (v := 0) F zd_MD_world_49 (by decide) ?_
      obtain rfl := Option.some.inj h
      exact zr_iret F hr zd_MD_world_50 (Nat.le_of_ble_eq_true rfl) (Nat.le_of_ble_eq_true rfl) ⟨rfl, rfl, rfl⟩
  ·
    rw [if_neg hb1] at h
    refine zr_pcn 5 rfl ?_
    refine zr_iload_n F zd_MD_world_5 rfl ?_
    refine zr_aload_n F zd_MD_world_6 rfl ?_
    obtain ⟨le34, hs33, h⟩ := zoS_s h
    obtain ⟨a35, ea35, h⟩ := zoB_s h
    refine zr_get F 1 4 zd_MD_world_7 (zW_o hs33 (by decide)) rfl (by decide) zw_1684 rfl (by rfl) ?_
    refine zr_tor ea35 ?_
    obtain ⟨le37, hs36, h⟩ := zoS_s h
    refine zr_get F 15 3 zd_MD_world_10 (zW_o hs36 (by decide)) rfl (by decide) zw_1325 rfl (by rfl) ?_
    refine zr_icmp_ge F 34 zd_MD_world_13 (by decide) (fun hb38 => ?_) (fun hb38 => ?_)
    ·
      rw [if_pos hb38] at h
      refine zr_iconstv (v := 1) F zd_MD_world_34 (by decide) ?_
      refine zr_goto F 39 zd_MD_world_35 (by decide) ?_
      obtain ⟨le40, hs39, h⟩ := zoS_s h
      refine zr_put F 1 11 zd_MD_world_39 (zW_o hs39 (by decide)) rfl (by decide) zw_1691 rfl rfl rfl rfl (by exact (Nat.le_of_ble_eq_true rfl)) ?_
      obtain ⟨mm41, emm41, h⟩ := zoL_s h
      refine zr_norm (zW tA b sh mm41) _ (by rw [emm41]; exact zW_pI (v := 1) hs39 (by decide) (zf_I_1_11 b _ _ _)) rfl ?_
      refine zr_pcn 42 rfl ?_
      refine zr_aload_n F zd_MD_world_42 rfl ?_
      obtain ⟨le43, hs42, h⟩ := zoS_s h
      refine zr_get F 1 11 zd_MD_world_43 (zW_o hs42 (by decide)) rfl (by decide) zw_1691 rfl (by rfl) ?_
      refine zr_if_eq F 51 zd_MD_world_46 (by decide) (fun hb44 => ?_) (fun hb44 => ?_)
      ·
        rw [if_pos hb44] at h
        refine zr_aload_n F zd_MD_world_51 rfl ?_
        obtain ⟨le46, hs45, h⟩ := zoS_s h
        obtain ⟨a47, ea47, h⟩ := zoB_s h
        refine zr_get F 1 8 zd_MD_world_52 (zW_o hs45 (by decide)) rfl (by decide) zw_1688 rfl (by rfl) ?_
        refine zr_tor ea47 ?_
        refine zr_aload_n F zd_MD_world_55 rfl ?_
        obtain ⟨le49, hs48, h⟩ := zoS_s h
        obtain ⟨a50, ea50, h⟩ := zoB_s h
        refine zr_get F 1 4 zd_MD_world_56 (zW_o hs48 (by decide)) rfl (by decide) zw_1684 rfl (by rfl) ?_
        refine zr_tor ea50 ?_
        obtain ⟨le52, hs51, h⟩ := zoS_s h
        refine zr_put F 13 5 zd_MD_world_59 (zW_o hs51 (by decide)) rfl (by decide) zw_1582 rfl rfl rfl rfl (by exact (Nat.le_of_ble_eq_true rfl)) ?_
        obtain ⟨mm53, emm53, h⟩ := zoL_s h
        refine zr_norm (zW tA b sh mm53) _ (by rw [emm53]; exact zW_pR (v := (some a50)) hs51 (by decide) (zf_R_13_5 b _ _ _)) rfl ?_
        refine zr_pcn 62 rfl ?_
        refine zr_aload_n F zd_MD_world_62 rfl ?_
        obtain ⟨le55, hs54, h⟩ := zoS_s h
        obtain ⟨a56, ea56, h⟩ := zoB_s h
        refine zr_get F 1 8 zd_MD_world_63 (zW_o hs54 (by decide)) rfl (by decide) zw_1688 rfl (by rfl) ?_
        refine zr_tor ea56 ?_
        refine zr_iload_n F zd_MD_world_66 rfl ?_
        obtain ⟨le58, hs57, h⟩ := zoS_s h
        obtain ⟨p59, ep59, h⟩ := zoB_s h
        refine zr_callV0 F (k_MPainter_toWorld l D tA b sh _ ep59) zd_MD_world_67 (zW_o hs57 (by decide)) rfl zs_MD_171 rfl zq_MPainter_toWorld rfl rfl ⟨(Nat.le_of_ble_eq_true rfl), (Nat.le_of_ble_eq_true rfl)⟩ (Nat.le_of_ble_eq_true rfl) ⟨(Nat.le_of_ble_eq_true rfl), (Nat.le_of_ble_eq_true rfl)⟩ ?_
        refine zr_aload_n F zd_MD_world_70 rfl ?_
        obtain ⟨le61, hs60, h⟩ := zoS_s h
        obtain ⟨a62, ea62, h⟩ := zoB_s h
        refine zr_get F 1 8 zd_MD_world_71 (zW_o hs60 (by decide)) rfl (by decide) zw_1688 rfl (by rfl) ?_
        refine zr_tor ea62 ?_
        obtain ⟨le64, hs63, h⟩ := zoS_s h
        obtain ⟨a65, ea65, h⟩ := zoB_s h
        refine zr_get F 13 14 zd_MD_world_74 (zW_o hs63 (by decide)) rfl (by decide) zw_1594 rfl (by rfl) ?_
        refine zr_tor ea65 ?_
        refine zr_iconstv (v := 4) F zd_MD_world_77 (by decide) ?_
        refine zr_pcn 78 rfl ?_
        refine zr_iload_n F zd_MD_world_78 rfl ?_
        refine zr_imul F zd_MD_world_79 ?_
        refine zr_iload_n F zd_MD_world_80 rfl ?_
        refine zr_iadd F zd_MD_world_81 ?_
        obtain ⟨i66, ei66, h⟩ := zoL_s h
        rw [← ei66]
        obtain ⟨le68, hs67, h⟩ := zoS_s h
        obtain ⟨hi69, h⟩ := zoI_s h
        refine zr_lald F zd_MD_world_82 (zW_a2 hs67) hi69 ?_
        refine zr_l2i F zd_MD_world_83 ?_
        obtain rfl := Option.some.inj h
        exact zr_iret F hr zd_MD_world_84 (Nat.le_of_ble_eq_true rfl) (Nat.le_of_ble_eq_true rfl) ⟨rfl, rfl, rfl⟩
      ·
        rw [if_neg hb44] at h
        refine zr_iconstv (v := 0) F zd_MD_world_49 (by decide) ?_
        refine zr_pcn 50 rfl ?_
        obtain rfl := Option.some.inj h
        exact zr_iret F hr zd_MD_world_50 (Nat.le_of_ble_eq_true rfl) (Nat.le_of_ble_eq_true rfl) ⟨rfl, rfl, rfl⟩
    ·
      rw [if_neg hb38] at h
      refine zr_iload_n F zd_MD_world_16 rfl ?_
      refine zr_if_lt F 34 zd_MD_world_17 (by decide) (fun hb70 => ?_) (fun hb70 => ?_)
      ·
        rw [if_pos hb70] at h
        refine zr_iconstv (v := 1) F zd_MD_world_34 (by decide) ?_
        refine zr_goto F 39 zd_MD_world_35 (by decide) ?_
        obtain ⟨le72, hs71, h⟩ := zoS_s h
        refine zr_put F 1 11 zd_MD_world_39 (zW_o hs71 (by decide)) rfl (by decide) zw_1691 rfl rfl rfl rfl (by exact (Nat.le_of_ble_eq_true rfl)) ?_
        obtain ⟨mm73, emm73, h⟩ := zoL_s h
        refine zr_norm (zW tA b sh mm73) _ (by rw [emm73]; exact zW_pI (v := 1) hs71 (by decide) (zf_I_1_11 b _ _ _)) rfl ?_
        refine zr_aload_n F zd_MD_world_42 rfl ?_
        obtain ⟨le75, hs74, h⟩ := zoS_s h
        refine zr_get F 1 11 zd_MD_world_43 (zW_o hs74 (by decide)) rfl (by decide) zw_1691 rfl (by rfl) ?_
        refine zr_pcn 46 rfl ?_
        refine zr_if_eq F 51 zd_MD_world_46 (by decide) (fun hb76 => ?_) (fun hb76 => ?_)
        ·
          rw [if_pos hb76] at h
          refine zr_aload_n F zd_MD_world_51 rfl ?_
          obtain ⟨le78, hs77, h⟩ := zoS_s h
          obtain ⟨a79, ea79, h⟩ := zoB_s h
          refine zr_get F 1 8 zd_MD_world_52 (zW_o hs77 (by decide)) rfl (by decide) zw_1688 rfl (by rfl) ?_
          refine zr_tor ea79 ?_
          refine zr_aload_n F zd_MD_world_55 rfl ?_
          obtain ⟨le81, hs80, h⟩ := zoS_s h
          obtain ⟨a82, ea82, h⟩ := zoB_s h
          refine zr_get F 1 4 zd_MD_world_56 (zW_o hs80 (by decide)) rfl (by decide) zw_1684 rfl (by rfl) ?_
          refine zr_tor ea82 ?_
          obtain ⟨le84, hs83, h⟩ := zoS_s h
          refine zr_put F 13 5 zd_MD_world_59 (zW_o hs83 (by decide)) rfl (by decide) zw_1582 rfl rfl rfl rfl (by exact (Nat.le_of_ble_eq_true rfl)) ?_
          obtain ⟨mm85, emm85, h⟩ := zoL_s h
          refine zr_norm (zW tA b sh mm85) _ (by rw [emm85]; exact zW_pR (v := (some a82)) hs83 (by decide) (zf_R_13_5 b _ _ _)) rfl ?_
          refine zr_aload_n F zd_MD_world_62 rfl ?_
          obtain ⟨le87, hs86, h⟩ := zoS_s h
          obtain ⟨a88, ea88, h⟩ := zoB_s h
          refine zr_get F 1 8 zd_MD_world_63 (zW_o hs86 (by decide)) rfl (by decide) zw_1688 rfl (by rfl) ?_
          refine zr_tor ea88 ?_
          refine zr_pcn 66 rfl ?_
          refine zr_iload_n F zd_MD_world_66 rfl ?_
          obtain ⟨le90, hs89, h⟩ := zoS_s h
          obtain ⟨p91, ep91, h⟩ := zoB_s h
          refine zr_callV0 F (k_MPainter_toWorld l D tA b sh _ ep91) zd_MD_world_67 (zW_o hs89 (by decide)) rfl zs_MD_171 rfl zq_MPainter_toWorld rfl rfl ⟨(Nat.le_of_ble_eq_true rfl), (Nat.le_of_ble_eq_true rfl)⟩ (Nat.le_of_ble_eq_true rfl) ⟨(Nat.le_of_ble_eq_true rfl), (Nat.le_of_ble_eq_true rfl)⟩ ?_
          refine zr_aload_n F zd_MD_world_70 rfl ?_
          obtain ⟨le93, hs92, h⟩ := zoS_s h
          obtain ⟨a94, ea94, h⟩ := zoB_s h
          refine zr_get F 1 8 zd_MD_world_71 (zW_o hs92 (by decide)) rfl (by decide) zw_1688 rfl (by rfl) ?_
          refine zr_tor ea94 ?_
          obtain ⟨le96, hs95, h⟩ := zoS_s h
          obtain ⟨a97, ea97, h⟩ := zoB_s h
          refine zr_get F 13 14 zd_MD_world_74 (zW_o hs95 (by decide)) rfl (by decide) zw_1594 rfl (by rfl) ?_
          refine zr_tor ea97 ?_
          refine zr_iconstv (v := 4) F zd_MD_world_77 (by decide) ?_
          refine zr_iload_n F zd_MD_world_78 rfl ?_
          refine zr_imul F zd_MD_world_79 ?_
          refine zr_pcn 80 rfl ?_
          refine zr_iload_n F zd_MD_world_80 rfl ?_
          refine zr_iadd F zd_MD_world_81 ?_
          obtain ⟨i98, ei98, h⟩ := zoL_s h
          rw [← ei98]
          obtain ⟨le100, hs99, h⟩ := zoS_s h
          obtain ⟨hi101, h⟩ := zoI_s h
          refine zr_lald F zd_MD_world_82 (zW_a2 hs99) hi101 ?_
          refine zr_l2i F zd_MD_world_83 ?_
          obtain rfl := Option.some.inj h
          exact zr_iret F hr zd_MD_world_84 (Nat.le_of_ble_eq_true rfl) (Nat.le_of_ble_eq_true rfl) ⟨rfl, rfl, rfl⟩
        ·
          rw [if_neg hb76] at h
          refine zr_iconstv (v := 0) F zd_MD_world_49 (by decide) ?_
          obtain rfl := Option.some.inj h
          exact zr_iret F hr zd_MD_world_50 (Nat.le_of_ble_eq_true rfl) (Nat.le_of_ble_eq_true rfl) ⟨rfl, rfl, rfl⟩
      ·
        rw [if_neg hb70] at h
        refine zr_iload_n F zd_MD_world_20 rfl ?_
        refine zr_pcn 21 rfl ?_
        refine zr_iconstv (v := 2) F zd_MD_world_21 (by decide) ?_
        refine zr_icmp_gt F 34 zd_MD_world_22 (by decide) (fun hb102 => ?_) (fun hb102 => ?_)
        ·
          rw [if_pos hb102] at h
          refine zr_iconstv (v := 1) F zd_MD_world_34 (by decide) ?_
          refine zr_goto F 39 zd_MD_world_35 (by decide) ?_
          obtain ⟨le104, hs103, h⟩ := zoS_s h
          refine zr_put F 1 11 zd_MD_world_39 (zW_o hs103 (by decide)) rfl (by decide) zw_1691 rfl rfl rfl rfl (by exact (Nat.le_of_ble_eq_true rfl)) ?_
          obtain ⟨mm105, emm105, h⟩ := zoL_s h
          refine zr_norm (zW tA b sh mm105) _ (by rw [emm105]; exact zW_pI (v := 1) hs103 (by decide) (zf_I_1_11 b _ _ _)) rfl ?_
          refine zr_aload_n F zd_MD_world_42 rfl ?_
          obtain ⟨le107, hs106, h⟩ := zoS_s h
          refine zr_get F 1 11 zd_MD_world_43 (zW_o hs106 (by decide)) rfl (by decide) zw_1691 rfl (by rfl) ?_
          refine zr_if_eq F 51 zd_MD_world_46 (by decide) (fun hb108 => ?_) (fun hb108 => ?_)
          ·
            rw [if_pos hb108] at h
            refine zr_pcn 51 rfl ?_
            refine zr_aload_n F zd_MD_world_51 rfl ?_
            obtain ⟨le110, hs109, h⟩ := zoS_s h
            obtain ⟨a111, ea111, h⟩ := zoB_s h
            refine zr_get F 1 8 zd_MD_world_52 (zW_o hs109 (by decide)) rfl (by decide) zw_1688 rfl (by rfl) ?_
            refine zr_tor ea111 ?_
            refine zr_aload_n F zd_MD_world_55 rfl ?_
            obtain ⟨le113, hs112, h⟩ := zoS_s h
            obtain ⟨a114, ea114, h⟩ := zoB_s h
            refine zr_get F 1 4 zd_MD_world_56 (zW_o hs112 (by decide)) rfl (by decide) zw_1684 rfl (by rfl) ?_
            refine zr_tor ea114 ?_
            obtain ⟨le116, hs115, h⟩ := zoS_s h
            refine zr_put F 13 5 zd_MD_world_59 (zW_o hs115 (by decide)) rfl (by decide) zw_1582 rfl rfl rfl rfl (by exact (Nat.le_of_ble_eq_true rfl)) ?_
            obtain ⟨mm117, emm117, h⟩ := zoL_s h
            refine zr_norm (zW tA b sh mm117) _ (by rw [emm117]; exact zW_pR (v := (some a114)) hs115 (by decide) (zf_R_13_5 b _ _ _)) rfl ?_
            refine zr_aload_n F zd_MD_world_62 rfl ?_
            obtain ⟨le119, hs118, h⟩ := zoS_s h
            obtain ⟨a120, ea120, h⟩ := zoB_s h
            refine zr_get F 1 8 zd_MD_world_63 (zW_o hs118 (by decide)) rfl (by decide) zw_1688 rfl (by rfl) ?_
            refine zr_tor ea120 ?_
            refine zr_iload_n F zd_MD_world_66 rfl ?_
            refine zr_pcn 67 rfl ?_
            obtain ⟨le122, hs121, h⟩ := zoS_s h
            obtain ⟨p123, ep123, h⟩ := zoB_s h
            refine zr_callV0 F (k_MPainter_toWorld l D tA b sh _ ep123) zd_MD_world_67 (zW_o hs121 (by decide)) rfl zs_MD_171 rfl zq_MPainter_toWorld rfl rfl ⟨(Nat.le_of_ble_eq_true rfl), (Nat.le_of_ble_eq_true rfl)⟩ (Nat.le_of_ble_eq_true rfl) ⟨(Nat.le_of_ble_eq_true rfl), (Nat.le_of_ble_eq_true rfl)⟩ ?_
            refine zr_aload_n F zd_MD_world_70 rfl ?_
            obtain ⟨le125, hs124, h⟩ := zoS_s h
            obtain ⟨a126, ea126, h⟩ := zoB_s h
            refine zr_get F 1 8 zd_MD_world_71 (zW_o hs124 (by decide)) rfl (by decide) zw_1688 rfl (by rfl) ?_
            refine zr_tor ea126 ?_
            obtain ⟨le128, hs127, h⟩ := zoS_s h
            obtain ⟨a129, ea129, h⟩ := zoB_s h
            refine zr_get F 13 14 zd_MD_world_74 (zW_o hs127 (by decide)) rfl (by decide) zw_1594 rfl (by rfl) ?_
            refine zr_tor ea129 ?_
            refine zr_iconstv (v := 4) F zd_MD_world_77 (by decide) ?_
            refine zr_iload_n F zd_MD_world_78 rfl ?_
            refine zr_imul F zd_MD_world_79 ?_
            refine zr_iload_n F zd_MD_world_80 rfl ?_
            refine zr_pcn 81 rfl ?_
            refine zr_iadd F zd_MD_world_81 ?_
            obtain ⟨i130, ei130, h⟩ := zoL_s h
            rw [← ei130]
            obtain ⟨le132, hs131, h⟩ := zoS_s h
            obtain ⟨hi133, h⟩ := zoI_s h
            refine zr_lald F zd_MD_world_82 (zW_a2 hs131) hi133 ?_
            refine zr_l2i F zd_MD_world_83 ?_
            obtain rfl := Option.some.inj h
            exact zr_iret F hr zd_MD_world_84 (Nat.le_of_ble_eq_true rfl) (Nat.le_of_ble_eq_true rfl) ⟨rfl, rfl, rfl⟩
          ·
            rw [if_neg hb108] at h
            refine zr_iconstv (v := 0) F zd_MD_world_49 (by decide) ?_
            obtain rfl := Option.some.inj h
            exact zr_iret F hr zd_MD_world_50 (Nat.le_of_ble_eq_true rfl) (Nat.le_of_ble_eq_true rfl) ⟨rfl, rfl, rfl⟩
        ·
          rw [if_neg hb102] at h
          refine zr_iload_n F zd_MD_world_25 rfl ?_
          refine zr_if_lt F 34 zd_MD_world_26 (by decide) (fun hb134 => ?_) (fun hb134 => ?_)
          ·
            rw [if_pos hb134] at h
            refine zr_pcn 34 rfl ?_
            refine zr_iconstv (v := 1) F zd_MD_world_34 (by decide) ?_
            refine zr_goto F 39 zd_MD_world_35 (by decide) ?_
            obtain ⟨le136, hs135, h⟩ := zoS_s h
            refine zr_put F 1 11 zd_MD_world_39 (zW_o hs135 (by decide)) rfl (by decide) zw_1691 rfl rfl rfl rfl (by exact (Nat.le_of_ble_eq_true rfl)) ?_
            obtain ⟨mm137, emm137, h⟩ := zoL_s h
            refine zr_norm (zW tA b sh mm137) _ (by rw [emm137]; exact zW_pI (v := 1) hs135 (by decide) (zf_I_1_11 b _ _ _)) rfl ?_
            refine zr_aload_n F zd_MD_world_42 rfl ?_
            obtain ⟨le139, hs138, h⟩ := zoS_s h
            refine zr_get F 1 11 zd_MD_world_43 (zW_o hs138 (by decide)) rfl (by decide) zw_1691 rfl (by rfl) ?_
            refine zr_if_eq F 51 zd_MD_world_46 (by decide) (fun hb140 => ?_) (fun hb140 => ?_)
            ·
              rw [if_pos hb140] at h
              refine zr_aload_n F zd_MD_world_51 rfl ?_
              obtain ⟨le142, hs141, h⟩ := zoS_s h
              obtain ⟨a143, ea143, h⟩ := zoB_s h
              refine zr_get F 1 8 zd_MD_world_52 (zW_o hs141 (by decide)) rfl (by decide) zw_1688 rfl (by rfl) ?_
              refine zr_tor ea143 ?_
              refine zr_pcn 55 rfl ?_
              refine zr_aload_n F zd_MD_world_55 rfl ?_
              obtain ⟨le145, hs144, h⟩ := zoS_s h
              obtain ⟨a146, ea146, h⟩ := zoB_s h
              refine zr_get F 1 4 zd_MD_world_56 (zW_o hs144 (by decide)) rfl (by decide) zw_1684 rfl (by rfl) ?_
              refine zr_tor ea146 ?_
              obtain ⟨le148, hs147, h⟩ := zoS_s h
              refine zr_put F 13 5 zd_MD_world_59 (zW_o hs147 (by decide)) rfl (by decide) zw_1582 rfl rfl rfl rfl (by exact (Nat.le_of_ble_eq_true rfl)) ?_
              obtain ⟨mm149, emm149, h⟩ := zoL_s h
              refine zr_norm (zW tA b sh mm149) _ (by rw [emm149]; exact zW_pR (v := (some a146)) hs147 (by decide) (zf_R_13_5 b _ _ _)) rfl ?_
              refine zr_aload_n F zd_MD_world_62 rfl ?_
              obtain ⟨le151, hs150, h⟩ := zoS_s h
              obtain ⟨a152, ea152, h⟩ := zoB_s h
              refine zr_get F 1 8 zd_MD_world_63 (zW_o hs150 (by decide)) rfl (by decide) zw_1688 rfl (by rfl) ?_
              refine zr_tor ea152 ?_
              refine zr_iload_n F zd_MD_world_66 rfl ?_
              obtain ⟨le154, hs153, h⟩ := zoS_s h
              obtain ⟨p155, ep155, h⟩ := zoB_s h
              refine zr_callV0 F (k_MPainter_toWorld l D tA b sh _ ep155) zd_MD_world_67 (zW_o hs153 (by decide)) rfl zs_MD_171 rfl zq_MPainter_toWorld rfl rfl ⟨(Nat.le_of_ble_eq_true rfl), (Nat.le_of_ble_eq_true rfl)⟩ (Nat.le_of_ble_eq_true rfl) ⟨(Nat.le_of_ble_eq_true rfl), (Nat.le_of_ble_eq_true rfl)⟩ ?_
              refine zr_aload_n F zd_MD_world_70 rfl ?_
              refine zr_pcn 71 rfl ?_
              obtain ⟨le157, hs156, h⟩ := zoS_s h
              obtain ⟨a158, ea158, h⟩ := zoB_s h
              refine zr_get F 1 8 zd_MD_world_71 (zW_o hs156 (by decide)) rfl (by decide) zw_1688 rfl (by rfl) ?_
              refine zr_tor ea158 ?_
              obtain ⟨le160, hs159, h⟩ := zoS_s h
              obtain ⟨a161, ea161, h⟩ := zoB_s h
              refine zr_get F 13 14 zd_MD_world_74 (zW_o hs159 (by decide)) rfl (by decide) zw_1594 rfl (by rfl) ?_
              refine zr_tor ea161 ?_
              refine zr_iconstv (v := 4) F zd_MD_world_77 (by decide) ?_
              refine zr_iload_n F zd_MD_world_78 rfl ?_
              refine zr_imul F zd_MD_world_79 ?_
              refine zr_iload_n F zd_MD_world_80 rfl ?_
              refine zr_iadd F zd_MD_world_81 ?_
              obtain ⟨i162, ei162, h⟩ := zoL_s h
              rw [← ei162]
              obtain ⟨le164, hs163, h⟩ := zoS_s h
              obtain ⟨hi165, h⟩ := zoI_s h
              refine zr_lald F zd_MD_world_82 (zW_a2 hs163) hi165 ?_
              refine zr_pcn 83 rfl ?_
              refine zr_l2i F zd_MD_world_83 ?_
              obtain rfl := Option.some.inj h
              exact zr_iret F hr zd_MD_world_84 (Nat.le_of_ble_eq_true rfl) (Nat.le_of_ble_eq_true rfl) ⟨rfl, rfl, rfl⟩
            ·
              rw [if_neg hb140] at h
              refine zr_iconstv (v := 0) F zd_MD_world_49 (by decide) ?_
              obtain rfl := Option.some.inj h
              exact zr_iret F hr zd_MD_world_50 (Nat.le_of_ble_eq_true rfl) (Nat.le_of_ble_eq_true rfl) ⟨rfl, rfl, rfl⟩
          ·
            rw [if_neg hb134] at h
            refine zr_iload_n F zd_MD_world_29 rfl ?_
            refine zr_iconstv (v := 3) F zd_MD_world_30 (by decide) ?_
            refine zr_icmp_le F 38 zd_MD_world_31 (by decide) (fun hb166 => ?_) (fun hb166 => ?_)
            ·
              rw [if_pos hb166] at h
              refine zr_iconstv (v := 0) F zd_MD_world_38 (by decide) ?_
              refine zr_pcn 39 rfl ?_
              obtain ⟨le168, hs167, h⟩ := zoS_s h
              refine zr_put F 1 11 zd_MD_world_39 (zW_o hs167 (by decide)) rfl (by decide) zw_1691 rfl rfl rfl rfl (by exact (Nat.le_of_ble_eq_true rfl)) ?_
              obtain ⟨mm169, emm169, h⟩ := zoL_s h
              refine zr_norm (zW tA b sh mm169) _ (by rw [emm169]; exact zW_pI (v := 0) hs167 (by decide) (zf_I_1_11 b _ _ _)) rfl ?_
              refine zr_aload_n F zd_MD_world_42 rfl ?_
              obtain ⟨le171, hs170, h⟩ := zoS_s h
              refine zr_get F 1 11 zd_MD_world_43 (zW_o hs170 (by decide)) rfl (by decide) zw_1691 rfl (by rfl) ?_
              refine zr_if_eq F 51 zd_MD_world_46 (by decide) (fun hb172 => ?_) (fun hb172 => ?_)
              ·
                rw [if_pos hb172] at h
                refine zr_aload_n F zd_MD_world_51 rfl ?_
                obtain ⟨le174, hs173, h⟩ := zoS_s h
                obtain ⟨a175, ea175, h⟩ := zoB_s h
                refine zr_get F 1 8 zd_MD_world_52 (zW_o hs173 (by decide)) rfl (by decide) zw_1688 rfl (by rfl) ?_
                refine zr_tor ea175 ?_
                refine zr_aload_n F zd_MD_world_55 rfl ?_
                obtain ⟨le177, hs176, h⟩ := zoS_s h
                obtain ⟨a178, ea178, h⟩ := zoB_s h
                refine zr_get F 1 4 zd_MD_world_56 (zW_o hs176 (by decide)) rfl (by decide) zw_1684 rfl (by rfl) ?_
                refine zr_tor ea178 ?_
                refine zr_pcn 59 rfl ?_
                obtain ⟨le180, hs179, h⟩ := zoS_s h
                refine zr_put F 13 5 zd_MD_world_59 (zW_o hs179 (by decide)) rfl (by decide) zw_1582 rfl rfl rfl rfl (by exact (Nat.le_of_ble_eq_true rfl)) ?_
                obtain ⟨mm181, emm181, h⟩ := zoL_s h
                refine zr_norm (zW tA b sh mm181) _ (by rw [emm181]; exact zW_pR (v := (some a178)) hs179 (by decide) (zf_R_13_5 b _ _ _)) rfl ?_
                refine zr_aload_n F zd_MD_world_62 rfl ?_
                obtain ⟨le183, hs182, h⟩ := zoS_s h
                obtain ⟨a184, ea184, h⟩ := zoB_s h
                refine zr_get F 1 8 zd_MD_world_63 (zW_o hs182 (by decide)) rfl (by decide) zw_1688 rfl (by rfl) ?_
                refine zr_tor ea184 ?_
                refine zr_iload_n F zd_MD_world_66 rfl ?_
                obtain ⟨le186, hs185, h⟩ := zoS_s h
                obtain ⟨p187, ep187, h⟩ := zoB_s h
                refine zr_callV0 F (k_MPainter_toWorld l D tA b sh _ ep187) zd_MD_world_67 (zW_o hs185 (by decide)) rfl zs_MD_171 rfl zq_MPainter_toWorld rfl rfl ⟨(Nat.le_of_ble_eq_true rfl), (Nat.le_of_ble_eq_true rfl)⟩ (Nat.le_of_ble_eq_true rfl) ⟨(Nat.le_of_ble_eq_true rfl), (Nat.le_of_ble_eq_true rfl)⟩ ?_
                refine zr_aload_n F zd_MD_world_70 rfl ?_
                obtain ⟨le189, hs188, h⟩ := zoS_s h
                obtain ⟨a190, ea190, h⟩ := zoB_s h
                refine zr_get F 1 8 zd_MD_world_71 (zW_o hs188 (by decide)) rfl (by decide) zw_1688 rfl (by rfl) ?_
                refine zr_tor ea190 ?_
                obtain ⟨le192, hs191, h⟩ := zoS_s h
                obtain ⟨a193, ea193, h⟩ := zoB_s h
                refine zr_get F 13 14 zd_MD_world_74 (zW_o hs191 (by decide)) rfl (by decide) zw_1594 rfl (by rfl) ?_
                refine zr_tor ea193 ?_
                refine zr_pcn 77 rfl ?_
                refine zr_iconstv (v := 4) F zd_MD_world_77 (by decide) ?_
                refine zr_iload_n F zd_MD_world_78 rfl ?_
                refine zr_imul F zd_MD_world_79 ?_
                refine zr_iload_n F zd_MD_world_80 rfl ?_
                refine zr_iadd F zd_MD_world_81 ?_
                obtain ⟨i194, ei194, h⟩ := zoL_s h
                rw [← ei194]
                obtain ⟨le196, hs195, h⟩ := zoS_s h
                obtain ⟨hi197, h⟩ := zoI_s h
                refine zr_lald F zd_MD_world_82 (zW_a2 hs195) hi197 ?_
                refine zr_l2i F zd_MD_world_83 ?_
                obtain rfl := Option.some.inj h
                exact zr_iret F hr zd_MD_world_84 (Nat.le_of_ble_eq_true rfl) (Nat.le_of_ble_eq_true rfl) ⟨rfl, rfl, rfl⟩
              ·
                rw [if_neg hb172] at h
                refine zr_pcn 49 rfl ?_
                refine zr_iconstv (v := 0) F zd_MD_world_49 (by decide) ?_
                obtain rfl := Option.some.inj h
                exact zr_iret F hr zd_MD_world_50 (Nat.le_of_ble_eq_true rfl) (Nat.le_of_ble_eq_true rfl) ⟨rfl, rfl, rfl⟩
            ·
              rw [if_neg hb166] at h
              refine zr_iconstv (v := 1) F zd_MD_world_34 (by decide) ?_
              refine zr_goto F 39 zd_MD_world_35 (by decide) ?_
              obtain ⟨le199, hs198, h⟩ := zoS_s h
              refine zr_put F 1 11 zd_MD_world_39 (zW_o hs198 (by decide)) rfl (by decide) zw_1691 rfl rfl rfl rfl (by exact (Nat.le_of_ble_eq_true rfl)) ?_
              obtain ⟨mm200, emm200, h⟩ := zoL_s h
              refine zr_norm (zW tA b sh mm200) _ (by rw [emm200]; exact zW_pI (v := 1) hs198 (by decide) (zf_I_1_11 b _ _ _)) rfl ?_
              refine zr_aload_n F zd_MD_world_42 rfl ?_
              obtain ⟨le202, hs201, h⟩ := zoS_s h
              refine zr_get F 1 11 zd_MD_world_43 (zW_o hs201 (by decide)) rfl (by decide) zw_1691 rfl (by rfl) ?_
              refine zr_if_eq F 51 zd_MD_world_46 (by decide) (fun hb203 => ?_) (fun hb203 => ?_)
              ·
                rw [if_pos hb203] at h
                refine zr_pcn 51 rfl ?_
                refine zr_aload_n F zd_MD_world_51 rfl ?_
                obtain ⟨le205, hs204, h⟩ := zoS_s h
                obtain ⟨a206, ea206, h⟩ := zoB_s h
                refine zr_get F 1 8 zd_MD_world_52 (zW_o hs204 (by decide)) rfl (by decide) zw_1688 rfl (by rfl) ?_
                refine zr_tor ea206 ?_
                refine zr_aload_n F zd_MD_world_55 rfl ?_
                obtain ⟨le208, hs207, h⟩ := zoS_s h
                obtain ⟨a209, ea209, h⟩ := zoB_s h
                refine zr_get F 1 4 zd_MD_world_56 (zW_o hs207 (by decide)) rfl (by decide) zw_1684 rfl (by rfl) ?_
                refine zr_tor ea209 ?_
                obtain ⟨le211, hs210, h⟩ := zoS_s h
                refine zr_put F 13 5 zd_MD_world_59 (zW_o hs210 (by decide)) rfl (by decide) zw_1582 rfl rfl rfl rfl (by exact (Nat.le_of_ble_eq_true rfl)) ?_
                obtain ⟨mm212, emm212, h⟩ := zoL_s h
                refine zr_norm (zW tA b sh mm212) _ (by rw [emm212]; exact zW_pR (v := (some a209)) hs210 (by decide) (zf_R_13_5 b _ _ _)) rfl ?_
                refine zr_aload_n F zd_MD_world_62 rfl ?_
                obtain ⟨le214, hs213, h⟩ := zoS_s h
                obtain ⟨a215, ea215, h⟩ := zoB_s h
                refine zr_get F 1 8 zd_MD_world_63 (zW_o hs213 (by decide)) rfl (by decide) zw_1688 rfl (by rfl) ?_
                refine zr_tor ea215 ?_
                refine zr_iload_n F zd_MD_world_66 rfl ?_
                refine zr_pcn 67 rfl ?_
                obtain ⟨le217, hs216, h⟩ := zoS_s h
                obtain ⟨p218, ep218, h⟩ := zoB_s h
                refine zr_callV0 F (k_MPainter_toWorld l D tA b sh _ ep218) zd_MD_world_67 (zW_o hs216 (by decide)) rfl zs_MD_171 rfl zq_MPainter_toWorld rfl rfl ⟨(Nat.le_of_ble_eq_true rfl), (Nat.le_of_ble_eq_true rfl)⟩ (Nat.le_of_ble_eq_true rfl) ⟨(Nat.le_of_ble_eq_true rfl), (Nat.le_of_ble_eq_true rfl)⟩ ?_
                refine zr_aload_n F zd_MD_world_70 rfl ?_
                obtain ⟨le220, hs219, h⟩ := zoS_s h
                obtain ⟨a221, ea221, h⟩ := zoB_s h
                refine zr_get F 1 8 zd_MD_world_71 (zW_o hs219 (by decide)) rfl (by decide) zw_1688 rfl (by rfl) ?_
                refine zr_tor ea221 ?_
                obtain ⟨le223, hs222, h⟩ := zoS_s h
                obtain ⟨a224, ea224, h⟩ := zoB_s h
                refine zr_get F 13 14 zd_MD_world_74 (zW_o hs222 (by decide)) rfl (by decide) zw_1594 rfl (by rfl) ?_
                refine zr_tor ea224 ?_
                refine zr_iconstv (v := 4) F zd_MD_world_77 (by decide) ?_
                refine zr_iload_n F zd_MD_world_78 rfl ?_
                refine zr_imul F zd_MD_world_79 ?_
                refine zr_iload_n F zd_MD_world_80 rfl ?_
                refine zr_pcn 81 rfl ?_
                refine zr_iadd F zd_MD_world_81 ?_
                obtain ⟨i225, ei225, h⟩ := zoL_s h
                rw [← ei225]
                obtain ⟨le227, hs226, h⟩ := zoS_s h
                obtain ⟨hi228, h⟩ := zoI_s h
                refine zr_lald F zd_MD_world_82 (zW_a2 hs226) hi228 ?_
                refine zr_l2i F zd_MD_world_83 ?_
                obtain rfl := Option.some.inj h
                exact zr_iret F hr zd_MD_world_84 (Nat.le_of_ble_eq_true rfl) (Nat.le_of_ble_eq_true rfl) ⟨rfl, rfl, rfl⟩
              ·
                rw [if_neg hb203] at h
                refine zr_iconstv (v := 0) F zd_MD_world_49 (by decide) ?_
                obtain rfl := Option.some.inj h
                exact zr_iret F hr zd_MD_world_50 (Nat.le_of_ble_eq_true rfl) (Nat.le_of_ble_eq_true rfl) ⟨rfl, rfl, rfl⟩
theorem zf_I_1_15 (b : Nat) (m : zMem) (k : Nat) (v : Int32) : (zfl b 1 m k).set 15 (.int v) = zfl b 1 (mI m k 15 v) k := by simp [zfl, mI, upd, vp_updL]
def L_MD_begin_23 (sh : zSh) (fuel : Nat) (v0 : Nat) (v1 : Int32) (mm : zMem) : Option (Nat × Int32 × zMem) := match fuel with
  | 0 => none
  | fu + 1 => (if 36 ≤ v1 then some (v0, v1, mm) else zoS (sh v0) 1 (fun le18 => Option.bind (mm.2.2 v0 16) (fun a19 => zoS (sh a19) 103 (fun le21 => if (v1 : Int32) < 0 ∨ le21 ≤ (v1 : Int32).toNatClampNeg then none else zoL (mI mm a19 (v1 : Int32).toNatClampNeg (vp_nar .boolean 0)) (fun mm23 => L_MD_begin_23 sh fu v0 (v1 + 1) mm23)))))
set_option maxHeartbeats 4000000 in
set_option maxRecDepth 100000 in
theorem lp_MD_begin_23 {p : Program} {l : Launch} {e : Env} {s : State} {m : MethodId} {args : Array Value} {below : List Frame} {meth : Method} {c : Code} {D : va_G} {tA : Nat → ClassId} {b n : Nat} {post : Option Value → zV → Nat → Prop} {sh : zSh} (F : zF p s m args meth c zb_MD_begin 3 "OrreryBoxModel" D tA b) : ∀ (fuel : Nat) (v0 : Nat) (v1 : Int32) (mm : zMem) (r : Nat × Int32 × zMem), L_MD_begin_23 sh fuel v0 v1 mm = some r → (Z p l e { frames := 2, cells := 0, slots := 0, locals := 44 } s m args below meth c D b 3 (MQ below (zQ D b post) args s 0 0 (fun q => b ≤ q)) (zW tA b sh r.2.2) n 0 0 42 [(0, .ref (b + (r.1))), (1, .int (r.2.1))] []) → Z p l e { frames := 2, cells := 0, slots := 0, locals := 44 } s m args below meth c D b 3 (MQ below (zQ D b post) args s 0 0 (fun q => b ≤ q)) (zW tA b sh mm) n 0 0 23 [(0, .ref (b + v0)), (1, .int v1)] [] := by
  intro fuel
  induction fuel with
  | zero =>
    intro v0 v1 mm r h
    cases h
  | succ fu ih =>
    intro v0 v1 mm r h hx0
    rw [L_MD_begin_23] at h
    refine zr_iload_n F zd_MD_begin_23 rfl ?_
    refine zr_bipushv (v := 36) F zd_MD_begin_24 (by decide) ?_
    refine zr_pcn 26 rfl ?_
    refine zr_icmp_ge F 42 zd_MD_begin_26 (by decide) (fun hb16 => ?_) (fun hb16 => ?_)
    ·
      rw [if_pos hb16] at h
      obtain rfl := Option.some.inj h
      refine zr_loc (L' := [(0, .ref (b + v0)), (1, .int v1)]) ⟨rfl, rfl, trivial⟩ ?_
      exact hx0 
    ·
      rw [if_neg hb16] at h
      refine zr_aload_n F zd_MD_begin_29 rfl ?_
      obtain ⟨le18, hs17, h⟩ := zoS_s h
      obtain ⟨a19, ea19, h⟩ := zoB_s h
      refine zr_get F 1 16 zd_MD_begin_30 (zW_o hs17 (by decide)) rfl (by decide) zw_1696 rfl (by rfl) ?_
      refine zr_tor ea19 ?_
      refine zr_iload_n F zd_MD_begin_33 rfl ?_
      refine zr_iconstv (v := 0) F zd_MD_begin_34 (by decide) ?_
      obtain ⟨le21, hs20, h⟩ := zoS_s h
      obtain ⟨hi22, h⟩ := zoI_s h
      refine zr_zast F zd_MD_begin_35 (zW_a3 hs20) hi22 ?_
      obtain ⟨mm23, emm23, h⟩ := zoL_s h
      refine zr_norm (zW tA b sh mm23) _ (by rw [emm23]; exact zW_s3 hs20) rfl ?_
      refine zr_iinc (v := (v1 + 1)) F zd_MD_begin_36 rfl rfl (by decide) ?_
      refine zr_goto F 23 zd_MD_begin_39 (by decide) ?_
      refine zr_loc (L' := [(0, .ref (b + v0)), (1, .int (v1 + 1))]) ⟨rfl, rfl, trivial⟩ ?_
      exact ih _ _ _ _ h hx0
def L_MD_begin_66 (sh : zSh) (fuel : Nat) (v0 : Nat) (v1 : Int32) (v2 : Int32) (mm : zMem) : Option (Nat × Int32 × Int32 × zMem) := match fuel with
  | 0 => none
  | fu + 1 => (if 3 ≤ v2 then some (v0, v1, v2, mm) else zoS (sh v0) 1 (fun le39 => Option.bind (mm.2.2 v0 17) (fun a40 => zoS (sh v0) 1 (fun le42 => Option.bind (mm.2.2 v0 14) (fun a43 => zoS (sh a43) 100 (fun le45 => if (v2 : Int32) < 0 ∨ le45 ≤ (v2 : Int32).toNatClampNeg then none else zoL (mm.1 a43 (v2 : Int32).toNatClampNeg) (fun x47 => zoL ((3 * v1) + v2) (fun i48 => zoS (sh a40) 100 (fun le50 => if (i48 : Int32) < 0 ∨ le50 ≤ (i48 : Int32).toNatClampNeg then none else zoL (mI mm a40 (i48 : Int32).toNatClampNeg x47) (fun mm52 => L_MD_begin_66 sh fu v0 v1 (v2 + 1) mm52))))))))))
set_option maxHeartbeats 4000000 in
set_option maxRecDepth 100000 in
theorem lp_MD_begin_66 {p : Program} {l : Launch} {e : Env} {s : State} {m : MethodId} {args : Array Value} {below : List Frame} {meth : Method} {c : Code} {D : va_G} {tA : Nat → ClassId} {b n : Nat} {post : Option Value → zV → Nat → Prop} {sh : zSh} (F : zF p s m args meth c zb_MD_begin 3 "OrreryBoxModel" D tA b) : ∀ (fuel : Nat) (v0 : Nat) (v1 : Int32) (v2 : Int32) (mm : zMem) (r : Nat × Int32 × Int32 × zMem), L_MD_begin_66 sh fuel v0 v1 v2 mm = some r → (Z p l e { frames := 2, cells := 0, slots := 0, locals := 44 } s m args below meth c D b 3 (MQ below (zQ D b post) args s 0 0 (fun q => b ≤ q)) (zW tA b sh r.2.2.2) n 0 0 93 [(0, .ref (b + (r.1))), (1, .int (r.2.1)), (2, .int (r.2.2.1))] []) → Z p l e { frames := 2, cells := 0, slots := 0, locals := 44 } s m args below meth c D b 3 (MQ below (zQ D b post) args s 0 0 (fun q => b ≤ q)) (zW tA b sh mm) n 0 0 66 [(0, .ref (b + v0)), (1, .int v1), (2, .int v2)] [] := by
  intro fuel
  induction fuel with
  | zero =>
    intro v0 v1 v2 mm r h
    cases h
  | succ fu ih =>
    intro v0 v1 v2 mm r h hx0
    rw [L_MD_begin_66] at h
    refine zr_pcn 66 rfl ?_
    refine zr_iload_n F zd_MD_begin_66 rfl ?_
    refine zr_iconstv (v := 3) F zd_MD_begin_67 (by decide) ?_
    refine zr_icmp_ge F 93 zd_MD_begin_68 (by decide) (fun hb37 => ?_) (fun hb37 => ?_)
    ·
      rw [if_pos hb37] at h
      obtain rfl := Option.some.inj h
      refine zr_loc (L' := [(0, .ref (b + v0)), (1, .int v1), (2, .int v2)]) ⟨rfl, rfl, rfl, trivial⟩ ?_
      exact hx0 
    ·
      rw [if_neg hb37] at h
      refine zr_aload_n F zd_MD_begin_71 rfl ?_
      obtain ⟨le39, hs38, h⟩ := zoS_s h
      obtain ⟨a40, ea40, h⟩ := zoB_s h
      refine zr_get F 1 17 zd_MD_begin_72 (zW_o hs38 (by decide)) rfl (by decide) zw_1697 rfl (by rfl) ?_
      refine zr_tor ea40 ?_
      refine zr_iconstv (v := 3) F zd_MD_begin_75 (by decide) ?_
      refine zr_iload_n F zd_MD_begin_76 rfl ?_
      refine zr_imul F zd_MD_begin_77 ?_
      refine zr_pcn 78 rfl ?_
      refine zr_iload_n F zd_MD_begin_78 rfl ?_
      refine zr_iadd F zd_MD_begin_79 ?_
      refine zr_aload_n F zd_MD_begin_80 rfl ?_
      obtain ⟨le42, hs41, h⟩ := zoS_s h
      obtain ⟨a43, ea43, h⟩ := zoB_s h
      refine zr_get F 1 14 zd_MD_begin_81 (zW_o hs41 (by decide)) rfl (by decide) zw_1694 rfl (by rfl) ?_
      refine zr_tor ea43 ?_
      refine zr_iload_n F zd_MD_begin_84 rfl ?_
      obtain ⟨le45, hs44, h⟩ := zoS_s h
      obtain ⟨hi46, h⟩ := zoI_s h
      refine zr_iald F zd_MD_begin_85 (zW_a0 hs44) hi46 ?_
      obtain ⟨x47, ex47, h⟩ := zoL_s h
      rw [← ex47]
      obtain ⟨i48, ei48, h⟩ := zoL_s h
      rw [← ei48]
      obtain ⟨le50, hs49, h⟩ := zoS_s h
      obtain ⟨hi51, h⟩ := zoI_s h
      refine zr_iast F zd_MD_begin_86 (zW_a0 hs49) hi51 ?_
      obtain ⟨mm52, emm52, h⟩ := zoL_s h
      refine zr_norm (zW tA b sh mm52) _ (by rw [emm52]; exact zW_s0 hs49) rfl ?_
      refine zr_iinc (v := (v2 + 1)) F zd_MD_begin_87 rfl rfl (by decide) ?_
      refine zr_pcn 90 rfl ?_
      refine zr_goto F 66 zd_MD_begin_90 (by decide) ?_
      refine zr_loc (L' := [(0, .ref (b + v0)), (1, .int v1), (2, .int (v2 + 1))]) ⟨rfl, rfl, rfl, trivial⟩ ?_
      exact ih _ _ _ _ _ h hx0
def L_MD_begin_44 (sh : zSh) (fuel : Nat) (v0 : Nat) (v1 : Int32) (mm : zMem) : Option (Nat × Int32 × zMem) := match fuel with
  | 0 => none
  | fu + 1 => zoS (sh v0) 1 (fun le26 => zoS (sh v0) 1 (fun le28 => (if ((mm.1 v0 0) * (mm.1 v0 1)) ≤ v1 then some (v0, v1, mm) else zoS (sh v0) 1 (fun le31 => Option.bind (mm.2.2 v0 18) (fun a32 => zoS (sh a32) 102 (fun le34 => if (v1 : Int32) < 0 ∨ le34 ≤ (v1 : Int32).toNatClampNeg then none else zoL (mL mm a32 (v1 : Int32).toNatClampNeg 0) (fun mm36 => Option.bind (L_MD_begin_66 sh zfuel v0 v1 0 mm36) (fun q53 => L_MD_begin_44 sh fu (q53.1) (q53.2.1 + 1) (q53.2.2.2)))))))))
set_option maxHeartbeats 4000000 in
set_option maxRecDepth 100000 in
theorem lp_MD_begin_44 {p : Program} {l : Launch} {e : Env} {s : State} {m : MethodId} {args : Array Value} {below : List Frame} {meth : Method} {c : Code} {D : va_G} {tA : Nat → ClassId} {b n : Nat} {post : Option Value → zV → Nat → Prop} {sh : zSh} (F : zF p s m args meth c zb_MD_begin 3 "OrreryBoxModel" D tA b) : ∀ (fuel : Nat) (v0 : Nat) (v1 : Int32) (mm : zMem) (r : Nat × Int32 × zMem), L_MD_begin_44 sh fuel v0 v1 mm = some r → (Z p l e { frames := 2, cells := 0, slots := 0, locals := 44 } s m args below meth c D b 3 (MQ below (zQ D b post) args s 0 0 (fun q => b ≤ q)) (zW tA b sh r.2.2) n 0 0 99 [(0, .ref (b + (r.1))), (1, .int (r.2.1))] []) → Z p l e { frames := 2, cells := 0, slots := 0, locals := 44 } s m args below meth c D b 3 (MQ below (zQ D b post) args s 0 0 (fun q => b ≤ q)) (zW tA b sh mm) n 0 0 44 [(0, .ref (b + v0)), (1, .int v1)] [] := by
  intro fuel
  induction fuel with
  | zero =>
    intro v0 v1 mm r h
    cases h
  | succ fu ih =>
    intro v0 v1 mm r h hx0
    rw [L_MD_begin_44] at h
    refine zr_iload_n F zd_MD_begin_44 rfl ?_
    refine zr_aload_n F zd_MD_begin_45 rfl ?_
    obtain ⟨le26, hs25, h⟩ := zoS_s h
    refine zr_get F 1 0 zd_MD_begin_46 (zW_o hs25 (by decide)) rfl (by decide) zw_1680 rfl (by rfl) ?_
    refine zr_aload_n F zd_MD_begin_49 rfl ?_
    obtain ⟨le28, hs27, h⟩ := zoS_s h
    refine zr_get F 1 1 zd_MD_begin_50 (zW_o hs27 (by decide)) rfl (by decide) zw_1681 rfl (by rfl) ?_
    refine zr_imul F zd_MD_begin_53 ?_
    refine zr_pcn 54 rfl ?_
    refine zr_icmp_ge F 99 zd_MD_begin_54 (by decide) (fun hb29 => ?_) (fun hb29 => ?_)
    ·
      rw [if_pos hb29] at h
      obtain rfl := Option.some.inj h
      refine zr_loc (L' := [(0, .ref (b + v0)), (1, .int v1)]) ⟨rfl, rfl, trivial⟩ ?_
      exact hx0 
    ·
      rw [if_neg hb29] at h
      refine zr_aload_n F zd_MD_begin_57 rfl ?_
      obtain ⟨le31, hs30, h⟩ := zoS_s h
      obtain ⟨a32, ea32, h⟩ := zoB_s h
      refine zr_get F 1 18 zd_MD_begin_58 (zW_o hs30 (by decide)) rfl (by decide) zw_1698 rfl (by rfl) ?_
      refine zr_tor ea32 ?_
      refine zr_iload_n F zd_MD_begin_61 rfl ?_
      refine zr_lconstv (v := 0) F zd_MD_begin_62 (by decide) ?_
      obtain ⟨le34, hs33, h⟩ := zoS_s h
      obtain ⟨hi35, h⟩ := zoI_s h
      refine zr_last F zd_MD_begin_63 (zW_a2 hs33) hi35 ?_
      obtain ⟨mm36, emm36, h⟩ := zoL_s h
      refine zr_norm (zW tA b sh mm36) _ (by rw [emm36]; exact zW_s2 hs33) rfl ?_
      refine zr_iconstv (v := 0) F zd_MD_begin_64 (by decide) ?_
      refine zr_istore_n F zd_MD_begin_65 (by decide) ?_
      obtain ⟨q53, eq53, h⟩ := zoB_s h
      refine zr_loc (L' := [(0, .ref (b + v0)), (1, .int v1), (2, .int 0)]) ⟨rfl, rfl, rfl, trivial⟩ ?_
      refine lp_MD_begin_66 F _ _ _ _ _ _ eq53 ?_
      ·
        refine zr_iinc (v := (q53.2.1 + 1)) F zd_MD_begin_93 rfl rfl (by decide) ?_
        refine zr_goto F 44 zd_MD_begin_96 (by decide) ?_
        refine zr_loc (L' := [(0, .ref (b + (q53.1))), (1, .int (q53.2.1 + 1))]) ⟨rfl, rfl, trivial⟩ ?_
        exact ih _ _ _ _ h hx0
def F_MD_begin (sh : zSh) (mm : zMem) (o : Nat) : Option (Int32 × zMem) := zoS (sh o) 1 (fun le2 => zoL (mI mm o 11 0) (fun mm3 => zoS (sh o) 1 (fun le5 => zoL (mI mm3 o 15 1) (fun mm6 => zoS (sh o) 1 (fun le8 => Option.bind (mm6.2.2 o 6) (fun a9 => zoS (sh o) 1 (fun le11 => Option.bind (mm6.2.2 o 4) (fun a12 => zoS (sh a9) 15 (fun le14 => Option.bind (F_MScene_become sh mm6 a9 a12) (fun p15 => Option.bind (L_MD_begin_23 sh zfuel o 0 p15) (fun q24 => Option.bind (L_MD_begin_44 sh zfuel (q24.1) 0 (q24.2.2)) (fun q54 => zoS (sh (q54.1)) 1 (fun le56 => Option.bind (F_MD_tiles sh (q54.2.2) (q54.1)) (fun p57 => some (p57.1, p57.2)))))))))))))))
set_option maxHeartbeats 4000000 in
set_option maxRecDepth 100000 in
theorem k_MD_begin (l : Launch) (D : va_G) (tA : Nat → ClassId) (b : Nat) (sh : zSh) (n : Nat) {mm : zMem} {o : Nat} {r : (Int32 × zMem)} (h : F_MD_begin sh mm o = some r) : zM l D tA b zy_MD_begin zb_MD_begin 3 (some .int) 2 44 0 0 [.ref (b + o)] (zW tA b sh mm) n (zE (some (.int (r.1))) (zW tA b sh r.2) n) := by
  unfold F_MD_begin at h
  refine zM_of (own := "OrreryBoxModel") (plainFor_of_name (by decide)) rfl (Nat.le_of_ble_eq_true rfl) (fun p e s m below meth c F hr hin hH => ?_)
  refine zr_aload_n F zd_MD_begin_0 rfl ?_
  refine zr_iconstv (v := 0) F zd_MD_begin_1 (by decide) ?_
  obtain ⟨le2, hs1, h⟩ := zoS_s h
  refine zr_put F 1 11 zd_MD_begin_2 (zW_o hs1 (by decide)) rfl (by decide) zw_1691 rfl rfl rfl rfl (by exact (Nat.le_of_ble_eq_true rfl)) ?_
  obtain ⟨mm3, emm3, h⟩ := zoL_s h
  refine zr_norm (zW tA b sh mm3) _ (by rw [emm3]; exact zW_pI (v := 0) hs1 (by decide) (zf_I_1_11 b _ _ _)) rfl ?_
  refine zr_aload_n F zd_MD_begin_5 rfl ?_
  refine zr_iconstv (v := 1) F zd_MD_begin_6 (by decide) ?_
  obtain ⟨le5, hs4, h⟩ := zoS_s h
  refine zr_put F 1 15 zd_MD_begin_7 (zW_o hs4 (by decide)) rfl (by decide) zw_1695 rfl rfl rfl rfl (by exact (Nat.le_of_ble_eq_true rfl)) ?_
  obtain ⟨mm6, emm6, h⟩ := zoL_s h
  refine zr_norm (zW tA b sh mm6) _ (by rw [emm6]; exact zW_pI (v := 1) hs4 (by decide) (zf_I_1_15 b _ _ _)) rfl ?_
  refine zr_aload_n F zd_MD_begin_10 rfl ?_
  refine zr_pcn 11 rfl ?_
  obtain ⟨le8, hs7, h⟩ := zoS_s h
  obtain ⟨a9, ea9, h⟩ := zoB_s h
  refine zr_get F 1 6 zd_MD_begin_11 (zW_o hs7 (by decide)) rfl (by decide) zw_1686 rfl (by rfl) ?_
  refine zr_tor ea9 ?_
  refine zr_aload_n F zd_MD_begin_14 rfl ?_
  obtain ⟨le11, hs10, h⟩ := zoS_s h
  obtain ⟨a12, ea12, h⟩ := zoB_s h
  refine zr_get F 1 4 zd_MD_begin_15 (zW_o hs10 (by decide)) rfl (by decide) zw_1684 rfl (by rfl) ?_
  refine zr_tor ea12 ?_
  obtain ⟨le14, hs13, h⟩ := zoS_s h
  obtain ⟨p15, ep15, h⟩ := zoB_s h
  refine zr_callV0 F (k_MScene_become l D tA b sh _ ep15) zd_MD_begin_18 (zW_o hs13 (by decide)) rfl zs_MD_106 rfl zq_MScene_become rfl rfl ⟨(Nat.le_of_ble_eq_true rfl), (Nat.le_of_ble_eq_true rfl)⟩ (Nat.le_of_ble_eq_true rfl) ⟨(Nat.le_of_ble_eq_true rfl), (Nat.le_of_ble_eq_true rfl)⟩ ?_
  refine zr_iconstv (v := 0) F zd_MD_begin_21 (by decide) ?_
  refine zr_istore_n F zd_MD_begin_22 (by decide) ?_
  obtain ⟨q24, eq24, h⟩ := zoB_s h
  refine zr_loc (L' := [(0, .ref (b + o)), (1, .int 0)]) ⟨rfl, rfl, trivial⟩ ?_
  refine lp_MD_begin_23 F _ _ _ _ _ eq24 ?_
  ·
    refine zr_pcn 42 rfl ?_
    refine zr_iconstv (v := 0) F zd_MD_begin_42 (by decide) ?_
    refine zr_istore_n F zd_MD_begin_43 (by decide) ?_
    obtain ⟨q54, eq54, h⟩ := zoB_s h
    refine zr_loc (L' := [(0, .ref (b + (q24.1))), (1, .int 0)]) ⟨rfl, rfl, trivial⟩ ?_
    refine lp_MD_begin_44 F _ _ _ _ _ eq54 ?_
    ·
      refine zr_aload_n F zd_MD_begin_99 rfl ?_
      obtain ⟨le56, hs55, h⟩ := zoS_s h
      obtain ⟨p57, ep57, h⟩ := zoB_s h
      refine zr_callV1 F (k_MD_tiles l D tA b sh _ ep57) zd_MD_begin_100 (zW_o hs55 (by decide)) rfl zs_MD_185 rfl zq_MD_tiles rfl rfl ⟨(Nat.le_of_ble_eq_true rfl), (Nat.le_of_ble_eq_true rfl)⟩ (Nat.le_of_ble_eq_true rfl) ⟨(Nat.le_of_ble_eq_true rfl), (Nat.le_of_ble_eq_true rfl)⟩ ?_
      obtain rfl := Option.some.inj h
      exact zr_iret F hr zd_MD_begin_103 (Nat.le_of_ble_eq_true rfl) (Nat.le_of_ble_eq_true rfl) ⟨rfl, rfl, rfl⟩
def F_XFixed_turn (sh : zSh) (mm : zMem) (x0_ : Nat) (x1_ : Int32) (x2_ : Nat) : Option zMem := zoS (sh x0_) 100 (fun le2 => if (x1_ : Int32) < 0 ∨ le2 ≤ (x1_ : Int32).toNatClampNeg then none else zoL (mm.1 x0_ (x1_ : Int32).toNatClampNeg) (fun x4 => zoL (zx_sin x4) (fun x6 => zoS (sh x0_) 100 (fun le8 => if (x1_ : Int32) < 0 ∨ le8 ≤ (x1_ : Int32).toNatClampNeg then none else zoL ((mm.1 x0_ (x1_ : Int32).toNatClampNeg) + 1024) (fun x10 => zoL (zx_sin x10) (fun x12 => zoL (x1_ + 1) (fun i13 => zoS (sh x0_) 100 (fun le15 => if (i13 : Int32) < 0 ∨ le15 ≤ (i13 : Int32).toNatClampNeg then none else zoL (mm.1 x0_ (i13 : Int32).toNatClampNeg) (fun x17 => zoL (zx_sin x17) (fun x19 => zoL (x1_ + 1) (fun i20 => zoS (sh x0_) 100 (fun le22 => if (i20 : Int32) < 0 ∨ le22 ≤ (i20 : Int32).toNatClampNeg then none else zoL ((mm.1 x0_ (i20 : Int32).toNatClampNeg) + 1024) (fun x24 => zoL (zx_sin x24) (fun x26 => zoL (x1_ + 2) (fun i27 => zoS (sh x0_) 100 (fun le29 => if (i27 : Int32) < 0 ∨ le29 ≤ (i27 : Int32).toNatClampNeg then none else zoL (mm.1 x0_ (i27 : Int32).toNatClampNeg) (fun x31 => zoL (zx_sin x31) (fun x33 => zoL (x1_ + 2) (fun i34 => zoS (sh x0_) 100 (fun le36 => if (i34 : Int32) < 0 ∨ le36 ≤ (i34 : Int32).toNatClampNeg then none else zoL ((mm.1 x0_ (i34 : Int32).toNatClampNeg) + 1024) (fun x38 => zoL (zx_sin x38) (fun x40 => zoL (zx_mul ((x19 : Int32).toInt64) ((x6 : Int32).toInt64)) (fun x42 => Option.bind (F_XFixed_roll sh mm x2_ 0 ((x26 : Int32).toInt64) x42 x33 x40) (fun p43 => zoL (((zx_mul ((x19 : Int32).toInt64) ((x12 : Int32).toInt64)) : Int64).toInt32) (fun x45 => zoS (sh x2_) 100 (fun le47 => if (2 : Int32) < 0 ∨ le47 ≤ (2 : Int32).toNatClampNeg then none else zoL (mI p43 x2_ (2 : Int32).toNatClampNeg x45) (fun mm49 => Option.bind (F_XFixed_roll sh mm49 x2_ 4 0 ((x12 : Int32).toInt64) x33 x40) (fun p50 => zoL (-x6) (fun x51 => zoS (sh x2_) 100 (fun le53 => if (6 : Int32) < 0 ∨ le53 ≤ (6 : Int32).toNatClampNeg then none else zoL (mI p50 x2_ (6 : Int32).toNatClampNeg x51) (fun mm55 => zoL (zx_mul ((x26 : Int32).toInt64) ((x6 : Int32).toInt64)) (fun x57 => Option.bind (F_XFixed_roll sh mm55 x2_ 8 (((-x19) : Int32).toInt64) x57 x33 x40) (fun p58 => zoL (((zx_mul ((x26 : Int32).toInt64) ((x12 : Int32).toInt64)) : Int64).toInt32) (fun x60 => zoS (sh x2_) 100 (fun le62 => if (10 : Int32) < 0 ∨ le62 ≤ (10 : Int32).toNatClampNeg then none else zoL (mI p58 x2_ (10 : Int32).toNatClampNeg x60) (fun mm64 => some mm64))))))))))))))))))))))))))))))))))))
set_option maxHeartbeats 4000000 in
set_option maxRecDepth 100000 in
theorem k_XFixed_turn (l : Launch) (D : va_G) (tA : Nat → ClassId) (b : Nat) (sh : zSh) (n : Nat) {mm : zMem} {x0_ : Nat} {x1_ : Int32} {x2_ : Nat} {r : zMem} (h : F_XFixed_turn sh mm x0_ x1_ x2_ = some r) : zM l D tA b zy_XFixed_turn zb_XFixed_turn 9 none 3 74 0 0 [.ref (b + x0_), .int x1_, .ref (b + x2_)] (zW tA b sh mm) n (zE none (zW tA b sh r) n) := by
  unfold F_XFixed_turn at h
  refine zM_of (own := "OrreryBox$Fixed") (plainFor_of_name (by decide)) rfl (Nat.le_of_ble_eq_true rfl) (fun p e s m below meth c F hr hin hH => ?_)
  refine zr_aload_n F zd_XFixed_turn_0 rfl ?_
  refine zr_iload_n F zd_XFixed_turn_1 rfl ?_
  obtain ⟨le2, hs1, h⟩ := zoS_s h
  obtain ⟨hi3, h⟩ := zoI_s h
  refine zr_iald F zd_XFixed_turn_2 (zW_a0 hs1) hi3 ?_
  obtain ⟨x4, ex4, h⟩ := zoL_s h
  rw [← ex4]
  refine zr_callS1 F (c_XFixed_sin l D tA b _ _ x4) zd_XFixed_turn_3 zs_XFixed_47 zq_XFixed_sin rfl rfl ⟨(Nat.le_of_ble_eq_true rfl), (Nat.le_of_ble_eq_true rfl)⟩ (Nat.le_of_ble_eq_true rfl) ⟨(Nat.le_of_ble_eq_true rfl), (Nat.le_of_ble_eq_true rfl)⟩ ?_
  obtain ⟨x6, ex6, h⟩ := zoL_s h
  rw [← ex6]
  refine zr_istore_n F zd_XFixed_turn_6 (by decide) ?_
  refine zr_aload_n F zd_XFixed_turn_7 rfl ?_
  refine zr_iload_n F zd_XFixed_turn_8 rfl ?_
  refine zr_pcn 9 rfl ?_
  obtain ⟨le8, hs7, h⟩ := zoS_s h
  obtain ⟨hi9, h⟩ := zoI_s h
  refine zr_iald F zd_XFixed_turn_9 (zW_a0 hs7) hi9 ?_
  refine zr_sipushv (v := 1024) F zd_XFixed_turn_10 (by decide) ?_
  refine zr_iadd F zd_XFixed_turn_13 ?_
  obtain ⟨x10, ex10, h⟩ := zoL_s h
  rw [← ex10]
  refine zr_callS1 F (c_XFixed_sin l D tA b _ _ x10) zd_XFixed_turn_14 zs_XFixed_47 zq_XFixed_sin rfl rfl ⟨(Nat.le_of_ble_eq_true rfl), (Nat.le_of_ble_eq_true rfl)⟩ (Nat.le_of_ble_eq_true rfl) ⟨(Nat.le_of_ble_eq_true rfl), (Nat.le_of_ble_eq_true rfl)⟩ ?_
  obtain ⟨x12, ex12, h⟩ := zoL_s h
  rw [← ex12]
  refine zr_istore F zd_XFixed_turn_17 (by decide) ?_
  refine zr_aload_n F zd_XFixed_turn_19 rfl ?_
  refine zr_iload_n F zd_XFixed_turn_20 rfl ?_
  refine zr_iconstv (v := 1) F zd_XFixed_turn_21 (by decide) ?_
  refine zr_pcn 22 rfl ?_
  refine zr_iadd F zd_XFixed_turn_22 ?_
  obtain ⟨i13, ei13, h⟩ := zoL_s h
  rw [← ei13]
  obtain ⟨le15, hs14, h⟩ := zoS_s h
  obtain ⟨hi16, h⟩ := zoI_s h
  refine zr_iald F zd_XFixed_turn_23 (zW_a0 hs14) hi16 ?_
  obtain ⟨x17, ex17, h⟩ := zoL_s h
  rw [← ex17]
  refine zr_callS1 F (c_XFixed_sin l D tA b _ _ x17) zd_XFixed_turn_24 zs_XFixed_47 zq_XFixed_sin rfl rfl ⟨(Nat.le_of_ble_eq_true rfl), (Nat.le_of_ble_eq_true rfl)⟩ (Nat.le_of_ble_eq_true rfl) ⟨(Nat.le_of_ble_eq_true rfl), (Nat.le_of_ble_eq_true rfl)⟩ ?_
  obtain ⟨x19, ex19, h⟩ := zoL_s h
  rw [← ex19]
  refine zr_istore F zd_XFixed_turn_27 (by decide) ?_
  refine zr_aload_n F zd_XFixed_turn_29 rfl ?_
  refine zr_iload_n F zd_XFixed_turn_30 rfl ?_
  refine zr_iconstv (v := 1) F zd_XFixed_turn_31 (by decide) ?_
  refine zr_iadd F zd_XFixed_turn_32 ?_
  refine zr_pcn 33 rfl ?_
  obtain ⟨i20, ei20, h⟩ := zoL_s h
  rw [← ei20]
  obtain ⟨le22, hs21, h⟩ := zoS_s h
  obtain ⟨hi23, h⟩ := zoI_s h
  refine zr_iald F zd_XFixed_turn_33 (zW_a0 hs21) hi23 ?_
  refine zr_sipushv (v := 1024) F zd_XFixed_turn_34 (by decide) ?_
  refine zr_iadd F zd_XFixed_turn_37 ?_
  obtain ⟨x24, ex24, h⟩ := zoL_s h
  rw [← ex24]
  refine zr_callS1 F (c_XFixed_sin l D tA b _ _ x24) zd_XFixed_turn_38 zs_XFixed_47 zq_XFixed_sin rfl rfl ⟨(Nat.le_of_ble_eq_true rfl), (Nat.le_of_ble_eq_true rfl)⟩ (Nat.le_of_ble_eq_true rfl) ⟨(Nat.le_of_ble_eq_true rfl), (Nat.le_of_ble_eq_true rfl)⟩ ?_
  obtain ⟨x26, ex26, h⟩ := zoL_s h
  rw [← ex26]
  refine zr_istore F zd_XFixed_turn_41 (by decide) ?_
  refine zr_aload_n F zd_XFixed_turn_43 rfl ?_
  refine zr_iload_n F zd_XFixed_turn_44 rfl ?_
  refine zr_iconstv (v := 2) F zd_XFixed_turn_45 (by decide) ?_
  refine zr_pcn 46 rfl ?_
  refine zr_iadd F zd_XFixed_turn_46 ?_
  obtain ⟨i27, ei27, h⟩ := zoL_s h
  rw [← ei27]
  obtain ⟨le29, hs28, h⟩ := zoS_s h
  obtain ⟨hi30, h⟩ := zoI_s h
  refine zr_iald F zd_XFixed_turn_47 (zW_a0 hs28) hi30 ?_
  obtain ⟨x31, ex31, h⟩ := zoL_s h
  rw [← ex31]
  refine zr_callS1 F (c_XFixed_sin l D tA b _ _ x31) zd_XFixed_turn_48 zs_XFixed_47 zq_XFixed_sin rfl rfl ⟨(Nat.le_of_ble_eq_true rfl), (Nat.le_of_ble_eq_true rfl)⟩ (Nat.le_of_ble_eq_true rfl) ⟨(Nat.le_of_ble_eq_true rfl), (Nat.le_of_ble_eq_true rfl)⟩ ?_
  obtain ⟨x33, ex33, h⟩ := zoL_s h
  rw [← ex33]
  refine zr_istore F zd_XFixed_turn_51 (by decide) ?_
  refine zr_aload_n F zd_XFixed_turn_53 rfl ?_
  refine zr_iload_n F zd_XFixed_turn_54 rfl ?_
  refine zr_iconstv (v := 2) F zd_XFixed_turn_55 (by decide) ?_
  refine zr_iadd F zd_XFixed_turn_56 ?_
  refine zr_pcn 57 rfl ?_
  obtain ⟨i34, ei34, h⟩ := zoL_s h
  rw [← ei34]
  obtain ⟨le36, hs35, h⟩ := zoS_s h
  obtain ⟨hi37, h⟩ := zoI_s h
  refine zr_iald F zd_XFixed_turn_57 (zW_a0 hs35) hi37 ?_
  refine zr_sipushv (v := 1024) F zd_XFixed_turn_58 (by decide) ?_
  refine zr_iadd F zd_XFixed_turn_61 ?_
  obtain ⟨x38, ex38, h⟩ := zoL_s h
  rw [← ex38]
  refine zr_callS1 F (c_XFixed_sin l D tA b _ _ x38) zd_XFixed_turn_62 zs_XFixed_47 zq_XFixed_sin rfl rfl ⟨(Nat.le_of_ble_eq_true rfl), (Nat.le_of_ble_eq_true rfl)⟩ (Nat.le_of_ble_eq_true rfl) ⟨(Nat.le_of_ble_eq_true rfl), (Nat.le_of_ble_eq_true rfl)⟩ ?_
  obtain ⟨x40, ex40, h⟩ := zoL_s h
  rw [← ex40]
  refine zr_istore F zd_XFixed_turn_65 (by decide) ?_
  refine zr_aload_n F zd_XFixed_turn_67 rfl ?_
  refine zr_iconstv (v := 0) F zd_XFixed_turn_68 (by decide) ?_
  refine zr_iload F zd_XFixed_turn_69 rfl ?_
  refine zr_pcn 71 rfl ?_
  refine zr_i2l F zd_XFixed_turn_71 ?_
  refine zr_iload F zd_XFixed_turn_72 rfl ?_
  refine zr_i2l F zd_XFixed_turn_74 ?_
  refine zr_iload_n F zd_XFixed_turn_75 rfl ?_
  refine zr_i2l F zd_XFixed_turn_76 ?_
  refine zr_callS1 F (c_XFixed_mul l D tA b _ _ ((x19 : Int32).toInt64) ((x6 : Int32).toInt64)) zd_XFixed_turn_77 zs_XFixed_36 zq_XFixed_mul rfl rfl ⟨(Nat.le_of_ble_eq_true rfl), (Nat.le_of_ble_eq_true rfl)⟩ (Nat.le_of_ble_eq_true rfl) ⟨(Nat.le_of_ble_eq_true rfl), (Nat.le_of_ble_eq_true rfl)⟩ ?_
  refine zr_iload F zd_XFixed_turn_80 rfl ?_
  refine zr_iload F zd_XFixed_turn_82 rfl ?_
  refine zr_pcn 84 rfl ?_
  obtain ⟨x42, ex42, h⟩ := zoL_s h
  rw [← ex42]
  obtain ⟨p43, ep43, h⟩ := zoB_s h
  refine zr_callS0 F (k_XFixed_roll l D tA b sh _ ep43) zd_XFixed_turn_84 zs_XFixed_51 zq_XFixed_roll rfl rfl ⟨(Nat.le_of_ble_eq_true rfl), (Nat.le_of_ble_eq_true rfl)⟩ (Nat.le_of_ble_eq_true rfl) ⟨(Nat.le_of_ble_eq_true rfl), (Nat.le_of_ble_eq_true rfl)⟩ ?_
  refine zr_aload_n F zd_XFixed_turn_87 rfl ?_
  refine zr_iconstv (v := 2) F zd_XFixed_turn_88 (by decide) ?_
  refine zr_iload F zd_XFixed_turn_89 rfl ?_
  refine zr_i2l F zd_XFixed_turn_91 ?_
  refine zr_iload F zd_XFixed_turn_92 rfl ?_
  refine zr_i2l F zd_XFixed_turn_94 ?_
  refine zr_callS1 F (c_XFixed_mul l D tA b _ _ ((x19 : Int32).toInt64) ((x12 : Int32).toInt64)) zd_XFixed_turn_95 zs_XFixed_36 zq_XFixed_mul rfl rfl ⟨(Nat.le_of_ble_eq_true rfl), (Nat.le_of_ble_eq_true rfl)⟩ (Nat.le_of_ble_eq_true rfl) ⟨(Nat.le_of_ble_eq_true rfl), (Nat.le_of_ble_eq_true rfl)⟩ ?_
  refine zr_pcn 98 rfl ?_
  refine zr_l2i F zd_XFixed_turn_98 ?_
  obtain ⟨x45, ex45, h⟩ := zoL_s h
  rw [← ex45]
  obtain ⟨le47, hs46, h⟩ := zoS_s h
  obtain ⟨hi48, h⟩ := zoI_s h
  refine zr_iast F zd_XFixed_turn_99 (zW_a0 hs46) hi48 ?_
  obtain ⟨mm49, emm49, h⟩ := zoL_s h
  refine zr_norm (zW tA b sh mm49) _ (by rw [emm49]; exact zW_s0 hs46) rfl ?_
  refine zr_aload_n F zd_XFixed_turn_100 rfl ?_
  refine zr_iconstv (v := 4) F zd_XFixed_turn_101 (by decide) ?_
  refine zr_lconstv (v := 0) F zd_XFixed_turn_102 (by decide) ?_
  refine zr_iload F zd_XFixed_turn_103 rfl ?_
  refine zr_i2l F zd_XFixed_turn_105 ?_
  refine zr_iload F zd_XFixed_turn_106 rfl ?_
  refine zr_pcn 108 rfl ?_
  refine zr_iload F zd_XFixed_turn_108 rfl ?_
  obtain ⟨p50, ep50, h⟩ := zoB_s h
  refine zr_callS0 F (k_XFixed_roll l D tA b sh _ ep50) zd_XFixed_turn_110 zs_XFixed_51 zq_XFixed_roll rfl rfl ⟨(Nat.le_of_ble_eq_true rfl), (Nat.le_of_ble_eq_true rfl)⟩ (Nat.le_of_ble_eq_true rfl) ⟨(Nat.le_of_ble_eq_true rfl), (Nat.le_of_ble_eq_true rfl)⟩ ?_
  refine zr_aload_n F zd_XFixed_turn_113 rfl ?_
  refine zr_bipushv (v := 6) F zd_XFixed_turn_114 (by decide) ?_
  refine zr_iload_n F zd_XFixed_turn_116 rfl ?_
  refine zr_ineg F zd_XFixed_turn_117 ?_
  obtain ⟨x51, ex51, h⟩ := zoL_s h
  rw [← ex51]
  obtain ⟨le53, hs52, h⟩ := zoS_s h
  obtain ⟨hi54, h⟩ := zoI_s h
  refine zr_iast F zd_XFixed_turn_118 (zW_a0 hs52) hi54 ?_
  obtain ⟨mm55, emm55, h⟩ := zoL_s h
  refine zr_norm (zW tA b sh mm55) _ (by rw [emm55]; exact zW_s0 hs52) rfl ?_
  refine zr_aload_n F zd_XFixed_turn_119 rfl ?_
  refine zr_pcn 120 rfl ?_
  refine zr_bipushv (v := 8) F zd_XFixed_turn_120 (by decide) ?_
  refine zr_iload F zd_XFixed_turn_122 rfl ?_
  refine zr_ineg F zd_XFixed_turn_124 ?_
  refine zr_i2l F zd_XFixed_turn_125 ?_
  refine zr_iload F zd_XFixed_turn_126 rfl ?_
  refine zr_i2l F zd_XFixed_turn_128 ?_
  refine zr_iload_n F zd_XFixed_turn_129 rfl ?_
  refine zr_i2l F zd_XFixed_turn_130 ?_
  refine zr_pcn 131 rfl ?_
  refine zr_callS1 F (c_XFixed_mul l D tA b _ _ ((x26 : Int32).toInt64) ((x6 : Int32).toInt64)) zd_XFixed_turn_131 zs_XFixed_36 zq_XFixed_mul rfl rfl ⟨(Nat.le_of_ble_eq_true rfl), (Nat.le_of_ble_eq_true rfl)⟩ (Nat.le_of_ble_eq_true rfl) ⟨(Nat.le_of_ble_eq_true rfl), (Nat.le_of_ble_eq_true rfl)⟩ ?_
  refine zr_iload F zd_XFixed_turn_134 rfl ?_
  refine zr_iload F zd_XFixed_turn_136 rfl ?_
  obtain ⟨x57, ex57, h⟩ := zoL_s h
  rw [← ex57]
  obtain ⟨p58, ep58, h⟩ := zoB_s h
  refine zr_callS0 F (k_XFixed_roll l D tA b sh _ ep58) zd_XFixed_turn_138 zs_XFixed_51 zq_XFixed_roll rfl rfl ⟨(Nat.le_of_ble_eq_true rfl), (Nat.le_of_ble_eq_true rfl)⟩ (Nat.le_of_ble_eq_true rfl) ⟨(Nat.le_of_ble_eq_true rfl), (Nat.le_of_ble_eq_true rfl)⟩ ?_
  refine zr_aload_n F zd_XFixed_turn_141 rfl ?_
  refine zr_bipushv (v := 10) F zd_XFixed_turn_142 (by decide) ?_
  refine zr_iload F zd_XFixed_turn_144 rfl ?_
  refine zr_i2l F zd_XFixed_turn_146 ?_
  refine zr_pcn 147 rfl ?_
  refine zr_iload F zd_XFixed_turn_147 rfl ?_
  refine zr_i2l F zd_XFixed_turn_149 ?_
  refine zr_callS1 F (c_XFixed_mul l D tA b _ _ ((x26 : Int32).toInt64) ((x12 : Int32).toInt64)) zd_XFixed_turn_150 zs_XFixed_36 zq_XFixed_mul rfl rfl ⟨(Nat.le_of_ble_eq_true rfl), (Nat.le_of_ble_eq_true rfl)⟩ (Nat.le_of_ble_eq_true rfl) ⟨(Nat.le_of_ble_eq_true rfl), (Nat.le_of_ble_eq_true rfl)⟩ ?_
  refine zr_l2i F zd_XFixed_turn_153 ?_
  obtain ⟨x60, ex60, h⟩ := zoL_s h
  rw [← ex60]
  obtain ⟨le62, hs61, h⟩ := zoS_s h
  obtain ⟨hi63, h⟩ := zoI_s h
  refine zr_iast F zd_XFixed_turn_154 (zW_a0 hs61) hi63 ?_
  obtain ⟨mm64, emm64, h⟩ := zoL_s h
  refine zr_norm (zW tA b sh mm64) _ (by rw [emm64]; exact zW_s0 hs61) rfl ?_
  obtain rfl := Option.some.inj h
  exact zr_vret F hr zd_XFixed_turn_155 (Nat.le_of_ble_eq_true rfl) (Nat.le_of_ble_eq_true rfl) ⟨rfl, rfl, rfl⟩
abbrev zb_XNode_placeLocal : ByteArray := prog_4_method_2_code
def zy_XNode_placeLocal : MethodName := ⟨"OrreryBox$Node", "placeLocal", "([I)V"⟩
theorem zc_XNode_placeLocal : Cond.code zy_XNode_placeLocal zb_XNode_placeLocal 4 none ∈ gw := gw_t 629 (by decide +kernel) rfl
theorem zq_XNode_placeLocal : zy_XNode_placeLocal.cls ≠ "java/lang/invoke/MethodHandle" ∧ zy_XNode_placeLocal.cls ≠ "java/lang/invoke/VarHandle" ∧ (parseMethodDescriptor zy_XNode_placeLocal.desc).map (fun d => d.parameters.length) = some 1 := by decide +kernel
theorem zd_XNode_placeLocal_0 : decode zb_XNode_placeLocal 0 = .ok (.aload_n 0, 1) := by decide +kernel
theorem zd_XNode_placeLocal_1 : decode zb_XNode_placeLocal 1 = .ok (.getfield 7, 3) := by decide +kernel
theorem zd_XNode_placeLocal_4 : decode zb_XNode_placeLocal 4 = .ok (.iconst 3, 1) := by decide +kernel
theorem zd_XNode_placeLocal_5 : decode zb_XNode_placeLocal 5 = .ok (.aload_n 1, 1) := by decide +kernel
theorem zd_XNode_placeLocal_6 : decode zb_XNode_placeLocal 6 = .ok (.invokestatic 16, 3) := by decide +kernel
theorem zd_XNode_placeLocal_9 : decode zb_XNode_placeLocal 9 = .ok (.iconst 0, 1) := by decide +kernel
theorem zd_XNode_placeLocal_10 : decode zb_XNode_placeLocal 10 = .ok (.istore_n 2, 1) := by decide +kernel
theorem zd_XNode_placeLocal_11 : decode zb_XNode_placeLocal 11 = .ok (.iload_n 2, 1) := by decide +kernel
theorem zd_XNode_placeLocal_12 : decode zb_XNode_placeLocal 12 = .ok (.iconst 3, 1) := by decide +kernel
theorem zd_XNode_placeLocal_13 : decode zb_XNode_placeLocal 13 = .ok (.if_icmp .ge 66, 3) := by decide +kernel
theorem zd_XNode_placeLocal_16 : decode zb_XNode_placeLocal 16 = .ok (.iconst 0, 1) := by decide +kernel
theorem zd_XNode_placeLocal_17 : decode zb_XNode_placeLocal 17 = .ok (.istore_n 3, 1) := by decide +kernel
theorem zd_XNode_placeLocal_18 : decode zb_XNode_placeLocal 18 = .ok (.iload_n 3, 1) := by decide +kernel
theorem zd_XNode_placeLocal_19 : decode zb_XNode_placeLocal 19 = .ok (.iconst 3, 1) := by decide +kernel
theorem zd_XNode_placeLocal_20 : decode zb_XNode_placeLocal 20 = .ok (.if_icmp .ge 40, 3) := by decide +kernel
theorem zd_XNode_placeLocal_23 : decode zb_XNode_placeLocal 23 = .ok (.aload_n 1, 1) := by decide +kernel
theorem zd_XNode_placeLocal_24 : decode zb_XNode_placeLocal 24 = .ok (.iconst 4, 1) := by decide +kernel
theorem zd_XNode_placeLocal_25 : decode zb_XNode_placeLocal 25 = .ok (.iload_n 2, 1) := by decide +kernel
theorem zd_XNode_placeLocal_26 : decode zb_XNode_placeLocal 26 = .ok (.imul, 1) := by decide +kernel
theorem zd_XNode_placeLocal_27 : decode zb_XNode_placeLocal 27 = .ok (.iload_n 3, 1) := by decide +kernel
theorem zd_XNode_placeLocal_28 : decode zb_XNode_placeLocal 28 = .ok (.iadd, 1) := by decide +kernel
theorem zd_XNode_placeLocal_29 : decode zb_XNode_placeLocal 29 = .ok (.aload_n 1, 1) := by decide +kernel
theorem zd_XNode_placeLocal_30 : decode zb_XNode_placeLocal 30 = .ok (.iconst 4, 1) := by decide +kernel
theorem zd_XNode_placeLocal_31 : decode zb_XNode_placeLocal 31 = .ok (.iload_n 2, 1) := by decide +kernel
theorem zd_XNode_placeLocal_32 : decode zb_XNode_placeLocal 32 = .ok (.imul, 1) := by decide +kernel
theorem zd_XNode_placeLocal_33 : decode zb_XNode_placeLocal 33 = .ok (.iload_n 3, 1) := by decide +kernel
theorem zd_XNode_placeLocal_34 : decode zb_XNode_placeLocal 34 = .ok (.iadd, 1) := by decide +kernel
theorem zd_XNode_placeLocal_35 : decode zb_XNode_placeLocal 35 = .ok (.iaload, 1) := by decide +kernel
theorem zd_XNode_placeLocal_36 : decode zb_XNode_placeLocal 36 = .ok (.i2l, 1) := by decide +kernel
theorem zd_XNode_placeLocal_37 : decode zb_XNode_placeLocal 37 = .ok (.aload_n 0, 1) := by decide +kernel
theorem zd_XNode_placeLocal_38 : decode zb_XNode_placeLocal 38 = .ok (.getfield 7, 3) := by decide +kernel
theorem zd_XNode_placeLocal_41 : decode zb_XNode_placeLocal 41 = .ok (.bipush 6, 2) := by decide +kernel
theorem zd_XNode_placeLocal_43 : decode zb_XNode_placeLocal 43 = .ok (.iload_n 3, 1) := by decide +kernel
theorem zd_XNode_placeLocal_44 : decode zb_XNode_placeLocal 44 = .ok (.iadd, 1) := by decide +kernel
theorem zd_XNode_placeLocal_45 : decode zb_XNode_placeLocal 45 = .ok (.iaload, 1) := by decide +kernel
theorem zd_XNode_placeLocal_46 : decode zb_XNode_placeLocal 46 = .ok (.i2l, 1) := by decide +kernel
theorem zd_XNode_placeLocal_47 : decode zb_XNode_placeLocal 47 = .ok (.invokestatic 22, 3) := by decide +kernel
theorem zd_XNode_placeLocal_50 : decode zb_XNode_placeLocal 50 = .ok (.invokestatic 26, 3) := by decide +kernel
theorem zd_XNode_placeLocal_53 : decode zb_XNode_placeLocal 53 = .ok (.iastore, 1) := by decide +kernel
theorem zd_XNode_placeLocal_54 : decode zb_XNode_placeLocal 54 = .ok (.iinc 3 1, 3) := by decide +kernel
theorem zd_XNode_placeLocal_57 : decode zb_XNode_placeLocal 57 = .ok (.goto (-39), 3) := by decide +kernel
theorem zd_XNode_placeLocal_60 : decode zb_XNode_placeLocal 60 = .ok (.aload_n 1, 1) := by decide +kernel
theorem zd_XNode_placeLocal_61 : decode zb_XNode_placeLocal 61 = .ok (.iconst 4, 1) := by decide +kernel
theorem zd_XNode_placeLocal_62 : decode zb_XNode_placeLocal 62 = .ok (.iload_n 2, 1) := by decide +kernel
theorem zd_XNode_placeLocal_63 : decode zb_XNode_placeLocal 63 = .ok (.imul, 1) := by decide +kernel
theorem zd_XNode_placeLocal_64 : decode zb_XNode_placeLocal 64 = .ok (.iconst 3, 1) := by decide +kernel
theorem zd_XNode_placeLocal_65 : decode zb_XNode_placeLocal 65 = .ok (.iadd, 1) := by decide +kernel
theorem zd_XNode_placeLocal_66 : decode zb_XNode_placeLocal 66 = .ok (.aload_n 0, 1) := by decide +kernel
theorem zd_XNode_placeLocal_67 : decode zb_XNode_placeLocal 67 = .ok (.getfield 7, 3) := by decide +kernel
theorem zd_XNode_placeLocal_70 : decode zb_XNode_placeLocal 70 = .ok (.iload_n 2, 1) := by decide +kernel
theorem zd_XNode_placeLocal_71 : decode zb_XNode_placeLocal 71 = .ok (.iaload, 1) := by decide +kernel
theorem zd_XNode_placeLocal_72 : decode zb_XNode_placeLocal 72 = .ok (.iastore, 1) := by decide +kernel
theorem zd_XNode_placeLocal_73 : decode zb_XNode_placeLocal 73 = .ok (.iinc 2 1, 3) := by decide +kernel
theorem zd_XNode_placeLocal_76 : decode zb_XNode_placeLocal 76 = .ok (.goto (-65), 3) := by decide +kernel
theorem zd_XNode_placeLocal_79 : decode zb_XNode_placeLocal 79 = .ok (.return_, 1) := by decide +kernel
theorem zw_630 : (Jvm.Cond.methodLink "OrreryBox$Node" (16 : Nat) ({ cls := "OrreryBox$Fixed", name := "turn", desc := "([II[I)V" } : Jvm.MethodName)) ∈ gw := gw_t 630 (by decide +kernel) rfl
theorem zs_XNode_16 : zwS "OrreryBox$Node" 16 zy_XFixed_turn zb_XFixed_turn 9 none := ⟨zw_630, zw_631, zw_27, zc_XFixed_turn⟩
theorem zw_645 : (Jvm.Cond.methodLink "OrreryBox$Node" (22 : Nat) ({ cls := "OrreryBox$Fixed", name := "mul", desc := "(JJ)J" } : Jvm.MethodName)) ∈ gw := gw_t 645 (by decide +kernel) rfl
theorem zs_XNode_22 : zwS "OrreryBox$Node" 22 zy_XFixed_mul zb_XFixed_mul 4 (some .long) := ⟨zw_645, zw_578, zw_27, zc_XFixed_mul⟩
theorem zw_646 : (Jvm.Cond.methodLink "OrreryBox$Node" (26 : Nat) ({ cls := "OrreryBox$Fixed", name := "bound", desc := "(J)I" } : Jvm.MethodName)) ∈ gw := gw_t 646 (by decide +kernel) rfl
theorem zs_XNode_26 : zwS "OrreryBox$Node" 26 zy_XFixed_bound zb_XFixed_bound 2 (some .int) := ⟨zw_646, zw_647, zw_27, zc_XFixed_bound⟩
def L_XNode_placeLocal_18 (sh : zSh) (fuel : Nat) (v0 : Nat) (v1 : Nat) (v2 : Int32) (v3 : Int32) (mm : zMem) : Option (Nat × Nat × Int32 × Int32 × zMem) := match fuel with
  | 0 => none
  | fu + 1 => (if 3 ≤ v3 then some (v0, v1, v2, v3, mm) else zoL ((4 * v2) + v3) (fun i7 => zoS (sh v1) 100 (fun le9 => if (i7 : Int32) < 0 ∨ le9 ≤ (i7 : Int32).toNatClampNeg then none else zoS (sh v0) 3 (fun le12 => Option.bind (mm.2.2 v0 4) (fun a13 => zoL (6 + v3) (fun i14 => zoS (sh a13) 100 (fun le16 => if (i14 : Int32) < 0 ∨ le16 ≤ (i14 : Int32).toNatClampNeg then none else zoL (((mm.1 v1 (i7 : Int32).toNatClampNeg) : Int32).toInt64) (fun x18 => zoL (((mm.1 a13 (i14 : Int32).toNatClampNeg) : Int32).toInt64) (fun x19 => zoL (zx_bound (zx_mul x18 x19)) (fun x22 => zoS (sh v1) 100 (fun le24 => if (i7 : Int32) < 0 ∨ le24 ≤ (i7 : Int32).toNatClampNeg then none else zoL (mI mm v1 (i7 : Int32).toNatClampNeg x22) (fun mm26 => L_XNode_placeLocal_18 sh fu v0 v1 v2 (v3 + 1) mm26))))))))))))
set_option maxHeartbeats 4000000 in
set_option maxRecDepth 100000 in
theorem lp_XNode_placeLocal_18 {p : Program} {l : Launch} {e : Env} {s : State} {m : MethodId} {args : Array Value} {below : List Frame} {meth : Method} {c : Code} {D : va_G} {tA : Nat → ClassId} {b n : Nat} {post : Option Value → zV → Nat → Prop} {sh : zSh} (F : zF p s m args meth c zb_XNode_placeLocal 4 "OrreryBox$Node" D tA b) : ∀ (fuel : Nat) (v0 : Nat) (v1 : Nat) (v2 : Int32) (v3 : Int32) (mm : zMem) (r : Nat × Nat × Int32 × Int32 × zMem), L_XNode_placeLocal_18 sh fuel v0 v1 v2 v3 mm = some r → (Z p l e { frames := 4, cells := 0, slots := 0, locals := 102 } s m args below meth c D b 4 (MQ below (zQ D b post) args s 0 0 (fun q => b ≤ q)) (zW tA b sh r.2.2.2.2) n 0 0 60 [(0, .ref (b + (r.1))), (1, .ref (b + (r.2.1))), (2, .int (r.2.2.1)), (3, .int (r.2.2.2.1))] []) → Z p l e { frames := 4, cells := 0, slots := 0, locals := 102 } s m args below meth c D b 4 (MQ below (zQ D b post) args s 0 0 (fun q => b ≤ q)) (zW tA b sh mm) n 0 0 18 [(0, .ref (b + v0)), (1, .ref (b + v1)), (2, .int v2), (3, .int v3)] [] := by
  intro fuel
  induction fuel with
  | zero =>
    intro v0 v1 v2 v3 mm r h
    cases h
  | succ fu ih =>
    intro v0 v1 v2 v3 mm r h hx0
    rw [L_XNode_placeLocal_18] at h
    refine zr_iload_n F zd_XNode_placeLocal_18 rfl ?_
    refine zr_iconstv (v := 3) F zd_XNode_placeLocal_19 (by decide) ?_
    refine zr_icmp_ge F 60 zd_XNode_placeLocal_20 (by decide) (fun hb6 => ?_) (fun hb6 => ?_)
    ·
      rw [if_pos hb6] at h
      obtain rfl := Option.some.inj h
      refine zr_loc (L' := [(0, .ref (b + v0)), (1, .ref (b + v1)), (2, .int v2), (3, .int v3)]) ⟨rfl, rfl, rfl, rfl, trivial⟩ ?_
      exact hx0 
    ·
      rw [if_neg hb6] at h
      refine zr_pcn 23 rfl ?_
      refine zr_aload_n F zd_XNode_placeLocal_23 rfl ?_
      refine zr_iconstv (v := 4) F zd_XNode_placeLocal_24 (by decide) ?_
      refine zr_iload_n F zd_XNode_placeLocal_25 rfl ?_
      refine zr_imul F zd_XNode_placeLocal_26 ?_
      refine zr_iload_n F zd_XNode_placeLocal_27 rfl ?_
      refine zr_iadd F zd_XNode_placeLocal_28 ?_
      refine zr_aload_n F zd_XNode_placeLocal_29 rfl ?_
      refine zr_iconstv (v := 4) F zd_XNode_placeLocal_30 (by decide) ?_
      refine zr_pcn 31 rfl ?_
      refine zr_iload_n F zd_XNode_placeLocal_31 rfl ?_
      refine zr_imul F zd_XNode_placeLocal_32 ?_
      refine zr_iload_n F zd_XNode_placeLocal_33 rfl ?_
      refine zr_iadd F zd_XNode_placeLocal_34 ?_
      obtain ⟨i7, ei7, h⟩ := zoL_s h
      rw [← ei7]
      obtain ⟨le9, hs8, h⟩ := zoS_s h
      obtain ⟨hi10, h⟩ := zoI_s h
      refine zr_iald F zd_XNode_placeLocal_35 (zW_a0 hs8) hi10 ?_
      refine zr_i2l F zd_XNode_placeLocal_36 ?_
      refine zr_aload_n F zd_XNode_placeLocal_37 rfl ?_
      obtain ⟨le12, hs11, h⟩ := zoS_s h
      obtain ⟨a13, ea13, h⟩ := zoB_s h
      refine zr_get F 3 4 zd_XNode_placeLocal_38 (zW_o hs11 (by decide)) rfl (by decide) zw_225 rfl (by rfl) ?_
      refine zr_tor ea13 ?_
      refine zr_pcn 41 rfl ?_
      refine zr_bipushv (v := 6) F zd_XNode_placeLocal_41 (by decide) ?_
      refine zr_iload_n F zd_XNode_placeLocal_43 rfl ?_
      refine zr_iadd F zd_XNode_placeLocal_44 ?_
      obtain ⟨i14, ei14, h⟩ := zoL_s h
      rw [← ei14]
      obtain ⟨le16, hs15, h⟩ := zoS_s h
      obtain ⟨hi17, h⟩ := zoI_s h
      refine zr_iald F zd_XNode_placeLocal_45 (zW_a0 hs15) hi17 ?_
      refine zr_i2l F zd_XNode_placeLocal_46 ?_
      obtain ⟨x18, ex18, h⟩ := zoL_s h
      rw [← ex18]
      obtain ⟨x19, ex19, h⟩ := zoL_s h
      rw [← ex19]
      refine zr_callS1 F (c_XFixed_mul l D tA b _ _ x18 x19) zd_XNode_placeLocal_47 zs_XNode_22 zq_XFixed_mul rfl rfl ⟨(Nat.le_of_ble_eq_true rfl), (Nat.le_of_ble_eq_true rfl)⟩ (Nat.le_of_ble_eq_true rfl) ⟨(Nat.le_of_ble_eq_true rfl), (Nat.le_of_ble_eq_true rfl)⟩ ?_
      refine zr_callS1 F (c_XFixed_bound l D tA b _ _ (zx_mul x18 x19)) zd_XNode_placeLocal_50 zs_XNode_26 zq_XFixed_bound rfl rfl ⟨(Nat.le_of_ble_eq_true rfl), (Nat.le_of_ble_eq_true rfl)⟩ (Nat.le_of_ble_eq_true rfl) ⟨(Nat.le_of_ble_eq_true rfl), (Nat.le_of_ble_eq_true rfl)⟩ ?_
      obtain ⟨x22, ex22, h⟩ := zoL_s h
      rw [← ex22]
      obtain ⟨le24, hs23, h⟩ := zoS_s h
      obtain ⟨hi25, h⟩ := zoI_s h
      refine zr_iast F zd_XNode_placeLocal_53 (zW_a0 hs23) hi25 ?_
      obtain ⟨mm26, emm26, h⟩ := zoL_s h
      refine zr_norm (zW tA b sh mm26) _ (by rw [emm26]; exact zW_s0 hs23) rfl ?_
      refine zr_pcn 54 rfl ?_
      refine zr_iinc (v := (v3 + 1)) F zd_XNode_placeLocal_54 rfl rfl (by decide) ?_
      refine zr_goto F 18 zd_XNode_placeLocal_57 (by decide) ?_
      refine zr_loc (L' := [(0, .ref (b + v0)), (1, .ref (b + v1)), (2, .int v2), (3, .int (v3 + 1))]) ⟨rfl, rfl, rfl, rfl, trivial⟩ ?_
      exact ih _ _ _ _ _ _ h hx0
def L_XNode_placeLocal_11 (sh : zSh) (fuel : Nat) (v0 : Nat) (v1 : Nat) (v2 : Int32) (mm : zMem) : Option (Nat × Nat × Int32 × zMem) := match fuel with
  | 0 => none
  | fu + 1 => (if 3 ≤ v2 then some (v0, v1, v2, mm) else Option.bind (L_XNode_placeLocal_18 sh zfuel v0 v1 v2 0 mm) (fun q27 => zoS (sh (q27.1)) 3 (fun le29 => Option.bind ((q27.2.2.2.2).2.2 (q27.1) 4) (fun a30 => zoS (sh a30) 100 (fun le32 => if (q27.2.2.1 : Int32) < 0 ∨ le32 ≤ (q27.2.2.1 : Int32).toNatClampNeg then none else zoL ((q27.2.2.2.2).1 a30 (q27.2.2.1 : Int32).toNatClampNeg) (fun x34 => zoL ((4 * q27.2.2.1) + 3) (fun i35 => zoS (sh (q27.2.1)) 100 (fun le37 => if (i35 : Int32) < 0 ∨ le37 ≤ (i35 : Int32).toNatClampNeg then none else zoL (mI (q27.2.2.2.2) (q27.2.1) (i35 : Int32).toNatClampNeg x34) (fun mm39 => L_XNode_placeLocal_11 sh fu (q27.1) (q27.2.1) (q27.2.2.1 + 1) mm39)))))))))
set_option maxHeartbeats 4000000 in
set_option maxRecDepth 100000 in
theorem lp_XNode_placeLocal_11 {p : Program} {l : Launch} {e : Env} {s : State} {m : MethodId} {args : Array Value} {below : List Frame} {meth : Method} {c : Code} {D : va_G} {tA : Nat → ClassId} {b n : Nat} {post : Option Value → zV → Nat → Prop} {sh : zSh} (F : zF p s m args meth c zb_XNode_placeLocal 4 "OrreryBox$Node" D tA b) : ∀ (fuel : Nat) (v0 : Nat) (v1 : Nat) (v2 : Int32) (mm : zMem) (r : Nat × Nat × Int32 × zMem), L_XNode_placeLocal_11 sh fuel v0 v1 v2 mm = some r → (Z p l e { frames := 4, cells := 0, slots := 0, locals := 102 } s m args below meth c D b 4 (MQ below (zQ D b post) args s 0 0 (fun q => b ≤ q)) (zW tA b sh r.2.2.2) n 0 0 79 [(0, .ref (b + (r.1))), (1, .ref (b + (r.2.1))), (2, .int (r.2.2.1))] []) → Z p l e { frames := 4, cells := 0, slots := 0, locals := 102 } s m args below meth c D b 4 (MQ below (zQ D b post) args s 0 0 (fun q => b ≤ q)) (zW tA b sh mm) n 0 0 11 [(0, .ref (b + v0)), (1, .ref (b + v1)), (2, .int v2)] [] := by
  intro fuel
  induction fuel with
  | zero =>
    intro v0 v1 v2 mm r h
    cases h
  | succ fu ih =>
    intro v0 v1 v2 mm r h hx0
    rw [L_XNode_placeLocal_11] at h
    refine zr_pcn 11 rfl ?_
    refine zr_iload_n F zd_XNode_placeLocal_11 rfl ?_
    refine zr_iconstv (v := 3) F zd_XNode_placeLocal_12 (by decide) ?_
    refine zr_icmp_ge F 79 zd_XNode_placeLocal_13 (by decide) (fun hb5 => ?_) (fun hb5 => ?_)
    ·
      rw [if_pos hb5] at h
      obtain rfl := Option.some.inj h
      refine zr_loc (L' := [(0, .ref (b + v0)), (1, .ref (b + v1)), (2, .int v2)]) ⟨rfl, rfl, rfl, trivial⟩ ?_
      exact hx0 
    ·
      rw [if_neg hb5] at h
      refine zr_iconstv (v := 0) F zd_XNode_placeLocal_16 (by decide) ?_
      refine zr_istore_n F zd_XNode_placeLocal_17 (by decide) ?_
      obtain ⟨q27, eq27, h⟩ := zoB_s h
      refine zr_loc (L' := [(0, .ref (b + v0)), (1, .ref (b + v1)), (2, .int v2), (3, .int 0)]) ⟨rfl, rfl, rfl, rfl, trivial⟩ ?_
      refine lp_XNode_placeLocal_18 F _ _ _ _ _ _ _ eq27 ?_
      ·
        refine zr_aload_n F zd_XNode_placeLocal_60 rfl ?_
        refine zr_iconstv (v := 4) F zd_XNode_placeLocal_61 (by decide) ?_
        refine zr_iload_n F zd_XNode_placeLocal_62 rfl ?_
        refine zr_imul F zd_XNode_placeLocal_63 ?_
        refine zr_iconstv (v := 3) F zd_XNode_placeLocal_64 (by decide) ?_
        refine zr_iadd F zd_XNode_placeLocal_65 ?_
        refine zr_pcn 66 rfl ?_
        refine zr_aload_n F zd_XNode_placeLocal_66 rfl ?_
        obtain ⟨le29, hs28, h⟩ := zoS_s h
        obtain ⟨a30, ea30, h⟩ := zoB_s h
        refine zr_get F 3 4 zd_XNode_placeLocal_67 (zW_o hs28 (by decide)) rfl (by decide) zw_225 rfl (by rfl) ?_
        refine zr_tor ea30 ?_
        refine zr_iload_n F zd_XNode_placeLocal_70 rfl ?_
        obtain ⟨le32, hs31, h⟩ := zoS_s h
        obtain ⟨hi33, h⟩ := zoI_s h
        refine zr_iald F zd_XNode_placeLocal_71 (zW_a0 hs31) hi33 ?_
        obtain ⟨x34, ex34, h⟩ := zoL_s h
        rw [← ex34]
        obtain ⟨i35, ei35, h⟩ := zoL_s h
        rw [← ei35]
        obtain ⟨le37, hs36, h⟩ := zoS_s h
        obtain ⟨hi38, h⟩ := zoI_s h
        refine zr_iast F zd_XNode_placeLocal_72 (zW_a0 hs36) hi38 ?_
        obtain ⟨mm39, emm39, h⟩ := zoL_s h
        refine zr_norm (zW tA b sh mm39) _ (by rw [emm39]; exact zW_s0 hs36) rfl ?_
        refine zr_iinc (v := (q27.2.2.1 + 1)) F zd_XNode_placeLocal_73 rfl rfl (by decide) ?_
        refine zr_goto F 11 zd_XNode_placeLocal_76 (by decide) ?_
        refine zr_loc (L' := [(0, .ref (b + (q27.1))), (1, .ref (b + (q27.2.1))), (2, .int (q27.2.2.1 + 1))]) ⟨rfl, rfl, rfl, trivial⟩ ?_
        exact ih _ _ _ _ _ h hx0
def F_XNode_placeLocal (sh : zSh) (mm : zMem) (o : Nat) (x0_ : Nat) : Option zMem := zoS (sh o) 3 (fun le2 => Option.bind (mm.2.2 o 4) (fun a3 => Option.bind (F_XFixed_turn sh mm a3 3 x0_) (fun p4 => Option.bind (L_XNode_placeLocal_11 sh zfuel o x0_ 0 p4) (fun q40 => some (q40.2.2.2)))))
set_option maxHeartbeats 4000000 in
set_option maxRecDepth 100000 in
theorem k_XNode_placeLocal (l : Launch) (D : va_G) (tA : Nat → ClassId) (b : Nat) (sh : zSh) (n : Nat) {mm : zMem} {o : Nat} {x0_ : Nat} {r : zMem} (h : F_XNode_placeLocal sh mm o x0_ = some r) : zM l D tA b zy_XNode_placeLocal zb_XNode_placeLocal 4 none 4 102 0 0 [.ref (b + o), .ref (b + x0_)] (zW tA b sh mm) n (zE none (zW tA b sh r) n) := by
  unfold F_XNode_placeLocal at h
  refine zM_of (own := "OrreryBox$Node") (plainFor_of_name (by decide)) rfl (Nat.le_of_ble_eq_true rfl) (fun p e s m below meth c F hr hin hH => ?_)
  refine zr_aload_n F zd_XNode_placeLocal_0 rfl ?_
  obtain ⟨le2, hs1, h⟩ := zoS_s h
  obtain ⟨a3, ea3, h⟩ := zoB_s h
  refine zr_get F 3 4 zd_XNode_placeLocal_1 (zW_o hs1 (by decide)) rfl (by decide) zw_225 rfl (by rfl) ?_
  refine zr_tor ea3 ?_
  refine zr_iconstv (v := 3) F zd_XNode_placeLocal_4 (by decide) ?_
  refine zr_aload_n F zd_XNode_placeLocal_5 rfl ?_
  obtain ⟨p4, ep4, h⟩ := zoB_s h
  refine zr_callS0 F (k_XFixed_turn l D tA b sh _ ep4) zd_XNode_placeLocal_6 zs_XNode_16 zq_XFixed_turn rfl rfl ⟨(Nat.le_of_ble_eq_true rfl), (Nat.le_of_ble_eq_true rfl)⟩ (Nat.le_of_ble_eq_true rfl) ⟨(Nat.le_of_ble_eq_true rfl), (Nat.le_of_ble_eq_true rfl)⟩ ?_
  refine zr_iconstv (v := 0) F zd_XNode_placeLocal_9 (by decide) ?_
  refine zr_istore_n F zd_XNode_placeLocal_10 (by decide) ?_
  obtain ⟨q40, eq40, h⟩ := zoB_s h
  refine zr_loc (L' := [(0, .ref (b + o)), (1, .ref (b + x0_)), (2, .int 0)]) ⟨rfl, rfl, rfl, trivial⟩ ?_
  refine lp_XNode_placeLocal_11 F _ _ _ _ _ _ eq40 ?_
  ·
    obtain rfl := Option.some.inj h
    exact zr_vret F hr zd_XNode_placeLocal_79 (Nat.le_of_ble_eq_true rfl) (Nat.le_of_ble_eq_true rfl) ⟨rfl, rfl, rfl⟩
abbrev zb_XPacker_bestFilter : ByteArray := prog_5_method_5_code
def zy_XPacker_bestFilter : MethodName := ⟨"OrreryBox$Packer", "bestFilter", "(II)I"⟩
theorem zc_XPacker_bestFilter : Cond.code zy_XPacker_bestFilter zb_XPacker_bestFilter 9 (some .int) ∈ gw := gw_t 919 (by decide +kernel) rfl
theorem zq_XPacker_bestFilter : zy_XPacker_bestFilter.cls ≠ "java/lang/invoke/MethodHandle" ∧ zy_XPacker_bestFilter.cls ≠ "java/lang/invoke/VarHandle" ∧ (parseMethodDescriptor zy_XPacker_bestFilter.desc).map (fun d => d.parameters.length) = some 2 := by decide +kernel
theorem zd_XPacker_bestFilter_0 : decode zb_XPacker_bestFilter 0 = .ok (.iconst 0, 1) := by decide +kernel
theorem zd_XPacker_bestFilter_1 : decode zb_XPacker_bestFilter 1 = .ok (.istore_n 3, 1) := by decide +kernel
theorem zd_XPacker_bestFilter_2 : decode zb_XPacker_bestFilter 2 = .ok (.ldc 81, 2) := by decide +kernel
theorem zd_XPacker_bestFilter_4 : decode zb_XPacker_bestFilter 4 = .ok (.istore 4, 2) := by decide +kernel
theorem zd_XPacker_bestFilter_6 : decode zb_XPacker_bestFilter 6 = .ok (.iconst 0, 1) := by decide +kernel
theorem zd_XPacker_bestFilter_7 : decode zb_XPacker_bestFilter 7 = .ok (.istore 5, 2) := by decide +kernel
theorem zd_XPacker_bestFilter_9 : decode zb_XPacker_bestFilter 9 = .ok (.iload 5, 2) := by decide +kernel
theorem zd_XPacker_bestFilter_11 : decode zb_XPacker_bestFilter 11 = .ok (.iconst 5, 1) := by decide +kernel
theorem zd_XPacker_bestFilter_12 : decode zb_XPacker_bestFilter 12 = .ok (.if_icmp .ge 76, 3) := by decide +kernel
theorem zd_XPacker_bestFilter_15 : decode zb_XPacker_bestFilter 15 = .ok (.iconst 0, 1) := by decide +kernel
theorem zd_XPacker_bestFilter_16 : decode zb_XPacker_bestFilter 16 = .ok (.istore 6, 2) := by decide +kernel
theorem zd_XPacker_bestFilter_18 : decode zb_XPacker_bestFilter 18 = .ok (.iconst 0, 1) := by decide +kernel
theorem zd_XPacker_bestFilter_19 : decode zb_XPacker_bestFilter 19 = .ok (.istore 7, 2) := by decide +kernel
theorem zd_XPacker_bestFilter_21 : decode zb_XPacker_bestFilter 21 = .ok (.iload 7, 2) := by decide +kernel
theorem zd_XPacker_bestFilter_23 : decode zb_XPacker_bestFilter 23 = .ok (.iload_n 2, 1) := by decide +kernel
theorem zd_XPacker_bestFilter_24 : decode zb_XPacker_bestFilter 24 = .ok (.if_icmp .ge 44, 3) := by decide +kernel
theorem zd_XPacker_bestFilter_27 : decode zb_XPacker_bestFilter 27 = .ok (.iload 6, 2) := by decide +kernel
theorem zd_XPacker_bestFilter_29 : decode zb_XPacker_bestFilter 29 = .ok (.iload 4, 2) := by decide +kernel
theorem zd_XPacker_bestFilter_31 : decode zb_XPacker_bestFilter 31 = .ok (.if_icmp .ge 37, 3) := by decide +kernel
theorem zd_XPacker_bestFilter_34 : decode zb_XPacker_bestFilter 34 = .ok (.aload_n 0, 1) := by decide +kernel
theorem zd_XPacker_bestFilter_35 : decode zb_XPacker_bestFilter 35 = .ok (.iload 5, 2) := by decide +kernel
theorem zd_XPacker_bestFilter_37 : decode zb_XPacker_bestFilter 37 = .ok (.iload 7, 2) := by decide +kernel
theorem zd_XPacker_bestFilter_39 : decode zb_XPacker_bestFilter 39 = .ok (.iload_n 1, 1) := by decide +kernel
theorem zd_XPacker_bestFilter_40 : decode zb_XPacker_bestFilter 40 = .ok (.iload_n 2, 1) := by decide +kernel
theorem zd_XPacker_bestFilter_41 : decode zb_XPacker_bestFilter 41 = .ok (.invokevirtual 77, 3) := by decide +kernel
theorem zd_XPacker_bestFilter_44 : decode zb_XPacker_bestFilter 44 = .ok (.istore 8, 2) := by decide +kernel
theorem zd_XPacker_bestFilter_46 : decode zb_XPacker_bestFilter 46 = .ok (.iload 6, 2) := by decide +kernel
theorem zd_XPacker_bestFilter_48 : decode zb_XPacker_bestFilter 48 = .ok (.iload 8, 2) := by decide +kernel
theorem zd_XPacker_bestFilter_50 : decode zb_XPacker_bestFilter 50 = .ok (.sipush 256, 3) := by decide +kernel
theorem zd_XPacker_bestFilter_53 : decode zb_XPacker_bestFilter 53 = .ok (.iload 8, 2) := by decide +kernel
theorem zd_XPacker_bestFilter_55 : decode zb_XPacker_bestFilter 55 = .ok (.isub, 1) := by decide +kernel
theorem zd_XPacker_bestFilter_56 : decode zb_XPacker_bestFilter 56 = .ok (.invokestatic 82, 3) := by decide +kernel
theorem zd_XPacker_bestFilter_59 : decode zb_XPacker_bestFilter 59 = .ok (.iadd, 1) := by decide +kernel
theorem zd_XPacker_bestFilter_60 : decode zb_XPacker_bestFilter 60 = .ok (.istore 6, 2) := by decide +kernel
theorem zd_XPacker_bestFilter_62 : decode zb_XPacker_bestFilter 62 = .ok (.iinc 7 1, 3) := by decide +kernel
theorem zd_XPacker_bestFilter_65 : decode zb_XPacker_bestFilter 65 = .ok (.goto (-44), 3) := by decide +kernel
theorem zd_XPacker_bestFilter_68 : decode zb_XPacker_bestFilter 68 = .ok (.iload 6, 2) := by decide +kernel
theorem zd_XPacker_bestFilter_70 : decode zb_XPacker_bestFilter 70 = .ok (.iload 4, 2) := by decide +kernel
theorem zd_XPacker_bestFilter_72 : decode zb_XPacker_bestFilter 72 = .ok (.if_icmp .ge 10, 3) := by decide +kernel
theorem zd_XPacker_bestFilter_75 : decode zb_XPacker_bestFilter 75 = .ok (.iload 6, 2) := by decide +kernel
theorem zd_XPacker_bestFilter_77 : decode zb_XPacker_bestFilter 77 = .ok (.istore 4, 2) := by decide +kernel
theorem zd_XPacker_bestFilter_79 : decode zb_XPacker_bestFilter 79 = .ok (.iload 5, 2) := by decide +kernel
theorem zd_XPacker_bestFilter_81 : decode zb_XPacker_bestFilter 81 = .ok (.istore_n 3, 1) := by decide +kernel
theorem zd_XPacker_bestFilter_82 : decode zb_XPacker_bestFilter 82 = .ok (.iinc 5 1, 3) := by decide +kernel
theorem zd_XPacker_bestFilter_85 : decode zb_XPacker_bestFilter 85 = .ok (.goto (-76), 3) := by decide +kernel
theorem zd_XPacker_bestFilter_88 : decode zb_XPacker_bestFilter 88 = .ok (.iload_n 3, 1) := by decide +kernel
theorem zd_XPacker_bestFilter_89 : decode zb_XPacker_bestFilter 89 = .ok (.ireturn, 1) := by decide +kernel
theorem zw_920 : (Jvm.Cond.constant "OrreryBox$Packer" (81 : Nat) (1769472 : Int32)) ∈ gw := gw_t 920 (by decide +kernel) rfl
theorem zw_921 : (Jvm.Cond.methodLink "OrreryBox$Packer" (77 : Nat) ({ cls := "OrreryBox$Packer", name := "filtered", desc := "(IIII)I" } : Jvm.MethodName)) ∈ gw := gw_t 921 (by decide +kernel) rfl
theorem zw_923 : (Jvm.Cond.instanceMethod ({ cls := "OrreryBox$Packer", name := "filtered", desc := "(IIII)I" } : Jvm.MethodName)) ∈ gw := gw_t 923 (by decide +kernel) rfl
theorem zv_29 : (Jvm.Cond.selects "OrreryBox$Packer" (⟨"OrreryBox$Packer", "filtered", "(IIII)I"⟩ : MethodName) ⟨"OrreryBox$Packer", "filtered", "(IIII)I"⟩) ∈ gw := gw_s 29 (by decide +kernel) rfl
theorem zs_XPacker_77 : zwV "OrreryBox$Packer" 77 "OrreryBox$Packer" zy_XPacker_filtered zb_XPacker_filtered 9 (some .int) := ⟨zw_921, zw_923, zv_29, zw_3, zc_XPacker_filtered⟩
theorem zw_934 : (Jvm.Cond.methodLink "OrreryBox$Packer" (82 : Nat) ({ cls := "java/lang/Math", name := "min", desc := "(II)I" } : Jvm.MethodName)) ∈ gw := gw_t 934 (by decide +kernel) rfl
theorem zs_XPacker_82 : zwS "OrreryBox$Packer" 82 zy_JMath_min zb_JMath_min 2 (some .int) := ⟨zw_934, zw_121, zw_4, zc_JMath_min⟩
def L_XPacker_bestFilter_21 (sh : zSh) (fuel : Nat) (v0 : Nat) (v1 : Int32) (v2 : Int32) (v3 : Int32) (v4 : Int32) (v5 : Int32) (v6 : Int32) (v7 : Int32) (mm : zMem) : Option (Nat × Int32 × Int32 × Int32 × Int32 × Int32 × Int32 × Int32 × zMem) := match fuel with
  | 0 => none
  | fu + 1 => (if v2 ≤ v7 then some (v0, v1, v2, v3, v4, v5, v6, v7, mm) else (if v4 ≤ v6 then some (v0, v1, v2, v3, v4, v5, v6, v7, mm) else zoS (sh v0) 4 (fun le5 => Option.bind (F_XPacker_filtered sh mm v0 v5 v7 v1 v2) (fun p6 => zoL (v6 + (zx_min (p6.1) (256 - p6.1))) (fun x8 => L_XPacker_bestFilter_21 sh fu v0 v1 v2 v3 v4 v5 x8 (v7 + 1) (p6.2))))))
set_option maxHeartbeats 4000000 in
set_option maxRecDepth 100000 in
theorem lp_XPacker_bestFilter_21 {p : Program} {l : Launch} {e : Env} {s : State} {m : MethodId} {args : Array Value} {below : List Frame} {meth : Method} {c : Code} {D : va_G} {tA : Nat → ClassId} {b n : Nat} {post : Option Value → zV → Nat → Prop} {sh : zSh} (F : zF p s m args meth c zb_XPacker_bestFilter 9 "OrreryBox$Packer" D tA b) : ∀ (fuel : Nat) (v0 : Nat) (v1 : Int32) (v2 : Int32) (v3 : Int32) (v4 : Int32) (v5 : Int32) (v6 : Int32) (v7 : Int32) (mm : zMem) (r : Nat × Int32 × Int32 × Int32 × Int32 × Int32 × Int32 × Int32 × zMem), L_XPacker_bestFilter_21 sh fuel v0 v1 v2 v3 v4 v5 v6 v7 mm = some r → (Z p l e { frames := 4, cells := 0, slots := 0, locals := 96 } s m args below meth c D b 9 (MQ below (zQ D b post) args s 0 0 (fun q => b ≤ q)) (zW tA b sh r.2.2.2.2.2.2.2.2) n 0 0 68 [(0, .ref (b + (r.1))), (1, .int (r.2.1)), (2, .int (r.2.2.1)), (3, .int (r.2.2.2.1)), (4, .int (r.2.2.2.2.1)), (5, .int (r.2.2.2.2.2.1)), (6, .int (r.2.2.2.2.2.2.1)), (7, .int (r.2.2.2.2.2.2.2.1))] []) → Z p l e { frames := 4, cells := 0, slots := 0, locals := 96 } s m args below meth c D b 9 (MQ below (zQ D b post) args s 0 0 (fun q => b ≤ q)) (zW tA b sh mm) n 0 0 21 [(0, .ref (b + v0)), (1, .int v1), (2, .int v2), (3, .int v3), (4, .int v4), (5, .int v5), (6, .int v6), (7, .int v7)] [] := by
  intro fuel
  induction fuel with
  | zero =>
    intro v0 v1 v2 v3 v4 v5 v6 v7 mm r h
    cases h
  | succ fu ih =>
    intro v0 v1 v2 v3 v4 v5 v6 v7 mm r h hx0
    rw [L_XPacker_bestFilter_21] at h
    refine zr_iload F zd_XPacker_bestFilter_21 rfl ?_
    refine zr_iload_n F zd_XPacker_bestFilter_23 rfl ?_
    refine zr_pcn 24 rfl ?_
    refine zr_icmp_ge F 68 zd_XPacker_bestFilter_24 (by decide) (fun hb2 => ?_) (fun hb2 => ?_)
    ·
      rw [if_pos hb2] at h
      obtain rfl := Option.some.inj h
      refine zr_loc (L' := [(0, .ref (b + v0)), (1, .int v1), (2, .int v2), (3, .int v3), (4, .int v4), (5, .int v5), (6, .int v6), (7, .int v7)]) ⟨rfl, rfl, rfl, rfl, rfl, rfl, rfl, rfl, trivial⟩ ?_
      exact hx0 
    ·
      rw [if_neg hb2] at h
      refine zr_iload F zd_XPacker_bestFilter_27 rfl ?_
      refine zr_iload F zd_XPacker_bestFilter_29 rfl ?_
      refine zr_icmp_ge F 68 zd_XPacker_bestFilter_31 (by decide) (fun hb3 => ?_) (fun hb3 => ?_)
      ·
        rw [if_pos hb3] at h
        obtain rfl := Option.some.inj h
        refine zr_loc (L' := [(0, .ref (b + v0)), (1, .int v1), (2, .int v2), (3, .int v3), (4, .int v4), (5, .int v5), (6, .int v6), (7, .int v7)]) ⟨rfl, rfl, rfl, rfl, rfl, rfl, rfl, rfl, trivial⟩ ?_
        exact hx0 
      ·
        rw [if_neg hb3] at h
        refine zr_aload_n F zd_XPacker_bestFilter_34 rfl ?_
        refine zr_iload F zd_XPacker_bestFilter_35 rfl ?_
        refine zr_iload F zd_XPacker_bestFilter_37 rfl ?_
        refine zr_iload_n F zd_XPacker_bestFilter_39 rfl ?_
        refine zr_pcn 40 rfl ?_
        refine zr_iload_n F zd_XPacker_bestFilter_40 rfl ?_
        obtain ⟨le5, hs4, h⟩ := zoS_s h
        obtain ⟨p6, ep6, h⟩ := zoB_s h
        refine zr_callV1 F (k_XPacker_filtered l D tA b sh _ ep6) zd_XPacker_bestFilter_41 (zW_o hs4 (by decide)) rfl zs_XPacker_77 rfl zq_XPacker_filtered rfl rfl ⟨(Nat.le_of_ble_eq_true rfl), (Nat.le_of_ble_eq_true rfl)⟩ (Nat.le_of_ble_eq_true rfl) ⟨(Nat.le_of_ble_eq_true rfl), (Nat.le_of_ble_eq_true rfl)⟩ ?_
        refine zr_istore F zd_XPacker_bestFilter_44 (by decide) ?_
        refine zr_iload F zd_XPacker_bestFilter_46 rfl ?_
        refine zr_iload F zd_XPacker_bestFilter_48 rfl ?_
        refine zr_sipushv (v := 256) F zd_XPacker_bestFilter_50 (by decide) ?_
        refine zr_iload F zd_XPacker_bestFilter_53 rfl ?_
        refine zr_isub F zd_XPacker_bestFilter_55 ?_
        refine zr_pcn 56 rfl ?_
        refine zr_callS1 F (c_JMath_min l D tA b _ _ (p6.1) (256 - p6.1)) zd_XPacker_bestFilter_56 zs_XPacker_82 zq_JMath_min rfl rfl ⟨(Nat.le_of_ble_eq_true rfl), (Nat.le_of_ble_eq_true rfl)⟩ (Nat.le_of_ble_eq_true rfl) ⟨(Nat.le_of_ble_eq_true rfl), (Nat.le_of_ble_eq_true rfl)⟩ ?_
        refine zr_iadd F zd_XPacker_bestFilter_59 ?_
        obtain ⟨x8, ex8, h⟩ := zoL_s h
        rw [← ex8]
        refine zr_istore F zd_XPacker_bestFilter_60 (by decide) ?_
        refine zr_iinc (v := (v7 + 1)) F zd_XPacker_bestFilter_62 rfl rfl (by decide) ?_
        refine zr_goto F 21 zd_XPacker_bestFilter_65 (by decide) ?_
        refine zr_loc (L' := [(0, .ref (b + v0)), (1, .int v1), (2, .int v2), (3, .int v3), (4, .int v4), (5, .int v5), (6, .int x8), (7, .int (v7 + 1))]) ⟨rfl, rfl, rfl, rfl, rfl, rfl, rfl, rfl, trivial⟩ ?_
        exact ih _ _ _ _ _ _ _ _ _ _ h hx0
def L_XPacker_bestFilter_9 (sh : zSh) (fuel : Nat) (v0 : Nat) (v1 : Int32) (v2 : Int32) (v3 : Int32) (v4 : Int32) (v5 : Int32) (mm : zMem) : Option (Nat × Int32 × Int32 × Int32 × Int32 × Int32 × zMem) := match fuel with
  | 0 => none
  | fu + 1 => (if 5 ≤ v5 then some (v0, v1, v2, v3, v4, v5, mm) else Option.bind (L_XPacker_bestFilter_21 sh zfuel v0 v1 v2 v3 v4 v5 0 0 mm) (fun q9 => (if q9.2.2.2.2.1 ≤ q9.2.2.2.2.2.2.1 then L_XPacker_bestFilter_9 sh fu (q9.1) (q9.2.1) (q9.2.2.1) (q9.2.2.2.1) (q9.2.2.2.2.1) (q9.2.2.2.2.2.1 + 1) (q9.2.2.2.2.2.2.2.2) else L_XPacker_bestFilter_9 sh fu (q9.1) (q9.2.1) (q9.2.2.1) (q9.2.2.2.2.2.1) (q9.2.2.2.2.2.2.1) (q9.2.2.2.2.2.1 + 1) (q9.2.2.2.2.2.2.2.2))))
set_option maxHeartbeats 4000000 in
set_option maxRecDepth 100000 in
theorem lp_XPacker_bestFilter_9 {p : Program} {l : Launch} {e : Env} {s : State} {m : MethodId} {args : Array Value} {below : List Frame} {meth : Method} {c : Code} {D : va_G} {tA : Nat → ClassId} {b n : Nat} {post : Option Value → zV → Nat → Prop} {sh : zSh} (F : zF p s m args meth c zb_XPacker_bestFilter 9 "OrreryBox$Packer" D tA b) : ∀ (fuel : Nat) (v0 : Nat) (v1 : Int32) (v2 : Int32) (v3 : Int32) (v4 : Int32) (v5 : Int32) (mm : zMem) (r : Nat × Int32 × Int32 × Int32 × Int32 × Int32 × zMem), L_XPacker_bestFilter_9 sh fuel v0 v1 v2 v3 v4 v5 mm = some r → (Z p l e { frames := 4, cells := 0, slots := 0, locals := 96 } s m args below meth c D b 9 (MQ below (zQ D b post) args s 0 0 (fun q => b ≤ q)) (zW tA b sh r.2.2.2.2.2.2) n 0 0 88 [(0, .ref (b + (r.1))), (1, .int (r.2.1)), (2, .int (r.2.2.1)), (3, .int (r.2.2.2.1)), (4, .int (r.2.2.2.2.1)), (5, .int (r.2.2.2.2.2.1))] []) → Z p l e { frames := 4, cells := 0, slots := 0, locals := 96 } s m args below meth c D b 9 (MQ below (zQ D b post) args s 0 0 (fun q => b ≤ q)) (zW tA b sh mm) n 0 0 9 [(0, .ref (b + v0)), (1, .int v1), (2, .int v2), (3, .int v3), (4, .int v4), (5, .int v5)] [] := by
  intro fuel
  induction fuel with
  | zero =>
    intro v0 v1 v2 v3 v4 v5 mm r h
    cases h
  | succ fu ih =>
    intro v0 v1 v2 v3 v4 v5 mm r h hx0
    rw [L_XPacker_bestFilter_9] at h
    refine zr_iload F zd_XPacker_bestFilter_9 rfl ?_
    refine zr_pcn 11 rfl ?_
    refine zr_iconstv (v := 5) F zd_XPacker_bestFilter_11 (by decide) ?_
    refine zr_icmp_ge F 88 zd_XPacker_bestFilter_12 (by decide) (fun hb1 => ?_) (fun hb1 => ?_)
    ·
      rw [if_pos hb1] at h
      obtain rfl := Option.some.inj h
      refine zr_loc (L' := [(0, .ref (b + v0)), (1, .int v1), (2, .int v2), (3, .int v3), (4, .int v4), (5, .int v5)]) ⟨rfl, rfl, rfl, rfl, rfl, rfl, trivial⟩ ?_
      exact hx0 
    ·
      rw [if_neg hb1] at h
      refine zr_iconstv (v := 0) F zd_XPacker_bestFilter_15 (by decide) ?_
      refine zr_istore F zd_XPacker_bestFilter_16 (by decide) ?_
      refine zr_iconstv (v := 0) F zd_XPacker_bestFilter_18 (by decide) ?_
      refine zr_istore F zd_XPacker_bestFilter_19 (by decide) ?_
      obtain ⟨q9, eq9, h⟩ := zoB_s h
      refine zr_loc (L' := [(0, .ref (b + v0)), (1, .int v1), (2, .int v2), (3, .int v3), (4, .int v4), (5, .int v5), (6, .int 0), (7, .int 0)]) ⟨rfl, rfl, rfl, rfl, rfl, rfl, rfl, rfl, trivial⟩ ?_
      refine lp_XPacker_bestFilter_21 F _ _ _ _ _ _ _ _ _ _ _ eq9 ?_
      ·
        refine zr_iload F zd_XPacker_bestFilter_68 rfl ?_
        refine zr_iload F zd_XPacker_bestFilter_70 rfl ?_
        refine zr_icmp_ge F 82 zd_XPacker_bestFilter_72 (by decide) (fun hb10 => ?_) (fun hb10 => ?_)
        ·
          rw [if_pos hb10] at h
          refine zr_pcn 82 rfl ?_
          refine zr_iinc (v := (q9.2.2.2.2.2.1 + 1)) F zd_XPacker_bestFilter_82 rfl rfl (by decide) ?_
          refine zr_goto F 9 zd_XPacker_bestFilter_85 (by decide) ?_
          refine zr_loc (L' := [(0, .ref (b + (q9.1))), (1, .int (q9.2.1)), (2, .int (q9.2.2.1)), (3, .int (q9.2.2.2.1)), (4, .int (q9.2.2.2.2.1)), (5, .int (q9.2.2.2.2.2.1 + 1))]) ⟨rfl, rfl, rfl, rfl, rfl, rfl, trivial⟩ ?_
          exact ih _ _ _ _ _ _ _ _ h hx0
        ·
          rw [if_neg hb10] at h
          refine zr_iload F zd_XPacker_bestFilter_75 rfl ?_
          refine zr_istore F zd_XPacker_bestFilter_77 (by decide) ?_
          refine zr_iload F zd_XPacker_bestFilter_79 rfl ?_
          refine zr_istore_n F zd_XPacker_bestFilter_81 (by decide) ?_
          refine zr_iinc (v := (q9.2.2.2.2.2.1 + 1)) F zd_XPacker_bestFilter_82 rfl rfl (by decide) ?_
          refine zr_goto F 9 zd_XPacker_bestFilter_85 (by decide) ?_
          refine zr_loc (L' := [(0, .ref (b + (q9.1))), (1, .int (q9.2.1)), (2, .int (q9.2.2.1)), (3, .int (q9.2.2.2.2.2.1)), (4, .int (q9.2.2.2.2.2.2.1)), (5, .int (q9.2.2.2.2.2.1 + 1))]) ⟨rfl, rfl, rfl, rfl, rfl, rfl, trivial⟩ ?_
          exact ih _ _ _ _ _ _ _ _ h hx0
def F_XPacker_bestFilter (sh : zSh) (mm : zMem) (o : Nat) (x0_ : Int32) (x1_ : Int32) : Option (Int32 × zMem) := Option.bind (L_XPacker_bestFilter_9 sh zfuel o x0_ x1_ 0 1769472 0 mm) (fun q11 => some (q11.2.2.2.1, q11.2.2.2.2.2.2))
set_option maxHeartbeats 4000000 in
set_option maxRecDepth 100000 in
theorem k_XPacker_bestFilter (l : Launch) (D : va_G) (tA : Nat → ClassId) (b : Nat) (sh : zSh) (n : Nat) {mm : zMem} {o : Nat} {x0_ : Int32} {x1_ : Int32} {r : (Int32 × zMem)} (h : F_XPacker_bestFilter sh mm o x0_ x1_ = some r) : zM l D tA b zy_XPacker_bestFilter zb_XPacker_bestFilter 9 (some .int) 4 96 0 0 [.ref (b + o), .int x0_, .int x1_] (zW tA b sh mm) n (zE (some (.int (r.1))) (zW tA b sh r.2) n) := by
  unfold F_XPacker_bestFilter at h
  refine zM_of (own := "OrreryBox$Packer") (plainFor_of_name (by decide)) rfl (Nat.le_of_ble_eq_true rfl) (fun p e s m below meth c F hr hin hH => ?_)
  refine zr_iconstv (v := 0) F zd_XPacker_bestFilter_0 (by decide) ?_
  refine zr_istore_n F zd_XPacker_bestFilter_1 (by decide) ?_
  refine zr_ldc F zd_XPacker_bestFilter_2 zw_920 ?_
  refine zr_istore F zd_XPacker_bestFilter_4 (by decide) ?_
  refine zr_iconstv (v := 0) F zd_XPacker_bestFilter_6 (by decide) ?_
  refine zr_istore F zd_XPacker_bestFilter_7 (by decide) ?_
  obtain ⟨q11, eq11, h⟩ := zoB_s h
  refine zr_loc (L' := [(0, .ref (b + o)), (1, .int x0_), (2, .int x1_), (3, .int 0), (4, .int 1769472), (5, .int 0)]) ⟨rfl, rfl, rfl, rfl, rfl, rfl, trivial⟩ ?_
  refine lp_XPacker_bestFilter_9 F _ _ _ _ _ _ _ _ _ eq11 ?_
  ·
    refine zr_pcn 88 rfl ?_
    refine zr_iload_n F zd_XPacker_bestFilter_88 rfl ?_
    obtain rfl := Option.some.inj h
    exact zr_iret F hr zd_XPacker_bestFilter_89 (Nat.le_of_ble_eq_true rfl) (Nat.le_of_ble_eq_true rfl) ⟨rfl, rfl, rfl⟩
