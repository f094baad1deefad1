abbrev zb_XPacker_putDistance : ByteArray := prog_5_method_22_code
def zy_XPacker_putDistance : MethodName := ⟨"OrreryBox$Packer", "putDistance", "(I)V"⟩
theorem zc_XPacker_putDistance : Cond.code zy_XPacker_putDistance zb_XPacker_putDistance 4 none ∈ gw := gw_t 1047 (by decide +kernel) rfl
theorem zq_XPacker_putDistance : zy_XPacker_putDistance.cls ≠ "java/lang/invoke/MethodHandle" ∧ zy_XPacker_putDistance.cls ≠ "java/lang/invoke/VarHandle" ∧ (parseMethodDescriptor zy_XPacker_putDistance.desc).map (fun d => d.parameters.length) = some 1 := by decide +kernel
theorem zd_XPacker_putDistance_0 : decode zb_XPacker_putDistance 0 = .ok (.iload_n 1, 1) := by decide +kernel
theorem zd_XPacker_putDistance_1 : decode zb_XPacker_putDistance 1 = .ok (.iconst 5, 1) := by decide +kernel
theorem zd_XPacker_putDistance_2 : decode zb_XPacker_putDistance 2 = .ok (.if_icmp .ge 12, 3) := by decide +kernel
theorem zd_XPacker_putDistance_5 : decode zb_XPacker_putDistance 5 = .ok (.aload_n 0, 1) := by decide +kernel
theorem zd_XPacker_putDistance_6 : decode zb_XPacker_putDistance 6 = .ok (.iload_n 1, 1) := by decide +kernel
theorem zd_XPacker_putDistance_7 : decode zb_XPacker_putDistance 7 = .ok (.iconst 1, 1) := by decide +kernel
theorem zd_XPacker_putDistance_8 : decode zb_XPacker_putDistance 8 = .ok (.isub, 1) := by decide +kernel
theorem zd_XPacker_putDistance_9 : decode zb_XPacker_putDistance 9 = .ok (.iconst 5, 1) := by decide +kernel
theorem zd_XPacker_putDistance_10 : decode zb_XPacker_putDistance 10 = .ok (.invokevirtual 148, 3) := by decide +kernel
theorem zd_XPacker_putDistance_13 : decode zb_XPacker_putDistance 13 = .ok (.return_, 1) := by decide +kernel
theorem zd_XPacker_putDistance_14 : decode zb_XPacker_putDistance 14 = .ok (.iconst 1, 1) := by decide +kernel
theorem zd_XPacker_putDistance_15 : decode zb_XPacker_putDistance 15 = .ok (.istore_n 2, 1) := by decide +kernel
theorem zd_XPacker_putDistance_16 : decode zb_XPacker_putDistance 16 = .ok (.iconst 5, 1) := by decide +kernel
theorem zd_XPacker_putDistance_17 : decode zb_XPacker_putDistance 17 = .ok (.istore_n 3, 1) := by decide +kernel
theorem zd_XPacker_putDistance_18 : decode zb_XPacker_putDistance 18 = .ok (.iload_n 2, 1) := by decide +kernel
theorem zd_XPacker_putDistance_19 : decode zb_XPacker_putDistance 19 = .ok (.bipush 13, 2) := by decide +kernel
theorem zd_XPacker_putDistance_21 : decode zb_XPacker_putDistance 21 = .ok (.if_icmp .ge 24, 3) := by decide +kernel
theorem zd_XPacker_putDistance_24 : decode zb_XPacker_putDistance 24 = .ok (.iload_n 1, 1) := by decide +kernel
theorem zd_XPacker_putDistance_25 : decode zb_XPacker_putDistance 25 = .ok (.iload_n 3, 1) := by decide +kernel
theorem zd_XPacker_putDistance_26 : decode zb_XPacker_putDistance 26 = .ok (.iconst 2, 1) := by decide +kernel
theorem zd_XPacker_putDistance_27 : decode zb_XPacker_putDistance 27 = .ok (.iload_n 2, 1) := by decide +kernel
theorem zd_XPacker_putDistance_28 : decode zb_XPacker_putDistance 28 = .ok (.ishl, 1) := by decide +kernel
theorem zd_XPacker_putDistance_29 : decode zb_XPacker_putDistance 29 = .ok (.iadd, 1) := by decide +kernel
theorem zd_XPacker_putDistance_30 : decode zb_XPacker_putDistance 30 = .ok (.if_icmp .lt 15, 3) := by decide +kernel
theorem zd_XPacker_putDistance_33 : decode zb_XPacker_putDistance 33 = .ok (.iload_n 3, 1) := by decide +kernel
theorem zd_XPacker_putDistance_34 : decode zb_XPacker_putDistance 34 = .ok (.iconst 2, 1) := by decide +kernel
theorem zd_XPacker_putDistance_35 : decode zb_XPacker_putDistance 35 = .ok (.iload_n 2, 1) := by decide +kernel
theorem zd_XPacker_putDistance_36 : decode zb_XPacker_putDistance 36 = .ok (.ishl, 1) := by decide +kernel
theorem zd_XPacker_putDistance_37 : decode zb_XPacker_putDistance 37 = .ok (.iadd, 1) := by decide +kernel
theorem zd_XPacker_putDistance_38 : decode zb_XPacker_putDistance 38 = .ok (.istore_n 3, 1) := by decide +kernel
theorem zd_XPacker_putDistance_39 : decode zb_XPacker_putDistance 39 = .ok (.iinc 2 1, 3) := by decide +kernel
theorem zd_XPacker_putDistance_42 : decode zb_XPacker_putDistance 42 = .ok (.goto (-24), 3) := by decide +kernel
theorem zd_XPacker_putDistance_45 : decode zb_XPacker_putDistance 45 = .ok (.aload_n 0, 1) := by decide +kernel
theorem zd_XPacker_putDistance_46 : decode zb_XPacker_putDistance 46 = .ok (.iconst 2, 1) := by decide +kernel
theorem zd_XPacker_putDistance_47 : decode zb_XPacker_putDistance 47 = .ok (.iconst 2, 1) := by decide +kernel
theorem zd_XPacker_putDistance_48 : decode zb_XPacker_putDistance 48 = .ok (.iload_n 2, 1) := by decide +kernel
theorem zd_XPacker_putDistance_49 : decode zb_XPacker_putDistance 49 = .ok (.imul, 1) := by decide +kernel
theorem zd_XPacker_putDistance_50 : decode zb_XPacker_putDistance 50 = .ok (.iadd, 1) := by decide +kernel
theorem zd_XPacker_putDistance_51 : decode zb_XPacker_putDistance 51 = .ok (.iload_n 1, 1) := by decide +kernel
theorem zd_XPacker_putDistance_52 : decode zb_XPacker_putDistance 52 = .ok (.iload_n 3, 1) := by decide +kernel
theorem zd_XPacker_putDistance_53 : decode zb_XPacker_putDistance 53 = .ok (.isub, 1) := by decide +kernel
theorem zd_XPacker_putDistance_54 : decode zb_XPacker_putDistance 54 = .ok (.iload_n 2, 1) := by decide +kernel
theorem zd_XPacker_putDistance_55 : decode zb_XPacker_putDistance 55 = .ok (.ishr, 1) := by decide +kernel
theorem zd_XPacker_putDistance_56 : decode zb_XPacker_putDistance 56 = .ok (.iadd, 1) := by decide +kernel
theorem zd_XPacker_putDistance_57 : decode zb_XPacker_putDistance 57 = .ok (.iconst 5, 1) := by decide +kernel
theorem zd_XPacker_putDistance_58 : decode zb_XPacker_putDistance 58 = .ok (.invokevirtual 148, 3) := by decide +kernel
theorem zd_XPacker_putDistance_61 : decode zb_XPacker_putDistance 61 = .ok (.aload_n 0, 1) := by decide +kernel
theorem zd_XPacker_putDistance_62 : decode zb_XPacker_putDistance 62 = .ok (.iload_n 1, 1) := by decide +kernel
theorem zd_XPacker_putDistance_63 : decode zb_XPacker_putDistance 63 = .ok (.iload_n 3, 1) := by decide +kernel
theorem zd_XPacker_putDistance_64 : decode zb_XPacker_putDistance 64 = .ok (.isub, 1) := by decide +kernel
theorem zd_XPacker_putDistance_65 : decode zb_XPacker_putDistance 65 = .ok (.iload_n 2, 1) := by decide +kernel
theorem zd_XPacker_putDistance_66 : decode zb_XPacker_putDistance 66 = .ok (.invokevirtual 118, 3) := by decide +kernel
theorem zd_XPacker_putDistance_69 : decode zb_XPacker_putDistance 69 = .ok (.return_, 1) := by decide +kernel
def L_XPacker_putDistance_18 (sh : zSh) (fuel : Nat) (v0 : Nat) (v1 : Int32) (v2 : Int32) (v3 : Int32) (mm : zMem) : Option (Nat × Int32 × Int32 × Int32 × zMem) := match fuel with
  | 0 => none
  | fu + 1 => (if 13 ≤ v2 then some (v0, v1, v2, v3, mm) else (if v1 < (v3 + (2 <<< (v2 &&& 31))) then some (v0, v1, v2, v3, mm) else zoL (v3 + (2 <<< (v2 &&& 31))) (fun x4 => L_XPacker_putDistance_18 sh fu v0 v1 (v2 + 1) x4 mm)))
set_option maxHeartbeats 4000000 in
set_option maxRecDepth 100000 in
theorem lp_XPacker_putDistance_18 {p : Program} {l : Launch} {e : Env} {s : State} {m : MethodId} {args : Array Value} {below : List Frame} {meth : Method} {c : Code} {D : va_G} {tA : Nat → ClassId} {b n : Nat} {post : Option Value → zV → Nat → Prop} {sh : zSh} (F : zF p s m args meth c zb_XPacker_putDistance 4 "OrreryBox$Packer" D tA b) : ∀ (fuel : Nat) (v0 : Nat) (v1 : Int32) (v2 : Int32) (v3 : Int32) (mm : zMem) (r : Nat × Int32 × Int32 × Int32 × zMem), L_XPacker_putDistance_18 sh fuel v0 v1 v2 v3 mm = some r → (Z p l e { frames := 2, cells := 0, slots := 0, locals := 44 } s m args below meth c D b 4 (MQ below (zQ D b post) args s 0 0 (fun q => b ≤ q)) (zW tA b sh r.2.2.2.2) n 0 0 45 [(0, .ref (b + (r.1))), (1, .int (r.2.1)), (2, .int (r.2.2.1)), (3, .int (r.2.2.2.1))] []) → Z p l e { frames := 2, cells := 0, slots := 0, locals := 44 } s m args below meth c D b 4 (MQ below (zQ D b post) args s 0 0 (fun q => b ≤ q)) (zW tA b sh mm) n 0 0 18 [(0, .ref (b + v0)), (1, .int v1), (2, .int v2), (3, .int v3)] [] := by
  intro fuel
  induction fuel with
  | zero =>
    intro v0 v1 v2 v3 mm r h
    cases h
  | succ fu ih =>
    intro v0 v1 v2 v3 mm r h hx0
    rw [L_XPacker_putDistance_18] at h
    refine zr_pcn 18 rfl ?_
    refine zr_iload_n F zd_XPacker_putDistance_18 rfl ?_
    refine zr_bipushv (v := 13) F zd_XPacker_putDistance_19 (by decide) ?_
    refine zr_icmp_ge F 45 zd_XPacker_putDistance_21 (by decide) (fun hb2 => ?_) (fun hb2 => ?_)
    ·
      rw [if_pos hb2] at h
      obtain rfl := Option.some.inj h
      refine zr_loc (L' := [(0, .ref (b + v0)), (1, .int v1), (2, .int v2), (3, .int v3)]) ⟨rfl, rfl, rfl, rfl, trivial⟩ ?_
      exact hx0 
    ·
      rw [if_neg hb2] at h
      refine zr_iload_n F zd_XPacker_putDistance_24 rfl ?_
      refine zr_iload_n F zd_XPacker_putDistance_25 rfl ?_
      refine zr_iconstv (v := 2) F zd_XPacker_putDistance_26 (by decide) ?_
      refine zr_iload_n F zd_XPacker_putDistance_27 rfl ?_
      refine zr_ishl F zd_XPacker_putDistance_28 ?_
      refine zr_pcn 29 rfl ?_
      refine zr_iadd F zd_XPacker_putDistance_29 ?_
      refine zr_icmp_lt F 45 zd_XPacker_putDistance_30 (by decide) (fun hb3 => ?_) (fun hb3 => ?_)
      ·
        rw [if_pos hb3] at h
        obtain rfl := Option.some.inj h
        refine zr_loc (L' := [(0, .ref (b + v0)), (1, .int v1), (2, .int v2), (3, .int v3)]) ⟨rfl, rfl, rfl, rfl, trivial⟩ ?_
        exact hx0 
      ·
        rw [if_neg hb3] at h
        refine zr_iload_n F zd_XPacker_putDistance_33 rfl ?_
        refine zr_iconstv (v := 2) F zd_XPacker_putDistance_34 (by decide) ?_
        refine zr_iload_n F zd_XPacker_putDistance_35 rfl ?_
        refine zr_ishl F zd_XPacker_putDistance_36 ?_
        refine zr_iadd F zd_XPacker_putDistance_37 ?_
        obtain ⟨x4, ex4, h⟩ := zoL_s h
        rw [← ex4]
        refine zr_istore_n F zd_XPacker_putDistance_38 (by decide) ?_
        refine zr_pcn 39 rfl ?_
        refine zr_iinc (v := (v2 + 1)) F zd_XPacker_putDistance_39 rfl rfl (by decide) ?_
        refine zr_goto F 18 zd_XPacker_putDistance_42 (by decide) ?_
        refine zr_loc (L' := [(0, .ref (b + v0)), (1, .int v1), (2, .int (v2 + 1)), (3, .int x4)]) ⟨rfl, rfl, rfl, rfl, trivial⟩ ?_
        exact ih _ _ _ _ _ _ h hx0
def F_XPacker_putDistance (sh : zSh) (mm : zMem) (o : Nat) (x0_ : Int32) : Option zMem := (if 5 ≤ x0_ then Option.bind (L_XPacker_putDistance_18 sh zfuel o x0_ 1 5 mm) (fun q5 => zoS (sh (q5.1)) 4 (fun le7 => zoL ((2 + (2 * q5.2.2.1)) + ((q5.2.1 - q5.2.2.2.1) >>> (q5.2.2.1 &&& 31))) (fun x8 => Option.bind (F_XPacker_putHighFirst sh (q5.2.2.2.2) (q5.1) x8 5) (fun p9 => zoS (sh (q5.1)) 4 (fun le11 => Option.bind (F_XPacker_putLowFirst sh p9 (q5.1) (q5.2.1 - q5.2.2.2.1) (q5.2.2.1)) (fun p12 => some p12)))))) else zoS (sh o) 4 (fun le14 => Option.bind (F_XPacker_putHighFirst sh mm o (x0_ - 1) 5) (fun p15 => some p15)))
set_option maxHeartbeats 4000000 in
set_option maxRecDepth 100000 in
theorem k_XPacker_putDistance (l : Launch) (D : va_G) (tA : Nat → ClassId) (b : Nat) (sh : zSh) (n : Nat) {mm : zMem} {o : Nat} {x0_ : Int32} {r : zMem} (h : F_XPacker_putDistance sh mm o x0_ = some r) : zM l D tA b zy_XPacker_putDistance zb_XPacker_putDistance 4 none 2 44 0 0 [.ref (b + o), .int x0_] (zW tA b sh mm) n (zE none (zW tA b sh r) n) := by
  unfold F_XPacker_putDistance at h
  refine zM_of (own := "OrreryBox$Packer") (plainFor_of_name (by decide)) rfl (Nat.le_of_ble_eq_true rfl) (fun p e s m below meth c F hr hin hH => ?_)
  refine zr_iload_n F zd_XPacker_putDistance_0 rfl ?_
  refine zr_iconstv (v := 5) F zd_XPacker_putDistance_1 (by decide) ?_
  refine zr_icmp_ge F 14 zd_XPacker_putDistance_2 (by decide) (fun hb1 => ?_) (fun hb1 => ?_)
  ·
    rw [if_pos hb1] at h
    refine zr_iconstv (v := 1) F zd_XPacker_putDistance_14 (by decide) ?_
    refine zr_istore_n F zd_XPacker_putDistance_15 (by decide) ?_
    refine zr_iconstv (v := 5) F zd_XPacker_putDistance_16 (by decide) ?_
    refine zr_istore_n F zd_XPacker_putDistance_17 (by decide) ?_
    obtain ⟨q5, eq5, h⟩ := zoB_s h
    refine zr_loc (L' := [(0, .ref (b + o)), (1, .int x0_), (2, .int 1), (3, .int 5)]) ⟨rfl, rfl, rfl, rfl, trivial⟩ ?_
    refine lp_XPacker_putDistance_18 F _ _ _ _ _ _ _ eq5 ?_
    ·
      refine zr_aload_n F zd_XPacker_putDistance_45 rfl ?_
      refine zr_iconstv (v := 2) F zd_XPacker_putDistance_46 (by decide) ?_
      refine zr_iconstv (v := 2) F zd_XPacker_putDistance_47 (by decide) ?_
      refine zr_iload_n F zd_XPacker_putDistance_48 rfl ?_
      refine zr_imul F zd_XPacker_putDistance_49 ?_
      refine zr_iadd F zd_XPacker_putDistance_50 ?_
      refine zr_pcn 51 rfl ?_
      refine zr_iload_n F zd_XPacker_putDistance_51 rfl ?_
      refine zr_iload_n F zd_XPacker_putDistance_52 rfl ?_
      refine zr_isub F zd_XPacker_putDistance_53 ?_
      refine zr_iload_n F zd_XPacker_putDistance_54 rfl ?_
      refine zr_ishr F zd_XPacker_putDistance_55 ?_
      refine zr_iadd F zd_XPacker_putDistance_56 ?_
      refine zr_iconstv (v := 5) F zd_XPacker_putDistance_57 (by decide) ?_
      obtain ⟨le7, hs6, h⟩ := zoS_s h
      obtain ⟨x8, ex8, h⟩ := zoL_s h
      rw [← ex8]
      obtain ⟨p9, ep9, h⟩ := zoB_s h
      refine zr_callV0 F (k_XPacker_putHighFirst l D tA b sh _ ep9) zd_XPacker_putDistance_58 (zW_o hs6 (by decide)) rfl zs_XPacker_148 rfl zq_XPacker_putHighFirst rfl rfl ⟨(Nat.le_of_ble_eq_true rfl), (Nat.le_of_ble_eq_true rfl)⟩ (Nat.le_of_ble_eq_true rfl) ⟨(Nat.le_of_ble_eq_true rfl), (Nat.le_of_ble_eq_true rfl)⟩ ?_
      refine zr_pcn 61 rfl ?_
      refine zr_aload_n F zd_XPacker_putDistance_61 rfl ?_
      refine zr_iload_n F zd_XPacker_putDistance_62 rfl ?_
      refine zr_iload_n F zd_XPacker_putDistance_63 rfl ?_
      refine zr_isub F zd_XPacker_putDistance_64 ?_
      refine zr_iload_n F zd_XPacker_putDistance_65 rfl ?_
      obtain ⟨le11, hs10, h⟩ := zoS_s h
      obtain ⟨p12, ep12, h⟩ := zoB_s h
      refine zr_callV0 F (k_XPacker_putLowFirst l D tA b sh _ ep12) zd_XPacker_putDistance_66 (zW_o hs10 (by decide)) rfl zs_XPacker_118 rfl zq_XPacker_putLowFirst rfl rfl ⟨(Nat.le_of_ble_eq_true rfl), (Nat.le_of_ble_eq_true rfl)⟩ (Nat.le_of_ble_eq_true rfl) ⟨(Nat.le_of_ble_eq_true rfl), (Nat.le_of_ble_eq_true rfl)⟩ ?_
      obtain rfl := Option.some.inj h
      exact zr_vret F hr zd_XPacker_putDistance_69 (Nat.le_of_ble_eq_true rfl) (Nat.le_of_ble_eq_true rfl) ⟨rfl, rfl, rfl⟩
  ·
    rw [if_neg hb1] at h
    refine zr_aload_n F zd_XPacker_putDistance_5 rfl ?_
    refine zr_pcn 6 rfl ?_
    refine zr_iload_n F zd_XPacker_putDistance_6 rfl ?_
    refine zr_iconstv (v := 1) F zd_XPacker_putDistance_7 (by decide) ?_
    refine zr_isub F zd_XPacker_putDistance_8 ?_
    refine zr_iconstv (v := 5) F zd_XPacker_putDistance_9 (by decide) ?_
    obtain ⟨le14, hs13, h⟩ := zoS_s h
    obtain ⟨p15, ep15, h⟩ := zoB_s h
    refine zr_callV0 F (k_XPacker_putHighFirst l D tA b sh _ ep15) zd_XPacker_putDistance_10 (zW_o hs13 (by decide)) rfl zs_XPacker_148 rfl zq_XPacker_putHighFirst rfl rfl ⟨(Nat.le_of_ble_eq_true rfl), (Nat.le_of_ble_eq_true rfl)⟩ (Nat.le_of_ble_eq_true rfl) ⟨(Nat.le_of_ble_eq_true rfl), (Nat.le_of_ble_eq_true rfl)⟩ ?_
    obtain rfl := Option.some.inj h
    exact zr_vret F hr zd_XPacker_putDistance_13 (Nat.le_of_ble_eq_true rfl) (Nat.le_of_ble_eq_true rfl) ⟨rfl, rfl, rfl⟩
abbrev zb_XReader_number : ByteArray := prog_8_method_12_code
def zy_XReader_number : MethodName := ⟨"OrreryBox$Reader", "number", "(Ljava/lang/String;II)I"⟩
theorem zc_XReader_number : Cond.code zy_XReader_number zb_XReader_number 4 (some .int) ∈ gw := gw_t 1210 (by decide +kernel) rfl
theorem zq_XReader_number : zy_XReader_number.cls ≠ "java/lang/invoke/MethodHandle" ∧ zy_XReader_number.cls ≠ "java/lang/invoke/VarHandle" ∧ (parseMethodDescriptor zy_XReader_number.desc).map (fun d => d.parameters.length) = some 3 := by decide +kernel
theorem zd_XReader_number_0 : decode zb_XReader_number 0 = .ok (.aload_n 0, 1) := by decide +kernel
theorem zd_XReader_number_1 : decode zb_XReader_number 1 = .ok (.aload_n 1, 1) := by decide +kernel
theorem zd_XReader_number_2 : decode zb_XReader_number 2 = .ok (.invokevirtual 61, 3) := by decide +kernel
theorem zd_XReader_number_5 : decode zb_XReader_number 5 = .ok (.aload_n 0, 1) := by decide +kernel
theorem zd_XReader_number_6 : decode zb_XReader_number 6 = .ok (.iload_n 2, 1) := by decide +kernel
theorem zd_XReader_number_7 : decode zb_XReader_number 7 = .ok (.iload_n 3, 1) := by decide +kernel
theorem zd_XReader_number_8 : decode zb_XReader_number 8 = .ok (.invokevirtual 278, 3) := by decide +kernel
theorem zd_XReader_number_11 : decode zb_XReader_number 11 = .ok (.ireturn, 1) := by decide +kernel
theorem zw_1176 : (Jvm.Cond.methodLink "OrreryBox$Reader" (61 : Nat) ({ cls := "OrreryBox$Reader", name := "needName", desc := "(Ljava/lang/String;)V" } : Jvm.MethodName)) ∈ gw := gw_t 1176 (by decide +kernel) rfl
theorem zw_1178 : (Jvm.Cond.instanceMethod ({ cls := "OrreryBox$Reader", name := "needName", desc := "(Ljava/lang/String;)V" } : Jvm.MethodName)) ∈ gw := gw_t 1178 (by decide +kernel) rfl
theorem zv_53 : (Jvm.Cond.selects "OrreryBox$Reader" (⟨"OrreryBox$Reader", "needName", "(Ljava/lang/String;)V"⟩ : MethodName) ⟨"OrreryBox$Reader", "needName", "(Ljava/lang/String;)V"⟩) ∈ gw := gw_s 53 (by decide +kernel) rfl
theorem zs_XReader_61 : zwV "OrreryBox$Reader" 61 "OrreryBox$Reader" zy_XReader_needName zb_XReader_needName 2 none := ⟨zw_1176, zw_1178, zv_53, zw_2, zc_XReader_needName⟩
theorem zw_1191 : (Jvm.Cond.methodLink "OrreryBox$Reader" (278 : Nat) ({ cls := "OrreryBox$Reader", name := "needNumber", desc := "(II)I" } : Jvm.MethodName)) ∈ gw := gw_t 1191 (by decide +kernel) rfl
theorem zw_1193 : (Jvm.Cond.instanceMethod ({ cls := "OrreryBox$Reader", name := "needNumber", desc := "(II)I" } : Jvm.MethodName)) ∈ gw := gw_t 1193 (by decide +kernel) rfl
theorem zv_56 : (Jvm.Cond.selects "OrreryBox$Reader" (⟨"OrreryBox$Reader", "needNumber", "(II)I"⟩ : MethodName) ⟨"OrreryBox$Reader", "needNumber", "(II)I"⟩) ∈ gw := gw_s 56 (by decide +kernel) rfl
theorem zs_XReader_278 : zwV "OrreryBox$Reader" 278 "OrreryBox$Reader" zy_XReader_needNumber zb_XReader_needNumber 6 (some .int) := ⟨zw_1191, zw_1193, zv_56, zw_2, zc_XReader_needNumber⟩
def F_XReader_number (sh : zSh) (mm : zMem) (o : Nat) (x0_ : Nat) (x1_ : Int32) (x2_ : Int32) : Option (Int32 × zMem) := zoS (sh o) 7 (fun le2 => Option.bind (F_XReader_needName sh mm o x0_) (fun p3 => zoS (sh o) 7 (fun le5 => Option.bind (F_XReader_needNumber sh p3 o x1_ x2_) (fun p6 => some (p6.1, p6.2)))))
set_option maxHeartbeats 4000000 in
set_option maxRecDepth 100000 in
theorem k_XReader_number (l : Launch) (D : va_G) (tA : Nat → ClassId) (b : Nat) (sh : zSh) (n : Nat) {mm : zMem} {o : Nat} {x0_ : Nat} {x1_ : Int32} {x2_ : Int32} {r : (Int32 × zMem)} (h : F_XReader_number sh mm o x0_ x1_ x2_ = some r) : zM l D tA b zy_XReader_number zb_XReader_number 4 (some .int) 6 129 0 0 [.ref (b + o), .ref (D.2 1000 x0_), .int x1_, .int x2_] (zW tA b sh mm) n (zE (some (.int (r.1))) (zW tA b sh r.2) n) := by
  unfold F_XReader_number at h
  refine zM_of (own := "OrreryBox$Reader") (plainFor_of_name (by decide)) rfl (Nat.le_of_ble_eq_true rfl) (fun p e s m below meth c F hr hin hH => ?_)
  refine zr_aload_n F zd_XReader_number_0 rfl ?_
  refine zr_aload_n F zd_XReader_number_1 rfl ?_
  obtain ⟨le2, hs1, h⟩ := zoS_s h
  obtain ⟨p3, ep3, h⟩ := zoB_s h
  refine zr_callV0 F (k_XReader_needName l D tA b sh _ ep3) zd_XReader_number_2 (zW_o hs1 (by decide)) rfl zs_XReader_61 rfl zq_XReader_needName rfl rfl ⟨(Nat.le_of_ble_eq_true rfl), (Nat.le_of_ble_eq_true rfl)⟩ (Nat.le_of_ble_eq_true rfl) ⟨(Nat.le_of_ble_eq_true rfl), (Nat.le_of_ble_eq_true rfl)⟩ ?_
  refine zr_aload_n F zd_XReader_number_5 rfl ?_
  refine zr_iload_n F zd_XReader_number_6 rfl ?_
  refine zr_iload_n F zd_XReader_number_7 rfl ?_
  obtain ⟨le5, hs4, h⟩ := zoS_s h
  obtain ⟨p6, ep6, h⟩ := zoB_s h
  refine zr_callV1 F (k_XReader_needNumber l D tA b sh _ ep6) zd_XReader_number_8 (zW_o hs4 (by decide)) rfl zs_XReader_278 rfl zq_XReader_needNumber rfl rfl ⟨(Nat.le_of_ble_eq_true rfl), (Nat.le_of_ble_eq_true rfl)⟩ (Nat.le_of_ble_eq_true rfl) ⟨(Nat.le_of_ble_eq_true rfl), (Nat.le_of_ble_eq_true rfl)⟩ ?_
  refine zr_pcn 11 rfl ?_
  obtain rfl := Option.some.inj h
  exact zr_iret F hr zd_XReader_number_11 (Nat.le_of_ble_eq_true rfl) (Nat.le_of_ble_eq_true rfl) ⟨rfl, rfl, rfl⟩
def T_XReader_number (sh : zSh) (mm : zMem) (o : Nat) (x0_ : Nat) (x1_ : Int32) (x2_ : Int32) : Option zMem := zoS (sh o) 7 (fun le2 => zoX (F_XReader_needName sh mm o x0_) (T_XReader_needName sh mm o x0_) (fun p3 => zoS (sh o) 7 (fun le5 => zoX (F_XReader_needNumber sh p3 o x1_ x2_) (T_XReader_needNumber sh p3 o x1_ x2_) (fun p6 => none))))
set_option maxHeartbeats 4000000 in
set_option maxRecDepth 100000 in
theorem kT_XReader_number (l : Launch) (D : va_G) (tA : Nat → ClassId) (b : Nat) (sh : zSh) (n : Nat) (hl : l.stackTraces = false) {mm : zMem} {o : Nat} {x0_ : Nat} {x1_ : Int32} {x2_ : Int32} {r : zMem} (h : T_XReader_number sh mm o x0_ x1_ x2_ = some r) : zMT l D tA b zy_XReader_number zb_XReader_number 4 (some .int) 8 137 1 6 [.ref (b + o), .ref (D.2 1000 x0_), .int x1_, .int x2_] (zW tA b sh mm) n "java/lang/IllegalArgumentException" (zW tA b sh r) (n + 1) := by
  unfold T_XReader_number at h
  refine zMT_of (own := "OrreryBox$Reader") (plainFor_of_name (by decide)) rfl (Nat.le_of_ble_eq_true rfl) (fun p e s m below meth c F hno hH => ?_)
  refine zr_aload_n F zd_XReader_number_0 rfl ?_
  refine zr_aload_n F zd_XReader_number_1 rfl ?_
  obtain ⟨le2, hs1, h⟩ := zoS_s h
  cases ep3 : F_XReader_needName sh mm o x0_ with
  | none =>
    rw [ep3] at h
    dsimp only [zoX] at h
    exact zr_thrV F hno (kT_XReader_needName l D tA b sh _ hl h) zd_XReader_number_2 (zW_o hs1 (by decide)) rfl zs_XReader_61 rfl zq_XReader_needName rfl rfl ⟨(Nat.le_of_ble_eq_true rfl), (Nat.le_of_ble_eq_true rfl)⟩ (Nat.le_of_ble_eq_true rfl) ⟨(Nat.le_of_ble_eq_true rfl), (Nat.le_of_ble_eq_true rfl)⟩ ⟨(Nat.le_of_ble_eq_true rfl), (Nat.le_of_ble_eq_true rfl)⟩
  | some p3 =>
    rw [ep3] at h
    dsimp only [zoX] at h
    refine zr_callV0 F (k_XReader_needName l D tA b sh _ ep3) zd_XReader_number_2 (zW_o hs1 (by decide)) rfl zs_XReader_61 rfl zq_XReader_needName rfl rfl ⟨(Nat.le_of_ble_eq_true rfl), (Nat.le_of_ble_eq_true rfl)⟩ (Nat.le_of_ble_eq_true rfl) ⟨(Nat.le_of_ble_eq_true rfl), (Nat.le_of_ble_eq_true rfl)⟩ ?_
    refine zr_aload_n F zd_XReader_number_5 rfl ?_
    refine zr_iload_n F zd_XReader_number_6 rfl ?_
    refine zr_iload_n F zd_XReader_number_7 rfl ?_
    obtain ⟨le5, hs4, h⟩ := zoS_s h
    cases ep6 : F_XReader_needNumber sh p3 o x1_ x2_ with
    | none =>
      rw [ep6] at h
      dsimp only [zoX] at h
      exact zr_thrV F hno (kT_XReader_needNumber l D tA b sh _ hl h) zd_XReader_number_8 (zW_o hs4 (by decide)) rfl zs_XReader_278 rfl zq_XReader_needNumber rfl rfl ⟨(Nat.le_of_ble_eq_true rfl), (Nat.le_of_ble_eq_true rfl)⟩ (Nat.le_of_ble_eq_true rfl) ⟨(Nat.le_of_ble_eq_true rfl), (Nat.le_of_ble_eq_true rfl)⟩ ⟨(Nat.le_of_ble_eq_true rfl), (Nat.le_of_ble_eq_true rfl)⟩
    | some p6 =>
      rw [ep6] at h
      dsimp only [zoX] at h
      refine zr_callV1 F (k_XReader_needNumber l D tA b sh _ ep6) zd_XReader_number_8 (zW_o hs4 (by decide)) rfl zs_XReader_278 rfl zq_XReader_needNumber rfl rfl ⟨(Nat.le_of_ble_eq_true rfl), (Nat.le_of_ble_eq_true rfl)⟩ (Nat.le_of_ble_eq_true rfl) ⟨(Nat.le_of_ble_eq_true rfl), (Nat.le_of_ble_eq_true rfl)⟩ ?_
      refine zr_pcn 11 rfl ?_
      cases h
abbrev zb_XReader_numbers : ByteArray := prog_8_method_13_code
def zy_XReader_numbers : MethodName := ⟨"OrreryBox$Reader", "numbers", "(Ljava/lang/String;IIIIZ)I"⟩
theorem zc_XReader_numbers : Cond.code zy_XReader_numbers zb_XReader_numbers 10 (some .int) ∈ gw := gw_t 1190 (by decide +kernel) rfl
theorem zq_XReader_numbers : zy_XReader_numbers.cls ≠ "java/lang/invoke/MethodHandle" ∧ zy_XReader_numbers.cls ≠ "java/lang/invoke/VarHandle" ∧ (parseMethodDescriptor zy_XReader_numbers.desc).map (fun d => d.parameters.length) = some 6 := by decide +kernel
theorem zd_XReader_numbers_0 : decode zb_XReader_numbers 0 = .ok (.aload_n 0, 1) := by decide +kernel
theorem zd_XReader_numbers_1 : decode zb_XReader_numbers 1 = .ok (.aload_n 1, 1) := by decide +kernel
theorem zd_XReader_numbers_2 : decode zb_XReader_numbers 2 = .ok (.invokevirtual 61, 3) := by decide +kernel
theorem zd_XReader_numbers_5 : decode zb_XReader_numbers 5 = .ok (.aload_n 0, 1) := by decide +kernel
theorem zd_XReader_numbers_6 : decode zb_XReader_numbers 6 = .ok (.bipush 91, 2) := by decide +kernel
theorem zd_XReader_numbers_8 : decode zb_XReader_numbers 8 = .ok (.invokevirtual 45, 3) := by decide +kernel
theorem zd_XReader_numbers_11 : decode zb_XReader_numbers 11 = .ok (.aload_n 0, 1) := by decide +kernel
theorem zd_XReader_numbers_12 : decode zb_XReader_numbers 12 = .ok (.bipush 93, 2) := by decide +kernel
theorem zd_XReader_numbers_14 : decode zb_XReader_numbers 14 = .ok (.invokevirtual 49, 3) := by decide +kernel
theorem zd_XReader_numbers_17 : decode zb_XReader_numbers 17 = .ok (.ifCond .ne 7, 3) := by decide +kernel
theorem zd_XReader_numbers_20 : decode zb_XReader_numbers 20 = .ok (.iconst 1, 1) := by decide +kernel
theorem zd_XReader_numbers_21 : decode zb_XReader_numbers 21 = .ok (.goto 4, 3) := by decide +kernel
theorem zd_XReader_numbers_24 : decode zb_XReader_numbers 24 = .ok (.iconst 0, 1) := by decide +kernel
theorem zd_XReader_numbers_25 : decode zb_XReader_numbers 25 = .ok (.istore 7, 2) := by decide +kernel
theorem zd_XReader_numbers_27 : decode zb_XReader_numbers 27 = .ok (.iload 4, 2) := by decide +kernel
theorem zd_XReader_numbers_29 : decode zb_XReader_numbers 29 = .ok (.istore 8, 2) := by decide +kernel
theorem zd_XReader_numbers_31 : decode zb_XReader_numbers 31 = .ok (.iconst 0, 1) := by decide +kernel
theorem zd_XReader_numbers_32 : decode zb_XReader_numbers 32 = .ok (.istore 9, 2) := by decide +kernel
theorem zd_XReader_numbers_34 : decode zb_XReader_numbers 34 = .ok (.iload 7, 2) := by decide +kernel
theorem zd_XReader_numbers_36 : decode zb_XReader_numbers 36 = .ok (.ifCond .eq 59, 3) := by decide +kernel
theorem zd_XReader_numbers_39 : decode zb_XReader_numbers 39 = .ok (.iload 9, 2) := by decide +kernel
theorem zd_XReader_numbers_41 : decode zb_XReader_numbers 41 = .ok (.iload_n 2, 1) := by decide +kernel
theorem zd_XReader_numbers_42 : decode zb_XReader_numbers 42 = .ok (.if_icmp .ge 53, 3) := by decide +kernel
theorem zd_XReader_numbers_45 : decode zb_XReader_numbers 45 = .ok (.aload_n 0, 1) := by decide +kernel
theorem zd_XReader_numbers_46 : decode zb_XReader_numbers 46 = .ok (.getfield 9, 3) := by decide +kernel
theorem zd_XReader_numbers_49 : decode zb_XReader_numbers 49 = .ok (.iload 9, 2) := by decide +kernel
theorem zd_XReader_numbers_51 : decode zb_XReader_numbers 51 = .ok (.aload_n 0, 1) := by decide +kernel
theorem zd_XReader_numbers_52 : decode zb_XReader_numbers 52 = .ok (.iload 8, 2) := by decide +kernel
theorem zd_XReader_numbers_54 : decode zb_XReader_numbers 54 = .ok (.iload 5, 2) := by decide +kernel
theorem zd_XReader_numbers_56 : decode zb_XReader_numbers 56 = .ok (.invokevirtual 278, 3) := by decide +kernel
theorem zd_XReader_numbers_59 : decode zb_XReader_numbers 59 = .ok (.iastore, 1) := by decide +kernel
theorem zd_XReader_numbers_60 : decode zb_XReader_numbers 60 = .ok (.iload 6, 2) := by decide +kernel
theorem zd_XReader_numbers_62 : decode zb_XReader_numbers 62 = .ok (.ifCond .eq 15, 3) := by decide +kernel
theorem zd_XReader_numbers_65 : decode zb_XReader_numbers 65 = .ok (.aload_n 0, 1) := by decide +kernel
theorem zd_XReader_numbers_66 : decode zb_XReader_numbers 66 = .ok (.getfield 9, 3) := by decide +kernel
theorem zd_XReader_numbers_69 : decode zb_XReader_numbers 69 = .ok (.iload 9, 2) := by decide +kernel
theorem zd_XReader_numbers_71 : decode zb_XReader_numbers 71 = .ok (.iaload, 1) := by decide +kernel
theorem zd_XReader_numbers_72 : decode zb_XReader_numbers 72 = .ok (.iconst 1, 1) := by decide +kernel
theorem zd_XReader_numbers_73 : decode zb_XReader_numbers 73 = .ok (.iadd, 1) := by decide +kernel
theorem zd_XReader_numbers_74 : decode zb_XReader_numbers 74 = .ok (.goto 5, 3) := by decide +kernel
theorem zd_XReader_numbers_77 : decode zb_XReader_numbers 77 = .ok (.iload 4, 2) := by decide +kernel
theorem zd_XReader_numbers_79 : decode zb_XReader_numbers 79 = .ok (.istore 8, 2) := by decide +kernel
theorem zd_XReader_numbers_81 : decode zb_XReader_numbers 81 = .ok (.iinc 9 1, 3) := by decide +kernel
theorem zd_XReader_numbers_84 : decode zb_XReader_numbers 84 = .ok (.aload_n 0, 1) := by decide +kernel
theorem zd_XReader_numbers_85 : decode zb_XReader_numbers 85 = .ok (.bipush 44, 2) := by decide +kernel
theorem zd_XReader_numbers_87 : decode zb_XReader_numbers 87 = .ok (.invokevirtual 74, 3) := by decide +kernel
theorem zd_XReader_numbers_90 : decode zb_XReader_numbers 90 = .ok (.istore 7, 2) := by decide +kernel
theorem zd_XReader_numbers_92 : decode zb_XReader_numbers 92 = .ok (.goto (-58), 3) := by decide +kernel
theorem zd_XReader_numbers_95 : decode zb_XReader_numbers 95 = .ok (.iload 7, 2) := by decide +kernel
theorem zd_XReader_numbers_97 : decode zb_XReader_numbers 97 = .ok (.ifCond .eq 23, 3) := by decide +kernel
theorem zd_XReader_numbers_100 : decode zb_XReader_numbers 100 = .ok (.aload_n 0, 1) := by decide +kernel
theorem zd_XReader_numbers_101 : decode zb_XReader_numbers 101 = .ok (.ldc_w 282, 3) := by decide +kernel
theorem zd_XReader_numbers_104 : decode zb_XReader_numbers 104 = .ok (.ldc_w 283, 3) := by decide +kernel
theorem zd_XReader_numbers_107 : decode zb_XReader_numbers 107 = .ok (.invokevirtual 278, 3) := by decide +kernel
theorem zd_XReader_numbers_110 : decode zb_XReader_numbers 110 = .ok (.pop, 1) := by decide +kernel
theorem zd_XReader_numbers_111 : decode zb_XReader_numbers 111 = .ok (.aload_n 0, 1) := by decide +kernel
theorem zd_XReader_numbers_112 : decode zb_XReader_numbers 112 = .ok (.iconst 3, 1) := by decide +kernel
theorem zd_XReader_numbers_113 : decode zb_XReader_numbers 113 = .ok (.aload_n 0, 1) := by decide +kernel
theorem zd_XReader_numbers_114 : decode zb_XReader_numbers 114 = .ok (.getfield 146, 3) := by decide +kernel
theorem zd_XReader_numbers_117 : decode zb_XReader_numbers 117 = .ok (.invokevirtual 77, 3) := by decide +kernel
theorem zd_XReader_numbers_120 : decode zb_XReader_numbers 120 = .ok (.aload_n 0, 1) := by decide +kernel
theorem zd_XReader_numbers_121 : decode zb_XReader_numbers 121 = .ok (.bipush 93, 2) := by decide +kernel
theorem zd_XReader_numbers_123 : decode zb_XReader_numbers 123 = .ok (.invokevirtual 49, 3) := by decide +kernel
theorem zd_XReader_numbers_126 : decode zb_XReader_numbers 126 = .ok (.ifCond .eq 24, 3) := by decide +kernel
theorem zd_XReader_numbers_129 : decode zb_XReader_numbers 129 = .ok (.iload 9, 2) := by decide +kernel
theorem zd_XReader_numbers_131 : decode zb_XReader_numbers 131 = .ok (.ifCond .eq 10, 3) := by decide +kernel
theorem zd_XReader_numbers_134 : decode zb_XReader_numbers 134 = .ok (.iload 9, 2) := by decide +kernel
theorem zd_XReader_numbers_136 : decode zb_XReader_numbers 136 = .ok (.iload_n 3, 1) := by decide +kernel
theorem zd_XReader_numbers_137 : decode zb_XReader_numbers 137 = .ok (.irem, 1) := by decide +kernel
theorem zd_XReader_numbers_138 : decode zb_XReader_numbers 138 = .ok (.ifCond .eq 12, 3) := by decide +kernel
theorem zd_XReader_numbers_141 : decode zb_XReader_numbers 141 = .ok (.aload_n 0, 1) := by decide +kernel
theorem zd_XReader_numbers_142 : decode zb_XReader_numbers 142 = .ok (.iconst 3, 1) := by decide +kernel
theorem zd_XReader_numbers_143 : decode zb_XReader_numbers 143 = .ok (.aload_n 0, 1) := by decide +kernel
theorem zd_XReader_numbers_144 : decode zb_XReader_numbers 144 = .ok (.getfield 27, 3) := by decide +kernel
theorem zd_XReader_numbers_147 : decode zb_XReader_numbers 147 = .ok (.invokevirtual 77, 3) := by decide +kernel
theorem zd_XReader_numbers_150 : decode zb_XReader_numbers 150 = .ok (.aload_n 0, 1) := by decide +kernel
theorem zd_XReader_numbers_151 : decode zb_XReader_numbers 151 = .ok (.bipush 93, 2) := by decide +kernel
theorem zd_XReader_numbers_153 : decode zb_XReader_numbers 153 = .ok (.invokevirtual 45, 3) := by decide +kernel
theorem zd_XReader_numbers_156 : decode zb_XReader_numbers 156 = .ok (.iload 9, 2) := by decide +kernel
theorem zd_XReader_numbers_158 : decode zb_XReader_numbers 158 = .ok (.ireturn, 1) := by decide +kernel
theorem zw_1197 : (Jvm.Cond.methodLink "OrreryBox$Reader" (74 : Nat) ({ cls := "OrreryBox$Reader", name := "takes", desc := "(C)Z" } : Jvm.MethodName)) ∈ gw := gw_t 1197 (by decide +kernel) rfl
theorem zw_1199 : (Jvm.Cond.instanceMethod ({ cls := "OrreryBox$Reader", name := "takes", desc := "(C)Z" } : Jvm.MethodName)) ∈ gw := gw_t 1199 (by decide +kernel) rfl
theorem zv_57 : (Jvm.Cond.selects "OrreryBox$Reader" (⟨"OrreryBox$Reader", "takes", "(C)Z"⟩ : MethodName) ⟨"OrreryBox$Reader", "takes", "(C)Z"⟩) ∈ gw := gw_s 57 (by decide +kernel) rfl
theorem zs_XReader_74 : zwV "OrreryBox$Reader" 74 "OrreryBox$Reader" zy_XReader_takes zb_XReader_takes 3 (some .boolean) := ⟨zw_1197, zw_1199, zv_57, zw_2, zc_XReader_takes⟩
def L_XReader_numbers_34 (sh : zSh) (fuel : Nat) (v0 : Nat) (v2 : Int32) (v3 : Int32) (v4 : Int32) (v5 : Int32) (v6 : Int32) (v7 : Int32) (v8 : Int32) (v9 : Int32) (mm : zMem) : Option (Nat × Int32 × Int32 × Int32 × Int32 × Int32 × Int32 × Int32 × Int32 × zMem) := match fuel with
  | 0 => none
  | fu + 1 => (if v7 = 0 then some (v0, v2, v3, v4, v5, v6, v7, v8, v9, mm) else (if v2 ≤ v9 then some (v0, v2, v3, v4, v5, v6, v7, v8, v9, mm) else zoS (sh v0) 7 (fun le14 => Option.bind (mm.2.2 v0 2) (fun a15 => zoS (sh v0) 7 (fun le17 => Option.bind (F_XReader_needNumber sh mm v0 v8 v5) (fun p18 => zoS (sh a15) 100 (fun le20 => if (v9 : Int32) < 0 ∨ le20 ≤ (v9 : Int32).toNatClampNeg then none else zoL (mI (p18.2) a15 (v9 : Int32).toNatClampNeg (p18.1)) (fun mm22 => (if v6 = 0 then zoS (sh v0) 7 (fun le25 => Option.bind (F_XReader_takes sh mm22 v0 44) (fun p26 => L_XReader_numbers_34 sh fu v0 v2 v3 v4 v5 v6 (p26.1) v4 (v9 + 1) (p26.2))) else zoS (sh v0) 7 (fun le28 => Option.bind (mm22.2.2 v0 2) (fun a29 => zoS (sh a29) 100 (fun le31 => if (v9 : Int32) < 0 ∨ le31 ≤ (v9 : Int32).toNatClampNeg then none else zoL ((mm22.1 a29 (v9 : Int32).toNatClampNeg) + 1) (fun x33 => zoS (sh v0) 7 (fun le35 => Option.bind (F_XReader_takes sh mm22 v0 44) (fun p36 => L_XReader_numbers_34 sh fu v0 v2 v3 v4 v5 v6 (p36.1) x33 (v9 + 1) (p36.2))))))))))))))))
set_option maxHeartbeats 4000000 in
set_option maxRecDepth 100000 in
theorem lp_XReader_numbers_34 {p : Program} {l : Launch} {e : Env} {s : State} {m : MethodId} {args : Array Value} {below : List Frame} {meth : Method} {c : Code} {D : va_G} {tA : Nat → ClassId} {b n : Nat} {post : Option Value → zV → Nat → Prop} {sh : zSh} (F : zF p s m args meth c zb_XReader_numbers 10 "OrreryBox$Reader" D tA b) : ∀ (fuel : Nat) (v0 : Nat) (v2 : Int32) (v3 : Int32) (v4 : Int32) (v5 : Int32) (v6 : Int32) (v7 : Int32) (v8 : Int32) (v9 : Int32) (mm : zMem) (r : Nat × Int32 × Int32 × Int32 × Int32 × Int32 × Int32 × Int32 × Int32 × zMem), L_XReader_numbers_34 sh fuel v0 v2 v3 v4 v5 v6 v7 v8 v9 mm = some r → (Z p l e { frames := 6, cells := 0, slots := 0, locals := 129 } s m args below meth c D b 10 (MQ below (zQ D b post) args s 0 0 (fun q => b ≤ q)) (zW tA b sh r.2.2.2.2.2.2.2.2.2) n 0 0 95 [(0, .ref (b + (r.1))), (2, .int (r.2.1)), (3, .int (r.2.2.1)), (4, .int (r.2.2.2.1)), (5, .int (r.2.2.2.2.1)), (6, .int (r.2.2.2.2.2.1)), (7, .int (r.2.2.2.2.2.2.1)), (8, .int (r.2.2.2.2.2.2.2.1)), (9, .int (r.2.2.2.2.2.2.2.2.1))] []) → Z p l e { frames := 6, cells := 0, slots := 0, locals := 129 } s m args below meth c D b 10 (MQ below (zQ D b post) args s 0 0 (fun q => b ≤ q)) (zW tA b sh mm) n 0 0 34 [(0, .ref (b + v0)), (2, .int v2), (3, .int v3), (4, .int v4), (5, .int v5), (6, .int v6), (7, .int v7), (8, .int v8), (9, .int v9)] [] := by
  intro fuel
  induction fuel with
  | zero =>
    intro v0 v2 v3 v4 v5 v6 v7 v8 v9 mm r h
    cases h
  | succ fu ih =>
    intro v0 v2 v3 v4 v5 v6 v7 v8 v9 mm r h hx0
    rw [L_XReader_numbers_34] at h
    refine zr_iload F zd_XReader_numbers_34 rfl ?_
    refine zr_if_eq F 95 zd_XReader_numbers_36 (by decide) (fun hb11 => ?_) (fun hb11 => ?_)
    ·
      rw [if_pos hb11] at h
      obtain rfl := Option.some.inj h
      refine zr_loc (L' := [(0, .ref (b + v0)), (2, .int v2), (3, .int v3), (4, .int v4), (5, .int v5), (6, .int v6), (7, .int v7), (8, .int v8), (9, .int v9)]) ⟨rfl, rfl, rfl, rfl, rfl, rfl, rfl, rfl, rfl, trivial⟩ ?_
      exact hx0 
    ·
      rw [if_neg hb11] at h
      refine zr_iload F zd_XReader_numbers_39 rfl ?_
      refine zr_iload_n F zd_XReader_numbers_41 rfl ?_
      refine zr_icmp_ge F 95 zd_XReader_numbers_42 (by decide) (fun hb12 => ?_) (fun hb12 => ?_)
      ·
        rw [if_pos hb12] at h
        obtain rfl := Option.some.inj h
        refine zr_loc (L' := [(0, .ref (b + v0)), (2, .int v2), (3, .int v3), (4, .int v4), (5, .int v5), (6, .int v6), (7, .int v7), (8, .int v8), (9, .int v9)]) ⟨rfl, rfl, rfl, rfl, rfl, rfl, rfl, rfl, rfl, trivial⟩ ?_
        exact hx0 
      ·
        rw [if_neg hb12] at h
        refine zr_aload_n F zd_XReader_numbers_45 rfl ?_
        obtain ⟨le14, hs13, h⟩ := zoS_s h
        obtain ⟨a15, ea15, h⟩ := zoB_s h
        refine zr_get F 7 2 zd_XReader_numbers_46 (zW_o hs13 (by decide)) rfl (by decide) zw_50 rfl (by rfl) ?_
        refine zr_tor ea15 ?_
        refine zr_pcn 49 rfl ?_
        refine zr_iload F zd_XReader_numbers_49 rfl ?_
        refine zr_aload_n F zd_XReader_numbers_51 rfl ?_
        refine zr_iload F zd_XReader_numbers_52 rfl ?_
        refine zr_iload F zd_XReader_numbers_54 rfl ?_
        obtain ⟨le17, hs16, h⟩ := zoS_s h
        obtain ⟨p18, ep18, h⟩ := zoB_s h
        refine zr_callV1 F (k_XReader_needNumber l D tA b sh _ ep18) zd_XReader_numbers_56 (zW_o hs16 (by decide)) rfl zs_XReader_278 rfl zq_XReader_needNumber rfl rfl ⟨(Nat.le_of_ble_eq_true rfl), (Nat.le_of_ble_eq_true rfl)⟩ (Nat.le_of_ble_eq_true rfl) ⟨(Nat.le_of_ble_eq_true rfl), (Nat.le_of_ble_eq_true rfl)⟩ ?_
        obtain ⟨le20, hs19, h⟩ := zoS_s h
        obtain ⟨hi21, h⟩ := zoI_s h
        refine zr_iast F zd_XReader_numbers_59 (zW_a0 hs19) hi21 ?_
        obtain ⟨mm22, emm22, h⟩ := zoL_s h
        refine zr_norm (zW tA b sh mm22) _ (by rw [emm22]; exact zW_s0 hs19) rfl ?_
        refine zr_iload F zd_XReader_numbers_60 rfl ?_
        refine zr_if_eq F 77 zd_XReader_numbers_62 (by decide) (fun hb23 => ?_) (fun hb23 => ?_)
        ·
          rw [if_pos hb23] at h
          refine zr_pcn 77 rfl ?_
          refine zr_iload F zd_XReader_numbers_77 rfl ?_
          refine zr_istore F zd_XReader_numbers_79 (by decide) ?_
          refine zr_iinc (v := (v9 + 1)) F zd_XReader_numbers_81 rfl rfl (by decide) ?_
          refine zr_aload_n F zd_XReader_numbers_84 rfl ?_
          refine zr_bipushv (v := 44) F zd_XReader_numbers_85 (by decide) ?_
          obtain ⟨le25, hs24, h⟩ := zoS_s h
          obtain ⟨p26, ep26, h⟩ := zoB_s h
          refine zr_callV1 F (k_XReader_takes l D tA b sh _ ep26) zd_XReader_numbers_87 (zW_o hs24 (by decide)) rfl zs_XReader_74 rfl zq_XReader_takes rfl rfl ⟨(Nat.le_of_ble_eq_true rfl), (Nat.le_of_ble_eq_true rfl)⟩ (Nat.le_of_ble_eq_true rfl) ⟨(Nat.le_of_ble_eq_true rfl), (Nat.le_of_ble_eq_true rfl)⟩ ?_
          refine zr_istore F zd_XReader_numbers_90 (by decide) ?_
          refine zr_goto F 34 zd_XReader_numbers_92 (by decide) ?_
          refine zr_loc (L' := [(0, .ref (b + v0)), (2, .int v2), (3, .int v3), (4, .int v4), (5, .int v5), (6, .int v6), (7, .int (p26.1)), (8, .int v4), (9, .int (v9 + 1))]) ⟨rfl, rfl, rfl, rfl, rfl, rfl, rfl, rfl, rfl, trivial⟩ ?_
          exact ih _ _ _ _ _ _ _ _ _ _ _ h hx0
        ·
          rw [if_neg hb23] at h
          refine zr_pcn 65 rfl ?_
          refine zr_aload_n F zd_XReader_numbers_65 rfl ?_
          obtain ⟨le28, hs27, h⟩ := zoS_s h
          obtain ⟨a29, ea29, h⟩ := zoB_s h
          refine zr_get F 7 2 zd_XReader_numbers_66 (zW_o hs27 (by decide)) rfl (by decide) zw_50 rfl (by rfl) ?_
          refine zr_tor ea29 ?_
          refine zr_iload F zd_XReader_numbers_69 rfl ?_
          obtain ⟨le31, hs30, h⟩ := zoS_s h
          obtain ⟨hi32, h⟩ := zoI_s h
          refine zr_iald F zd_XReader_numbers_71 (zW_a0 hs30) hi32 ?_
          refine zr_iconstv (v := 1) F zd_XReader_numbers_72 (by decide) ?_
          refine zr_iadd F zd_XReader_numbers_73 ?_
          refine zr_goto F 79 zd_XReader_numbers_74 (by decide) ?_
          obtain ⟨x33, ex33, h⟩ := zoL_s h
          rw [← ex33]
          refine zr_istore F zd_XReader_numbers_79 (by decide) ?_
          refine zr_pcn 81 rfl ?_
          refine zr_iinc (v := (v9 + 1)) F zd_XReader_numbers_81 rfl rfl (by decide) ?_
          refine zr_aload_n F zd_XReader_numbers_84 rfl ?_
          refine zr_bipushv (v := 44) F zd_XReader_numbers_85 (by decide) ?_
          obtain ⟨le35, hs34, h⟩ := zoS_s h
          obtain ⟨p36, ep36, h⟩ := zoB_s h
          refine zr_callV1 F (k_XReader_takes l D tA b sh _ ep36) zd_XReader_numbers_87 (zW_o hs34 (by decide)) rfl zs_XReader_74 rfl zq_XReader_takes rfl rfl ⟨(Nat.le_of_ble_eq_true rfl), (Nat.le_of_ble_eq_true rfl)⟩ (Nat.le_of_ble_eq_true rfl) ⟨(Nat.le_of_ble_eq_true rfl), (Nat.le_of_ble_eq_true rfl)⟩ ?_
          refine zr_istore F zd_XReader_numbers_90 (by decide) ?_
          refine zr_goto F 34 zd_XReader_numbers_92 (by decide) ?_
          refine zr_loc (L' := [(0, .ref (b + v0)), (2, .int v2), (3, .int v3), (4, .int v4), (5, .int v5), (6, .int v6), (7, .int (p36.1)), (8, .int x33), (9, .int (v9 + 1))]) ⟨rfl, rfl, rfl, rfl, rfl, rfl, rfl, rfl, rfl, trivial⟩ ?_
          exact ih _ _ _ _ _ _ _ _ _ _ _ h hx0
theorem zw_1201 : (Jvm.Cond.constant "OrreryBox$Reader" (282 : Nat) (-100000000 : Int32)) ∈ gw := gw_t 1201 (by decide +kernel) rfl
def F_XReader_numbers (sh : zSh) (mm : zMem) (o : Nat) (x0_ : Nat) (x1_ : Int32) (x2_ : Int32) (x3_ : Int32) (x4_ : Int32) (x5_ : Int32) : Option (Int32 × zMem) := zoS (sh o) 7 (fun le2 => Option.bind (F_XReader_needName sh mm o x0_) (fun p3 => zoS (sh o) 7 (fun le5 => Option.bind (F_XReader_need sh p3 o 91) (fun p6 => zoS (sh o) 7 (fun le8 => Option.bind (F_XReader_sees sh p6 o 93) (fun p9 => (if p9.1 = 0 then Option.bind (L_XReader_numbers_34 sh zfuel o x1_ x2_ x3_ x4_ x5_ 1 x3_ 0 (p9.2)) (fun q70 => (if q70.2.2.2.2.2.2.1 = 0 then zoS (sh (q70.1)) 7 (fun le73 => Option.bind (F_XReader_sees sh (q70.2.2.2.2.2.2.2.2.2) (q70.1) 93) (fun p74 => (if p74.1 = 0 then zoS (sh (q70.1)) 7 (fun le77 => Option.bind (F_XReader_need sh (p74.2) (q70.1) 93) (fun p78 => some (q70.2.2.2.2.2.2.2.2.1, p78))) else (if q70.2.2.2.2.2.2.2.2.1 = 0 then zoS (sh (q70.1)) 7 (fun le81 => zoS (sh (q70.1)) 7 (fun le83 => none)) else (if q70.2.2.1 = 0 then none else (if (q70.2.2.2.2.2.2.2.2.1 - q70.2.2.2.2.2.2.2.2.1 / q70.2.2.1 * q70.2.2.1) = 0 then zoS (sh (q70.1)) 7 (fun le88 => Option.bind (F_XReader_need sh (p74.2) (q70.1) 93) (fun p89 => some (q70.2.2.2.2.2.2.2.2.1, p89))) else zoS (sh (q70.1)) 7 (fun le91 => zoS (sh (q70.1)) 7 (fun le93 => none)))))))) else zoS (sh (q70.1)) 7 (fun le96 => Option.bind (F_XReader_needNumber sh (q70.2.2.2.2.2.2.2.2.2) (q70.1) (-100000000) 100000000) (fun p97 => zoS (sh (q70.1)) 7 (fun le99 => zoS (sh (q70.1)) 7 (fun le101 => none)))))) else Option.bind (L_XReader_numbers_34 sh zfuel o x1_ x2_ x3_ x4_ x5_ 0 x3_ 0 (p9.2)) (fun q37 => (if q37.2.2.2.2.2.2.1 = 0 then zoS (sh (q37.1)) 7 (fun le40 => Option.bind (F_XReader_sees sh (q37.2.2.2.2.2.2.2.2.2) (q37.1) 93) (fun p41 => (if p41.1 = 0 then zoS (sh (q37.1)) 7 (fun le44 => Option.bind (F_XReader_need sh (p41.2) (q37.1) 93) (fun p45 => some (q37.2.2.2.2.2.2.2.2.1, p45))) else (if q37.2.2.2.2.2.2.2.2.1 = 0 then zoS (sh (q37.1)) 7 (fun le48 => zoS (sh (q37.1)) 7 (fun le50 => none)) else (if q37.2.2.1 = 0 then none else (if (q37.2.2.2.2.2.2.2.2.1 - q37.2.2.2.2.2.2.2.2.1 / q37.2.2.1 * q37.2.2.1) = 0 then zoS (sh (q37.1)) 7 (fun le55 => Option.bind (F_XReader_need sh (p41.2) (q37.1) 93) (fun p56 => some (q37.2.2.2.2.2.2.2.2.1, p56))) else zoS (sh (q37.1)) 7 (fun le58 => zoS (sh (q37.1)) 7 (fun le60 => none)))))))) else zoS (sh (q37.1)) 7 (fun le63 => Option.bind (F_XReader_needNumber sh (q37.2.2.2.2.2.2.2.2.2) (q37.1) (-100000000) 100000000) (fun p64 => zoS (sh (q37.1)) 7 (fun le66 => zoS (sh (q37.1)) 7 (fun le68 => none)))))))))))))
set_option maxHeartbeats 4000000 in
set_option maxRecDepth 100000 in
theorem k_XReader_numbers (l : Launch) (D : va_G) (tA : Nat → ClassId) (b : Nat) (sh : zSh) (n : Nat) {mm : zMem} {o : Nat} {x0_ : Nat} {x1_ : Int32} {x2_ : Int32} {x3_ : Int32} {x4_ : Int32} {x5_ : Int32} {r : (Int32 × zMem)} (h : F_XReader_numbers sh mm o x0_ x1_ x2_ x3_ x4_ x5_ = some r) : zM l D tA b zy_XReader_numbers zb_XReader_numbers 10 (some .int) 6 129 0 0 [.ref (b + o), .ref (D.2 1000 x0_), .int x1_, .int x2_, .int x3_, .int x4_, .int x5_] (zW tA b sh mm) n (zE (some (.int (r.1))) (zW tA b sh r.2) n) := by
  unfold F_XReader_numbers at h
  refine zM_of (own := "OrreryBox$Reader") (plainFor_of_name (by decide)) rfl (Nat.le_of_ble_eq_true rfl) (fun p e s m below meth c F hr hin hH => ?_)
  refine zr_aload_n F zd_XReader_numbers_0 rfl ?_
  refine zr_aload_n F zd_XReader_numbers_1 rfl ?_
  obtain ⟨le2, hs1, h⟩ := zoS_s h
  obtain ⟨p3, ep3, h⟩ := zoB_s h
  refine zr_callV0 F (k_XReader_needName l D tA b sh _ ep3) zd_XReader_numbers_2 (zW_o hs1 (by decide)) rfl zs_XReader_61 rfl zq_XReader_needName rfl rfl ⟨(Nat.le_of_ble_eq_true rfl), (Nat.le_of_ble_eq_true rfl)⟩ (Nat.le_of_ble_eq_true rfl) ⟨(Nat.le_of_ble_eq_true rfl), (Nat.le_of_ble_eq_true rfl)⟩ ?_
  refine zr_aload_n F zd_XReader_numbers_5 rfl ?_
  refine zr_bipushv (v := 91) F zd_XReader_numbers_6 (by decide) ?_
  obtain ⟨le5, hs4, h⟩ := zoS_s h
  obtain ⟨p6, ep6, h⟩ := zoB_s h
  refine zr_callV0 F (k_XReader_need l D tA b sh _ ep6) zd_XReader_numbers_8 (zW_o hs4 (by decide)) rfl zs_XReader_45 rfl zq_XReader_need rfl rfl ⟨(Nat.le_of_ble_eq_true rfl), (Nat.le_of_ble_eq_true rfl)⟩ (Nat.le_of_ble_eq_true rfl) ⟨(Nat.le_of_ble_eq_true rfl), (Nat.le_of_ble_eq_true rfl)⟩ ?_
  refine zr_aload_n F zd_XReader_numbers_11 rfl ?_
  refine zr_pcn 12 rfl ?_
  refine zr_bipushv (v := 93) F zd_XReader_numbers_12 (by decide) ?_
  obtain ⟨le8, hs7, h⟩ := zoS_s h
  obtain ⟨p9, ep9, h⟩ := zoB_s h
  refine zr_callV1 F (k_XReader_sees l D tA b sh _ ep9) zd_XReader_numbers_14 (zW_o hs7 (by decide)) rfl zs_XReader_49 rfl zq_XReader_sees rfl rfl ⟨(Nat.le_of_ble_eq_true rfl), (Nat.le_of_ble_eq_true rfl)⟩ (Nat.le_of_ble_eq_true rfl) ⟨(Nat.le_of_ble_eq_true rfl), (Nat.le_of_ble_eq_true rfl)⟩ ?_
  refine zr_if_ne F 24 zd_XReader_numbers_17 (by decide) (fun hb10 => ?_) (fun hb10 => ?_)
  ·
    rw [if_neg hb10] at h
    refine zr_iconstv (v := 0) F zd_XReader_numbers_24 (by decide) ?_
    refine zr_istore F zd_XReader_numbers_25 (by decide) ?_
    refine zr_iload F zd_XReader_numbers_27 rfl ?_
    refine zr_istore F zd_XReader_numbers_29 (by decide) ?_
    refine zr_iconstv (v := 0) F zd_XReader_numbers_31 (by decide) ?_
    refine zr_pcn 32 rfl ?_
    refine zr_istore F zd_XReader_numbers_32 (by decide) ?_
    obtain ⟨q37, eq37, h⟩ := zoB_s h
    refine zr_loc (L' := [(0, .ref (b + o)), (2, .int x1_), (3, .int x2_), (4, .int x3_), (5, .int x4_), (6, .int x5_), (7, .int 0), (8, .int x3_), (9, .int 0)]) ⟨rfl, rfl, rfl, rfl, rfl, rfl, rfl, rfl, rfl, trivial⟩ ?_
    refine lp_XReader_numbers_34 F _ _ _ _ _ _ _ _ _ _ _ _ eq37 ?_
    ·
      refine zr_iload F zd_XReader_numbers_95 rfl ?_
      refine zr_if_eq F 120 zd_XReader_numbers_97 (by decide) (fun hb38 => ?_) (fun hb38 => ?_)
      ·
        rw [if_pos hb38] at h
        refine zr_pcn 120 rfl ?_
        refine zr_aload_n F zd_XReader_numbers_120 rfl ?_
        refine zr_bipushv (v := 93) F zd_XReader_numbers_121 (by decide) ?_
        obtain ⟨le40, hs39, h⟩ := zoS_s h
        obtain ⟨p41, ep41, h⟩ := zoB_s h
        refine zr_callV1 F (k_XReader_sees l D tA b sh _ ep41) zd_XReader_numbers_123 (zW_o hs39 (by decide)) rfl zs_XReader_49 rfl zq_XReader_sees rfl rfl ⟨(Nat.le_of_ble_eq_true rfl), (Nat.le_of_ble_eq_true rfl)⟩ (Nat.le_of_ble_eq_true rfl) ⟨(Nat.le_of_ble_eq_true rfl), (Nat.le_of_ble_eq_true rfl)⟩ ?_
        refine zr_if_eq F 150 zd_XReader_numbers_126 (by decide) (fun hb42 => ?_) (fun hb42 => ?_)
        ·
          rw [if_pos hb42] at h
          refine zr_aload_n F zd_XReader_numbers_150 rfl ?_
          refine zr_bipushv (v := 93) F zd_XReader_numbers_151 (by decide) ?_
          obtain ⟨le44, hs43, h⟩ := zoS_s h
          obtain ⟨p45, ep45, h⟩ := zoB_s h
          refine zr_callV0 F (k_XReader_need l D tA b sh _ ep45) zd_XReader_numbers_153 (zW_o hs43 (by decide)) rfl zs_XReader_45 rfl zq_XReader_need rfl rfl ⟨(Nat.le_of_ble_eq_true rfl), (Nat.le_of_ble_eq_true rfl)⟩ (Nat.le_of_ble_eq_true rfl) ⟨(Nat.le_of_ble_eq_true rfl), (Nat.le_of_ble_eq_true rfl)⟩ ?_
          refine zr_iload F zd_XReader_numbers_156 rfl ?_
          refine zr_pcn 158 rfl ?_
          obtain rfl := Option.some.inj h
          exact zr_iret F hr zd_XReader_numbers_158 (Nat.le_of_ble_eq_true rfl) (Nat.le_of_ble_eq_true rfl) ⟨rfl, rfl, rfl⟩
        ·
          rw [if_neg hb42] at h
          refine zr_iload F zd_XReader_numbers_129 rfl ?_
          refine zr_if_eq F 141 zd_XReader_numbers_131 (by decide) (fun hb46 => ?_) (fun hb46 => ?_)
          ·
            rw [if_pos hb46] at h
            refine zr_aload_n F zd_XReader_numbers_141 rfl ?_
            refine zr_iconstv (v := 3) F zd_XReader_numbers_142 (by decide) ?_
            refine zr_aload_n F zd_XReader_numbers_143 rfl ?_
            obtain ⟨le48, hs47, h⟩ := zoS_s h
            refine zr_get F 7 5 zd_XReader_numbers_144 (zW_o hs47 (by decide)) rfl (by decide) zw_53 rfl (by rfl) ?_
            obtain ⟨le50, hs49, h⟩ := zoS_s h
            cases h
          ·
            rw [if_neg hb46] at h
            refine zr_pcn 134 rfl ?_
            refine zr_iload F zd_XReader_numbers_134 rfl ?_
            refine zr_iload_n F zd_XReader_numbers_136 rfl ?_
            obtain ⟨hn52, h⟩ := zoI_s h
            refine zr_irem F zd_XReader_numbers_137 hn52 ?_
            refine zr_if_eq F 150 zd_XReader_numbers_138 (by decide) (fun hb53 => ?_) (fun hb53 => ?_)
            ·
              rw [if_pos hb53] at h
              refine zr_aload_n F zd_XReader_numbers_150 rfl ?_
              refine zr_bipushv (v := 93) F zd_XReader_numbers_151 (by decide) ?_
              obtain ⟨le55, hs54, h⟩ := zoS_s h
              obtain ⟨p56, ep56, h⟩ := zoB_s h
              refine zr_callV0 F (k_XReader_need l D tA b sh _ ep56) zd_XReader_numbers_153 (zW_o hs54 (by decide)) rfl zs_XReader_45 rfl zq_XReader_need rfl rfl ⟨(Nat.le_of_ble_eq_true rfl), (Nat.le_of_ble_eq_true rfl)⟩ (Nat.le_of_ble_eq_true rfl) ⟨(Nat.le_of_ble_eq_true rfl), (Nat.le_of_ble_eq_true rfl)⟩ ?_
              refine zr_iload F zd_XReader_numbers_156 rfl ?_
              refine zr_pcn 158 rfl ?_
              obtain rfl := Option.some.inj h
              exact zr_iret F hr zd_XReader_numbers_158 (Nat.le_of_ble_eq_true rfl) (Nat.le_of_ble_eq_true rfl) ⟨rfl, rfl, rfl⟩
            ·
              rw [if_neg hb53] at h
              refine zr_aload_n F zd_XReader_numbers_141 rfl ?_
              refine zr_iconstv (v := 3) F zd_XReader_numbers_142 (by decide) ?_
              refine zr_aload_n F zd_XReader_numbers_143 rfl ?_
              obtain ⟨le58, hs57, h⟩ := zoS_s h
              refine zr_get F 7 5 zd_XReader_numbers_144 (zW_o hs57 (by decide)) rfl (by decide) zw_53 rfl (by rfl) ?_
              obtain ⟨le60, hs59, h⟩ := zoS_s h
              cases h
      ·
        rw [if_neg hb38] at h
        refine zr_aload_n F zd_XReader_numbers_100 rfl ?_
        refine zr_ldcw F zd_XReader_numbers_101 zw_1201 ?_
        refine zr_pcn 104 rfl ?_
        refine zr_ldcw F zd_XReader_numbers_104 zw_1195 ?_
        obtain ⟨le63, hs62, h⟩ := zoS_s h
        obtain ⟨p64, ep64, h⟩ := zoB_s h
        refine zr_callV1 F (k_XReader_needNumber l D tA b sh _ ep64) zd_XReader_numbers_107 (zW_o hs62 (by decide)) rfl zs_XReader_278 rfl zq_XReader_needNumber rfl rfl ⟨(Nat.le_of_ble_eq_true rfl), (Nat.le_of_ble_eq_true rfl)⟩ (Nat.le_of_ble_eq_true rfl) ⟨(Nat.le_of_ble_eq_true rfl), (Nat.le_of_ble_eq_true rfl)⟩ ?_
        refine zr_pop F zd_XReader_numbers_110 rfl ?_
        refine zr_aload_n F zd_XReader_numbers_111 rfl ?_
        refine zr_iconstv (v := 3) F zd_XReader_numbers_112 (by decide) ?_
        refine zr_aload_n F zd_XReader_numbers_113 rfl ?_
        obtain ⟨le66, hs65, h⟩ := zoS_s h
        refine zr_get F 7 6 zd_XReader_numbers_114 (zW_o hs65 (by decide)) rfl (by decide) zw_54 rfl (by rfl) ?_
        obtain ⟨le68, hs67, h⟩ := zoS_s h
        cases h
  ·
    rw [if_pos hb10] at h
    refine zr_pcn 20 rfl ?_
    refine zr_iconstv (v := 1) F zd_XReader_numbers_20 (by decide) ?_
    refine zr_goto F 25 zd_XReader_numbers_21 (by decide) ?_
    refine zr_istore F zd_XReader_numbers_25 (by decide) ?_
    refine zr_iload F zd_XReader_numbers_27 rfl ?_
    refine zr_istore F zd_XReader_numbers_29 (by decide) ?_
    refine zr_iconstv (v := 0) F zd_XReader_numbers_31 (by decide) ?_
    refine zr_istore F zd_XReader_numbers_32 (by decide) ?_
    obtain ⟨q70, eq70, h⟩ := zoB_s h
    refine zr_loc (L' := [(0, .ref (b + o)), (2, .int x1_), (3, .int x2_), (4, .int x3_), (5, .int x4_), (6, .int x5_), (7, .int 1), (8, .int x3_), (9, .int 0)]) ⟨rfl, rfl, rfl, rfl, rfl, rfl, rfl, rfl, rfl, trivial⟩ ?_
    refine lp_XReader_numbers_34 F _ _ _ _ _ _ _ _ _ _ _ _ eq70 ?_
    ·
      refine zr_iload F zd_XReader_numbers_95 rfl ?_
      refine zr_pcn 97 rfl ?_
      refine zr_if_eq F 120 zd_XReader_numbers_97 (by decide) (fun hb71 => ?_) (fun hb71 => ?_)
      ·
        rw [if_pos hb71] at h
        refine zr_aload_n F zd_XReader_numbers_120 rfl ?_
        refine zr_bipushv (v := 93) F zd_XReader_numbers_121 (by decide) ?_
        obtain ⟨le73, hs72, h⟩ := zoS_s h
        obtain ⟨p74, ep74, h⟩ := zoB_s h
        refine zr_callV1 F (k_XReader_sees l D tA b sh _ ep74) zd_XReader_numbers_123 (zW_o hs72 (by decide)) rfl zs_XReader_49 rfl zq_XReader_sees rfl rfl ⟨(Nat.le_of_ble_eq_true rfl), (Nat.le_of_ble_eq_true rfl)⟩ (Nat.le_of_ble_eq_true rfl) ⟨(Nat.le_of_ble_eq_true rfl), (Nat.le_of_ble_eq_true rfl)⟩ ?_
        refine zr_if_eq F 150 zd_XReader_numbers_126 (by decide) (fun hb75 => ?_) (fun hb75 => ?_)
        ·
          rw [if_pos hb75] at h
          refine zr_aload_n F zd_XReader_numbers_150 rfl ?_
          refine zr_bipushv (v := 93) F zd_XReader_numbers_151 (by decide) ?_
          obtain ⟨le77, hs76, h⟩ := zoS_s h
          obtain ⟨p78, ep78, h⟩ := zoB_s h
          refine zr_callV0 F (k_XReader_need l D tA b sh _ ep78) zd_XReader_numbers_153 (zW_o hs76 (by decide)) rfl zs_XReader_45 rfl zq_XReader_need rfl rfl ⟨(Nat.le_of_ble_eq_true rfl), (Nat.le_of_ble_eq_true rfl)⟩ (Nat.le_of_ble_eq_true rfl) ⟨(Nat.le_of_ble_eq_true rfl), (Nat.le_of_ble_eq_true rfl)⟩ ?_
          refine zr_pcn 156 rfl ?_
          refine zr_iload F zd_XReader_numbers_156 rfl ?_
          obtain rfl := Option.some.inj h
          exact zr_iret F hr zd_XReader_numbers_158 (Nat.le_of_ble_eq_true rfl) (Nat.le_of_ble_eq_true rfl) ⟨rfl, rfl, rfl⟩
        ·
          rw [if_neg hb75] at h
          refine zr_iload F zd_XReader_numbers_129 rfl ?_
          refine zr_if_eq F 141 zd_XReader_numbers_131 (by decide) (fun hb79 => ?_) (fun hb79 => ?_)
          ·
            rw [if_pos hb79] at h
            refine zr_aload_n F zd_XReader_numbers_141 rfl ?_
            refine zr_iconstv (v := 3) F zd_XReader_numbers_142 (by decide) ?_
            refine zr_aload_n F zd_XReader_numbers_143 rfl ?_
            obtain ⟨le81, hs80, h⟩ := zoS_s h
            refine zr_get F 7 5 zd_XReader_numbers_144 (zW_o hs80 (by decide)) rfl (by decide) zw_53 rfl (by rfl) ?_
            refine zr_pcn 147 rfl ?_
            obtain ⟨le83, hs82, h⟩ := zoS_s h
            cases h
          ·
            rw [if_neg hb79] at h
            refine zr_iload F zd_XReader_numbers_134 rfl ?_
            refine zr_iload_n F zd_XReader_numbers_136 rfl ?_
            obtain ⟨hn85, h⟩ := zoI_s h
            refine zr_irem F zd_XReader_numbers_137 hn85 ?_
            refine zr_if_eq F 150 zd_XReader_numbers_138 (by decide) (fun hb86 => ?_) (fun hb86 => ?_)
            ·
              rw [if_pos hb86] at h
              refine zr_aload_n F zd_XReader_numbers_150 rfl ?_
              refine zr_bipushv (v := 93) F zd_XReader_numbers_151 (by decide) ?_
              obtain ⟨le88, hs87, h⟩ := zoS_s h
              obtain ⟨p89, ep89, h⟩ := zoB_s h
              refine zr_callV0 F (k_XReader_need l D tA b sh _ ep89) zd_XReader_numbers_153 (zW_o hs87 (by decide)) rfl zs_XReader_45 rfl zq_XReader_need rfl rfl ⟨(Nat.le_of_ble_eq_true rfl), (Nat.le_of_ble_eq_true rfl)⟩ (Nat.le_of_ble_eq_true rfl) ⟨(Nat.le_of_ble_eq_true rfl), (Nat.le_of_ble_eq_true rfl)⟩ ?_
              refine zr_pcn 156 rfl ?_
              refine zr_iload F zd_XReader_numbers_156 rfl ?_
              obtain rfl := Option.some.inj h
              exact zr_iret F hr zd_XReader_numbers_158 (Nat.le_of_ble_eq_true rfl) (Nat.le_of_ble_eq_true rfl) ⟨rfl, rfl, rfl⟩
            ·
              rw [if_neg hb86] at h
              refine zr_aload_n F zd_XReader_numbers_141 rfl ?_
              refine zr_iconstv (v := 3) F zd_XReader_numbers_142 (by decide) ?_
              refine zr_aload_n F zd_XReader_numbers_143 rfl ?_
              obtain ⟨le91, hs90, h⟩ := zoS_s h
              refine zr_get F 7 5 zd_XReader_numbers_144 (zW_o hs90 (by decide)) rfl (by decide) zw_53 rfl (by rfl) ?_
              obtain ⟨le93, hs92, h⟩ := zoS_s h
              cases h
      ·
        rw [if_neg hb71] at h
        refine zr_aload_n F zd_XReader_numbers_100 rfl ?_
        refine zr_pcn 101 rfl ?_
        refine zr_ldcw F zd_XReader_numbers_101 zw_1201 ?_
        refine zr_ldcw F zd_XReader_numbers_104 zw_1195 ?_
        obtain ⟨le96, hs95, h⟩ := zoS_s h
        obtain ⟨p97, ep97, h⟩ := zoB_s h
        refine zr_callV1 F (k_XReader_needNumber l D tA b sh _ ep97) zd_XReader_numbers_107 (zW_o hs95 (by decide)) rfl zs_XReader_278 rfl zq_XReader_needNumber rfl rfl ⟨(Nat.le_of_ble_eq_true rfl), (Nat.le_of_ble_eq_true rfl)⟩ (Nat.le_of_ble_eq_true rfl) ⟨(Nat.le_of_ble_eq_true rfl), (Nat.le_of_ble_eq_true rfl)⟩ ?_
        refine zr_pop F zd_XReader_numbers_110 rfl ?_
        refine zr_aload_n F zd_XReader_numbers_111 rfl ?_
        refine zr_iconstv (v := 3) F zd_XReader_numbers_112 (by decide) ?_
        refine zr_aload_n F zd_XReader_numbers_113 rfl ?_
        obtain ⟨le99, hs98, h⟩ := zoS_s h
        refine zr_get F 7 6 zd_XReader_numbers_114 (zW_o hs98 (by decide)) rfl (by decide) zw_54 rfl (by rfl) ?_
        refine zr_pcn 117 rfl ?_
        obtain ⟨le101, hs100, h⟩ := zoS_s h
        cases h
def L_T_XReader_numbers_34 (sh : zSh) (fuel : Nat) (v0 : Nat) (v2 : Int32) (v3 : Int32) (v4 : Int32) (v5 : Int32) (v6 : Int32) (v7 : Int32) (v8 : Int32) (v9 : Int32) (mm : zMem) : Option (Nat × Nat × Int32 × Int32 × Int32 × Int32 × Int32 × Int32 × Int32 × Int32 × zMem) := match fuel with
  | 0 => none
  | fu + 1 => (if v7 = 0 then some (1, v0, v2, v3, v4, v5, v6, v7, v8, v9, mm) else (if v2 ≤ v9 then some (1, v0, v2, v3, v4, v5, v6, v7, v8, v9, mm) else zoS (sh v0) 7 (fun le14 => Option.bind (mm.2.2 v0 2) (fun a15 => zoS (sh v0) 7 (fun le17 => zoX (F_XReader_needNumber sh mm v0 v8 v5) (Option.bind (T_XReader_needNumber sh mm v0 v8 v5) (fun mq19 => some (0, (0 : Nat), (0 : Int32), (0 : Int32), (0 : Int32), (0 : Int32), (0 : Int32), (0 : Int32), (0 : Int32), (0 : Int32), mq19))) (fun p18 => zoS (sh a15) 100 (fun le21 => if (v9 : Int32) < 0 ∨ le21 ≤ (v9 : Int32).toNatClampNeg then none else zoL (mI (p18.2) a15 (v9 : Int32).toNatClampNeg (p18.1)) (fun mm23 => (if v6 = 0 then zoS (sh v0) 7 (fun le26 => Option.bind (F_XReader_takes sh mm23 v0 44) (fun p27 => L_T_XReader_numbers_34 sh fu v0 v2 v3 v4 v5 v6 (p27.1) v4 (v9 + 1) (p27.2))) else zoS (sh v0) 7 (fun le29 => Option.bind (mm23.2.2 v0 2) (fun a30 => zoS (sh a30) 100 (fun le32 => if (v9 : Int32) < 0 ∨ le32 ≤ (v9 : Int32).toNatClampNeg then none else zoL ((mm23.1 a30 (v9 : Int32).toNatClampNeg) + 1) (fun x34 => zoS (sh v0) 7 (fun le36 => Option.bind (F_XReader_takes sh mm23 v0 44) (fun p37 => L_T_XReader_numbers_34 sh fu v0 v2 v3 v4 v5 v6 (p37.1) x34 (v9 + 1) (p37.2))))))))))))))))
set_option maxHeartbeats 4000000 in
set_option maxRecDepth 100000 in
theorem lp_T_XReader_numbers_34 {p : Program} {l : Launch} {e : Env} {s : State} {m : MethodId} {args : Array Value} {below : List Frame} {meth : Method} {c : Code} {D : va_G} {tA : Nat → ClassId} {b n : Nat} {cls : String} {fT : zV} {nT : Nat} {sh : zSh} (F : zF p s m args meth c zb_XReader_numbers 10 "OrreryBox$Reader" D tA b) (hl : l.stackTraces = false) (hno : c.exceptionTable.toList = []) : ∀ (fuel : Nat) (v0 : Nat) (v2 : Int32) (v3 : Int32) (v4 : Int32) (v5 : Int32) (v6 : Int32) (v7 : Int32) (v8 : Int32) (v9 : Int32) (mm : zMem) (r : Nat × Nat × Int32 × Int32 × Int32 × Int32 × Int32 × Int32 × Int32 × Int32 × zMem), L_T_XReader_numbers_34 sh fuel v0 v2 v3 v4 v5 v6 v7 v8 v9 mm = some r → (r.1 = 1 → Z p l e { frames := 8, cells := 1, slots := 6, locals := 137 } s m args below meth c D b 10 (zTQ below D b cls fT nT args s 1 6) (zW tA b sh r.2.2.2.2.2.2.2.2.2.2) n 0 0 95 [(0, .ref (b + (r.2.1))), (2, .int (r.2.2.1)), (3, .int (r.2.2.2.1)), (4, .int (r.2.2.2.2.1)), (5, .int (r.2.2.2.2.2.1)), (6, .int (r.2.2.2.2.2.2.1)), (7, .int (r.2.2.2.2.2.2.2.1)), (8, .int (r.2.2.2.2.2.2.2.2.1)), (9, .int (r.2.2.2.2.2.2.2.2.2.1))] []) → (r.1 = 0 → zW tA b sh r.2.2.2.2.2.2.2.2.2.2 = fT ∧ n + 1 = nT) → Z p l e { frames := 8, cells := 1, slots := 6, locals := 137 } s m args below meth c D b 10 (zTQ below D b cls fT nT args s 1 6) (zW tA b sh mm) n 0 0 34 [(0, .ref (b + v0)), (2, .int v2), (3, .int v3), (4, .int v4), (5, .int v5), (6, .int v6), (7, .int v7), (8, .int v8), (9, .int v9)] [] := by
  intro fuel
  induction fuel with
  | zero =>
    intro v0 v2 v3 v4 v5 v6 v7 v8 v9 mm r h
    cases h
  | succ fu ih =>
    intro v0 v2 v3 v4 v5 v6 v7 v8 v9 mm r h hx0 hp
    rw [L_T_XReader_numbers_34] at h
    refine zr_iload F zd_XReader_numbers_34 rfl ?_
    refine zr_if_eq F 95 zd_XReader_numbers_36 (by decide) (fun hb11 => ?_) (fun hb11 => ?_)
    ·
      rw [if_pos hb11] at h
      obtain rfl := Option.some.inj h
      refine zr_loc (L' := [(0, .ref (b + v0)), (2, .int v2), (3, .int v3), (4, .int v4), (5, .int v5), (6, .int v6), (7, .int v7), (8, .int v8), (9, .int v9)]) ⟨rfl, rfl, rfl, rfl, rfl, rfl, rfl, rfl, rfl, trivial⟩ ?_
      exact hx0 rfl
    ·
      rw [if_neg hb11] at h
      refine zr_iload F zd_XReader_numbers_39 rfl ?_
      refine zr_iload_n F zd_XReader_numbers_41 rfl ?_
      refine zr_icmp_ge F 95 zd_XReader_numbers_42 (by decide) (fun hb12 => ?_) (fun hb12 => ?_)
      ·
        rw [if_pos hb12] at h
        obtain rfl := Option.some.inj h
        refine zr_loc (L' := [(0, .ref (b + v0)), (2, .int v2), (3, .int v3), (4, .int v4), (5, .int v5), (6, .int v6), (7, .int v7), (8, .int v8), (9, .int v9)]) ⟨rfl, rfl, rfl, rfl, rfl, rfl, rfl, rfl, rfl, trivial⟩ ?_
        exact hx0 rfl
      ·
        rw [if_neg hb12] at h
        refine zr_aload_n F zd_XReader_numbers_45 rfl ?_
        obtain ⟨le14, hs13, h⟩ := zoS_s h
        obtain ⟨a15, ea15, h⟩ := zoB_s h
        refine zr_get F 7 2 zd_XReader_numbers_46 (zW_o hs13 (by decide)) rfl (by decide) zw_50 rfl (by rfl) ?_
        refine zr_tor ea15 ?_
        refine zr_pcn 49 rfl ?_
        refine zr_iload F zd_XReader_numbers_49 rfl ?_
        refine zr_aload_n F zd_XReader_numbers_51 rfl ?_
        refine zr_iload F zd_XReader_numbers_52 rfl ?_
        refine zr_iload F zd_XReader_numbers_54 rfl ?_
        obtain ⟨le17, hs16, h⟩ := zoS_s h
        cases ep18 : F_XReader_needNumber sh mm v0 v8 v5 with
        | none =>
          rw [ep18] at h
          dsimp only [zoX] at h
          obtain ⟨mq19, emq19, h⟩ := zoB_s h
          obtain rfl := Option.some.inj h
          obtain ⟨ef, en⟩ := hp rfl
          subst ef
          subst en
          exact zr_thrV F hno (kT_XReader_needNumber l D tA b sh _ hl emq19) zd_XReader_numbers_56 (zW_o hs16 (by decide)) rfl zs_XReader_278 rfl zq_XReader_needNumber rfl rfl ⟨(Nat.le_of_ble_eq_true rfl), (Nat.le_of_ble_eq_true rfl)⟩ (Nat.le_of_ble_eq_true rfl) ⟨(Nat.le_of_ble_eq_true rfl), (Nat.le_of_ble_eq_true rfl)⟩ ⟨(Nat.le_of_ble_eq_true rfl), (Nat.le_of_ble_eq_true rfl)⟩
        | some p18 =>
          rw [ep18] at h
          dsimp only [zoX] at h
          refine zr_callV1 F (k_XReader_needNumber l D tA b sh _ ep18) zd_XReader_numbers_56 (zW_o hs16 (by decide)) rfl zs_XReader_278 rfl zq_XReader_needNumber rfl rfl ⟨(Nat.le_of_ble_eq_true rfl), (Nat.le_of_ble_eq_true rfl)⟩ (Nat.le_of_ble_eq_true rfl) ⟨(Nat.le_of_ble_eq_true rfl), (Nat.le_of_ble_eq_true rfl)⟩ ?_
          obtain ⟨le21, hs20, h⟩ := zoS_s h
          obtain ⟨hi22, h⟩ := zoI_s h
          refine zr_iast F zd_XReader_numbers_59 (zW_a0 hs20) hi22 ?_
          obtain ⟨mm23, emm23, h⟩ := zoL_s h
          refine zr_norm (zW tA b sh mm23) _ (by rw [emm23]; exact zW_s0 hs20) rfl ?_
          refine zr_iload F zd_XReader_numbers_60 rfl ?_
          refine zr_if_eq F 77 zd_XReader_numbers_62 (by decide) (fun hb24 => ?_) (fun hb24 => ?_)
          ·
            rw [if_pos hb24] at h
            refine zr_pcn 77 rfl ?_
            refine zr_iload F zd_XReader_numbers_77 rfl ?_
            refine zr_istore F zd_XReader_numbers_79 (by decide) ?_
            refine zr_iinc (v := (v9 + 1)) F zd_XReader_numbers_81 rfl rfl (by decide) ?_
            refine zr_aload_n F zd_XReader_numbers_84 rfl ?_
            refine zr_bipushv (v := 44) F zd_XReader_numbers_85 (by decide) ?_
            obtain ⟨le26, hs25, h⟩ := zoS_s h
            obtain ⟨p27, ep27, h⟩ := zoB_s h
            refine zr_callV1 F (k_XReader_takes l D tA b sh _ ep27) zd_XReader_numbers_87 (zW_o hs25 (by decide)) rfl zs_XReader_74 rfl zq_XReader_takes rfl rfl ⟨(Nat.le_of_ble_eq_true rfl), (Nat.le_of_ble_eq_true rfl)⟩ (Nat.le_of_ble_eq_true rfl) ⟨(Nat.le_of_ble_eq_true rfl), (Nat.le_of_ble_eq_true rfl)⟩ ?_
            refine zr_istore F zd_XReader_numbers_90 (by decide) ?_
            refine zr_goto F 34 zd_XReader_numbers_92 (by decide) ?_
            refine zr_loc (L' := [(0, .ref (b + v0)), (2, .int v2), (3, .int v3), (4, .int v4), (5, .int v5), (6, .int v6), (7, .int (p27.1)), (8, .int v4), (9, .int (v9 + 1))]) ⟨rfl, rfl, rfl, rfl, rfl, rfl, rfl, rfl, rfl, trivial⟩ ?_
            exact ih _ _ _ _ _ _ _ _ _ _ _ h hx0 hp
          ·
            rw [if_neg hb24] at h
            refine zr_pcn 65 rfl ?_
            refine zr_aload_n F zd_XReader_numbers_65 rfl ?_
            obtain ⟨le29, hs28, h⟩ := zoS_s h
            obtain ⟨a30, ea30, h⟩ := zoB_s h
            refine zr_get F 7 2 zd_XReader_numbers_66 (zW_o hs28 (by decide)) rfl (by decide) zw_50 rfl (by rfl) ?_
            refine zr_tor ea30 ?_
            refine zr_iload F zd_XReader_numbers_69 rfl ?_
            obtain ⟨le32, hs31, h⟩ := zoS_s h
            obtain ⟨hi33, h⟩ := zoI_s h
            refine zr_iald F zd_XReader_numbers_71 (zW_a0 hs31) hi33 ?_
            refine zr_iconstv (v := 1) F zd_XReader_numbers_72 (by decide) ?_
            refine zr_iadd F zd_XReader_numbers_73 ?_
            refine zr_goto F 79 zd_XReader_numbers_74 (by decide) ?_
            obtain ⟨x34, ex34, h⟩ := zoL_s h
            rw [← ex34]
            refine zr_istore F zd_XReader_numbers_79 (by decide) ?_
            refine zr_pcn 81 rfl ?_
            refine zr_iinc (v := (v9 + 1)) F zd_XReader_numbers_81 rfl rfl (by decide) ?_
            refine zr_aload_n F zd_XReader_numbers_84 rfl ?_
            refine zr_bipushv (v := 44) F zd_XReader_numbers_85 (by decide) ?_
            obtain ⟨le36, hs35, h⟩ := zoS_s h
            obtain ⟨p37, ep37, h⟩ := zoB_s h
            refine zr_callV1 F (k_XReader_takes l D tA b sh _ ep37) zd_XReader_numbers_87 (zW_o hs35 (by decide)) rfl zs_XReader_74 rfl zq_XReader_takes rfl rfl ⟨(Nat.le_of_ble_eq_true rfl), (Nat.le_of_ble_eq_true rfl)⟩ (Nat.le_of_ble_eq_true rfl) ⟨(Nat.le_of_ble_eq_true rfl), (Nat.le_of_ble_eq_true rfl)⟩ ?_
            refine zr_istore F zd_XReader_numbers_90 (by decide) ?_
            refine zr_goto F 34 zd_XReader_numbers_92 (by decide) ?_
            refine zr_loc (L' := [(0, .ref (b + v0)), (2, .int v2), (3, .int v3), (4, .int v4), (5, .int v5), (6, .int v6), (7, .int (p37.1)), (8, .int x34), (9, .int (v9 + 1))]) ⟨rfl, rfl, rfl, rfl, rfl, rfl, rfl, rfl, rfl, trivial⟩ ?_
            exact ih _ _ _ _ _ _ _ _ _ _ _ h hx0 hp
def T_XReader_numbers (sh : zSh) (mm : zMem) (o : Nat) (x0_ : Nat) (x1_ : Int32) (x2_ : Int32) (x3_ : Int32) (x4_ : Int32) (x5_ : Int32) : Option zMem := zoS (sh o) 7 (fun le2 => zoX (F_XReader_needName sh mm o x0_) (T_XReader_needName sh mm o x0_) (fun p3 => zoS (sh o) 7 (fun le5 => zoX (F_XReader_need sh p3 o 91) (T_XReader_need sh p3 o 91) (fun p6 => zoS (sh o) 7 (fun le8 => Option.bind (F_XReader_sees sh p6 o 93) (fun p9 => (if p9.1 = 0 then Option.bind (L_T_XReader_numbers_34 sh zfuel o x1_ x2_ x3_ x4_ x5_ 1 x3_ 0 (p9.2)) (fun q71 => (if q71.1 = 1 then (if q71.2.2.2.2.2.2.2.1 = 0 then zoS (sh (q71.2.1)) 7 (fun le74 => Option.bind (F_XReader_sees sh (q71.2.2.2.2.2.2.2.2.2.2) (q71.2.1) 93) (fun p75 => (if p75.1 = 0 then zoS (sh (q71.2.1)) 7 (fun le78 => zoX (F_XReader_need sh (p75.2) (q71.2.1) 93) (T_XReader_need sh (p75.2) (q71.2.1) 93) (fun p79 => none)) else (if q71.2.2.2.2.2.2.2.2.2.1 = 0 then zoS (sh (q71.2.1)) 7 (fun le82 => zoS (sh (q71.2.1)) 7 (fun le84 => T_XReader_refuse sh (p75.2) (q71.2.1) 3 ((p75.2).1 (q71.2.1) 5))) else (if q71.2.2.2.1 = 0 then none else (if (q71.2.2.2.2.2.2.2.2.2.1 - q71.2.2.2.2.2.2.2.2.2.1 / q71.2.2.2.1 * q71.2.2.2.1) = 0 then zoS (sh (q71.2.1)) 7 (fun le89 => zoX (F_XReader_need sh (p75.2) (q71.2.1) 93) (T_XReader_need sh (p75.2) (q71.2.1) 93) (fun p90 => none)) else zoS (sh (q71.2.1)) 7 (fun le92 => zoS (sh (q71.2.1)) 7 (fun le94 => T_XReader_refuse sh (p75.2) (q71.2.1) 3 ((p75.2).1 (q71.2.1) 5))))))))) else zoS (sh (q71.2.1)) 7 (fun le97 => zoX (F_XReader_needNumber sh (q71.2.2.2.2.2.2.2.2.2.2) (q71.2.1) (-100000000) 100000000) (T_XReader_needNumber sh (q71.2.2.2.2.2.2.2.2.2.2) (q71.2.1) (-100000000) 100000000) (fun p98 => zoS (sh (q71.2.1)) 7 (fun le100 => zoS (sh (q71.2.1)) 7 (fun le102 => T_XReader_refuse sh (p98.2) (q71.2.1) 3 ((p98.2).1 (q71.2.1) 6)))))) else some (q71.2.2.2.2.2.2.2.2.2.2))) else Option.bind (L_T_XReader_numbers_34 sh zfuel o x1_ x2_ x3_ x4_ x5_ 0 x3_ 0 (p9.2)) (fun q38 => (if q38.1 = 1 then (if q38.2.2.2.2.2.2.2.1 = 0 then zoS (sh (q38.2.1)) 7 (fun le41 => Option.bind (F_XReader_sees sh (q38.2.2.2.2.2.2.2.2.2.2) (q38.2.1) 93) (fun p42 => (if p42.1 = 0 then zoS (sh (q38.2.1)) 7 (fun le45 => zoX (F_XReader_need sh (p42.2) (q38.2.1) 93) (T_XReader_need sh (p42.2) (q38.2.1) 93) (fun p46 => none)) else (if q38.2.2.2.2.2.2.2.2.2.1 = 0 then zoS (sh (q38.2.1)) 7 (fun le49 => zoS (sh (q38.2.1)) 7 (fun le51 => T_XReader_refuse sh (p42.2) (q38.2.1) 3 ((p42.2).1 (q38.2.1) 5))) else (if q38.2.2.2.1 = 0 then none else (if (q38.2.2.2.2.2.2.2.2.2.1 - q38.2.2.2.2.2.2.2.2.2.1 / q38.2.2.2.1 * q38.2.2.2.1) = 0 then zoS (sh (q38.2.1)) 7 (fun le56 => zoX (F_XReader_need sh (p42.2) (q38.2.1) 93) (T_XReader_need sh (p42.2) (q38.2.1) 93) (fun p57 => none)) else zoS (sh (q38.2.1)) 7 (fun le59 => zoS (sh (q38.2.1)) 7 (fun le61 => T_XReader_refuse sh (p42.2) (q38.2.1) 3 ((p42.2).1 (q38.2.1) 5))))))))) else zoS (sh (q38.2.1)) 7 (fun le64 => zoX (F_XReader_needNumber sh (q38.2.2.2.2.2.2.2.2.2.2) (q38.2.1) (-100000000) 100000000) (T_XReader_needNumber sh (q38.2.2.2.2.2.2.2.2.2.2) (q38.2.1) (-100000000) 100000000) (fun p65 => zoS (sh (q38.2.1)) 7 (fun le67 => zoS (sh (q38.2.1)) 7 (fun le69 => T_XReader_refuse sh (p65.2) (q38.2.1) 3 ((p65.2).1 (q38.2.1) 6)))))) else some (q38.2.2.2.2.2.2.2.2.2.2))))))))))
set_option maxHeartbeats 4000000 in
set_option maxRecDepth 100000 in
theorem kT_XReader_numbers (l : Launch) (D : va_G) (tA : Nat → ClassId) (b : Nat) (sh : zSh) (n : Nat) (hl : l.stackTraces = false) {mm : zMem} {o : Nat} {x0_ : Nat} {x1_ : Int32} {x2_ : Int32} {x3_ : Int32} {x4_ : Int32} {x5_ : Int32} {r : zMem} (h : T_XReader_numbers sh mm o x0_ x1_ x2_ x3_ x4_ x5_ = some r) : zMT l D tA b zy_XReader_numbers zb_XReader_numbers 10 (some .int) 8 137 1 6 [.ref (b + o), .ref (D.2 1000 x0_), .int x1_, .int x2_, .int x3_, .int x4_, .int x5_] (zW tA b sh mm) n "java/lang/IllegalArgumentException" (zW tA b sh r) (n + 1) := by
  unfold T_XReader_numbers at h
  refine zMT_of (own := "OrreryBox$Reader") (plainFor_of_name (by decide)) rfl (Nat.le_of_ble_eq_true rfl) (fun p e s m below meth c F hno hH => ?_)
  refine zr_aload_n F zd_XReader_numbers_0 rfl ?_
  refine zr_aload_n F zd_XReader_numbers_1 rfl ?_
  obtain ⟨le2, hs1, h⟩ := zoS_s h
  cases ep3 : F_XReader_needName sh mm o x0_ with
  | none =>
    rw [ep3] at h
    dsimp only [zoX] at h
    exact zr_thrV F hno (kT_XReader_needName l D tA b sh _ hl h) zd_XReader_numbers_2 (zW_o hs1 (by decide)) rfl zs_XReader_61 rfl zq_XReader_needName rfl rfl ⟨(Nat.le_of_ble_eq_true rfl), (Nat.le_of_ble_eq_true rfl)⟩ (Nat.le_of_ble_eq_true rfl) ⟨(Nat.le_of_ble_eq_true rfl), (Nat.le_of_ble_eq_true rfl)⟩ ⟨(Nat.le_of_ble_eq_true rfl), (Nat.le_of_ble_eq_true rfl)⟩
  | some p3 =>
    rw [ep3] at h
    dsimp only [zoX] at h
    refine zr_callV0 F (k_XReader_needName l D tA b sh _ ep3) zd_XReader_numbers_2 (zW_o hs1 (by decide)) rfl zs_XReader_61 rfl zq_XReader_needName rfl rfl ⟨(Nat.le_of_ble_eq_true rfl), (Nat.le_of_ble_eq_true rfl)⟩ (Nat.le_of_ble_eq_true rfl) ⟨(Nat.le_of_ble_eq_true rfl), (Nat.le_of_ble_eq_true rfl)⟩ ?_
    refine zr_aload_n F zd_XReader_numbers_5 rfl ?_
    refine zr_bipushv (v := 91) F zd_XReader_numbers_6 (by decide) ?_
    obtain ⟨le5, hs4, h⟩ := zoS_s h
    cases ep6 : F_XReader_need sh p3 o 91 with
    | none =>
      rw [ep6] at h
      dsimp only [zoX] at h
      exact zr_thrV F hno (kT_XReader_need l D tA b sh _ hl h) zd_XReader_numbers_8 (zW_o hs4 (by decide)) rfl zs_XReader_45 rfl zq_XReader_need rfl rfl ⟨(Nat.le_of_ble_eq_true rfl), (Nat.le_of_ble_eq_true rfl)⟩ (Nat.le_of_ble_eq_true rfl) ⟨(Nat.le_of_ble_eq_true rfl), (Nat.le_of_ble_eq_true rfl)⟩ ⟨(Nat.le_of_ble_eq_true rfl), (Nat.le_of_ble_eq_true rfl)⟩
    | some p6 =>
      rw [ep6] at h
      dsimp only [zoX] at h
      refine zr_callV0 F (k_XReader_need l D tA b sh _ ep6) zd_XReader_numbers_8 (zW_o hs4 (by decide)) rfl zs_XReader_45 rfl zq_XReader_need rfl rfl ⟨(Nat.le_of_ble_eq_true rfl), (Nat.le_of_ble_eq_true rfl)⟩ (Nat.le_of_ble_eq_true rfl) ⟨(Nat.le_of_ble_eq_true rfl), (Nat.le_of_ble_eq_true rfl)⟩ ?_
      refine zr_aload_n F zd_XReader_numbers_11 rfl ?_
      refine zr_pcn 12 rfl ?_
      refine zr_bipushv (v := 93) F zd_XReader_numbers_12 (by decide) ?_
      obtain ⟨le8, hs7, h⟩ := zoS_s h
      obtain ⟨p9, ep9, h⟩ := zoB_s h
      refine zr_callV1 F (k_XReader_sees l D tA b sh _ ep9) zd_XReader_numbers_14 (zW_o hs7 (by decide)) rfl zs_XReader_49 rfl zq_XReader_sees rfl rfl ⟨(Nat.le_of_ble_eq_true rfl), (Nat.le_of_ble_eq_true rfl)⟩ (Nat.le_of_ble_eq_true rfl) ⟨(Nat.le_of_ble_eq_true rfl), (Nat.le_of_ble_eq_true rfl)⟩ ?_
      refine zr_if_ne F 24 zd_XReader_numbers_17 (by decide) (fun hb10 => ?_) (fun hb10 => ?_)
      ·
        rw [if_neg hb10] at h
        refine zr_iconstv (v := 0) F zd_XReader_numbers_24 (by decide) ?_
        refine zr_istore F zd_XReader_numbers_25 (by decide) ?_
        refine zr_iload F zd_XReader_numbers_27 rfl ?_
        refine zr_istore F zd_XReader_numbers_29 (by decide) ?_
        refine zr_iconstv (v := 0) F zd_XReader_numbers_31 (by decide) ?_
        refine zr_pcn 32 rfl ?_
        refine zr_istore F zd_XReader_numbers_32 (by decide) ?_
        obtain ⟨q38, eq38, h⟩ := zoB_s h
        refine zr_loc (L' := [(0, .ref (b + o)), (2, .int x1_), (3, .int x2_), (4, .int x3_), (5, .int x4_), (6, .int x5_), (7, .int 0), (8, .int x3_), (9, .int 0)]) ⟨rfl, rfl, rfl, rfl, rfl, rfl, rfl, rfl, rfl, trivial⟩ ?_
        refine lp_T_XReader_numbers_34 F hl hno _ _ _ _ _ _ _ _ _ _ _ _ eq38 ?_ ?_
        ·
          intro ec
          rw [if_pos ec] at h
          refine zr_iload F zd_XReader_numbers_95 rfl ?_
          refine zr_if_eq F 120 zd_XReader_numbers_97 (by decide) (fun hb39 => ?_) (fun hb39 => ?_)
          ·
            rw [if_pos hb39] at h
            refine zr_pcn 120 rfl ?_
            refine zr_aload_n F zd_XReader_numbers_120 rfl ?_
            refine zr_bipushv (v := 93) F zd_XReader_numbers_121 (by decide) ?_
            obtain ⟨le41, hs40, h⟩ := zoS_s h
            obtain ⟨p42, ep42, h⟩ := zoB_s h
            refine zr_callV1 F (k_XReader_sees l D tA b sh _ ep42) zd_XReader_numbers_123 (zW_o hs40 (by decide)) rfl zs_XReader_49 rfl zq_XReader_sees rfl rfl ⟨(Nat.le_of_ble_eq_true rfl), (Nat.le_of_ble_eq_true rfl)⟩ (Nat.le_of_ble_eq_true rfl) ⟨(Nat.le_of_ble_eq_true rfl), (Nat.le_of_ble_eq_true rfl)⟩ ?_
            refine zr_if_eq F 150 zd_XReader_numbers_126 (by decide) (fun hb43 => ?_) (fun hb43 => ?_)
            ·
              rw [if_pos hb43] at h
              refine zr_aload_n F zd_XReader_numbers_150 rfl ?_
              refine zr_bipushv (v := 93) F zd_XReader_numbers_151 (by decide) ?_
              obtain ⟨le45, hs44, h⟩ := zoS_s h
              cases ep46 : F_XReader_need sh (p42.2) (q38.2.1) 93 with
              | none =>
                rw [ep46] at h
                dsimp only [zoX] at h
                exact zr_thrV F hno (kT_XReader_need l D tA b sh _ hl h) zd_XReader_numbers_153 (zW_o hs44 (by decide)) rfl zs_XReader_45 rfl zq_XReader_need rfl rfl ⟨(Nat.le_of_ble_eq_true rfl), (Nat.le_of_ble_eq_true rfl)⟩ (Nat.le_of_ble_eq_true rfl) ⟨(Nat.le_of_ble_eq_true rfl), (Nat.le_of_ble_eq_true rfl)⟩ ⟨(Nat.le_of_ble_eq_true rfl), (Nat.le_of_ble_eq_true rfl)⟩
              | some p46 =>
                rw [ep46] at h
                dsimp only [zoX] at h
                refine zr_callV0 F (k_XReader_need l D tA b sh _ ep46) zd_XReader_numbers_153 (zW_o hs44 (by decide)) rfl zs_XReader_45 rfl zq_XReader_need rfl rfl ⟨(Nat.le_of_ble_eq_true rfl), (Nat.le_of_ble_eq_true rfl)⟩ (Nat.le_of_ble_eq_true rfl) ⟨(Nat.le_of_ble_eq_true rfl), (Nat.le_of_ble_eq_true rfl)⟩ ?_
                refine zr_iload F zd_XReader_numbers_156 rfl ?_
                refine zr_pcn 158 rfl ?_
                cases h
            ·
              rw [if_neg hb43] at h
              refine zr_iload F zd_XReader_numbers_129 rfl ?_
              refine zr_if_eq F 141 zd_XReader_numbers_131 (by decide) (fun hb47 => ?_) (fun hb47 => ?_)
              ·
                rw [if_pos hb47] at h
                refine zr_aload_n F zd_XReader_numbers_141 rfl ?_
                refine zr_iconstv (v := 3) F zd_XReader_numbers_142 (by decide) ?_
                refine zr_aload_n F zd_XReader_numbers_143 rfl ?_
                obtain ⟨le49, hs48, h⟩ := zoS_s h
                refine zr_get F 7 5 zd_XReader_numbers_144 (zW_o hs48 (by decide)) rfl (by decide) zw_53 rfl (by rfl) ?_
                obtain ⟨le51, hs50, h⟩ := zoS_s h
                exact zr_thrV F hno (kT_XReader_refuse l D tA b sh _ hl h) zd_XReader_numbers_147 (zW_o hs50 (by decide)) rfl zs_XReader_77 rfl zq_XReader_refuse rfl rfl ⟨(Nat.le_of_ble_eq_true rfl), (Nat.le_of_ble_eq_true rfl)⟩ (Nat.le_of_ble_eq_true rfl) ⟨(Nat.le_of_ble_eq_true rfl), (Nat.le_of_ble_eq_true rfl)⟩ ⟨(Nat.le_of_ble_eq_true rfl), (Nat.le_of_ble_eq_true rfl)⟩
              ·
                rw [if_neg hb47] at h
                refine zr_pcn 134 rfl ?_
                refine zr_iload F zd_XReader_numbers_134 rfl ?_
                refine zr_iload_n F zd_XReader_numbers_136 rfl ?_
                obtain ⟨hn53, h⟩ := zoI_s h
                refine zr_irem F zd_XReader_numbers_137 hn53 ?_
                refine zr_if_eq F 150 zd_XReader_numbers_138 (by decide) (fun hb54 => ?_) (fun hb54 => ?_)
                ·
                  rw [if_pos hb54] at h
                  refine zr_aload_n F zd_XReader_numbers_150 rfl ?_
                  refine zr_bipushv (v := 93) F zd_XReader_numbers_151 (by decide) ?_
                  obtain ⟨le56, hs55, h⟩ := zoS_s h
                  cases ep57 : F_XReader_need sh (p42.2) (q38.2.1) 93 with
                  | none =>
                    rw [ep57] at h
                    dsimp only [zoX] at h
                    exact zr_thrV F hno (kT_XReader_need l D tA b sh _ hl h) zd_XReader_numbers_153 (zW_o hs55 (by decide)) rfl zs_XReader_45 rfl zq_XReader_need rfl rfl ⟨(Nat.le_of_ble_eq_true rfl), (Nat.le_of_ble_eq_true rfl)⟩ (Nat.le_of_ble_eq_true rfl) ⟨(Nat.le_of_ble_eq_true rfl), (Nat.le_of_ble_eq_true rfl)⟩ ⟨(Nat.le_of_ble_eq_true rfl), (Nat.le_of_ble_eq_true rfl)⟩
                  | some p57 =>
                    rw [ep57] at h
                    dsimp only [zoX] at h
                    refine zr_callV0 F (k_XReader_need l D tA b sh _ ep57) zd_XReader_numbers_153 (zW_o hs55 (by decide)) rfl zs_XReader_45 rfl zq_XReader_need rfl rfl ⟨(Nat.le_of_ble_eq_true rfl), (Nat.le_of_ble_eq_true rfl)⟩ (Nat.le_of_ble_eq_true rfl) ⟨(Nat.le_of_ble_eq_true rfl), (Nat.le_of_ble_eq_true rfl)⟩ ?_
                    refine zr_iload F zd_XReader_numbers_156 rfl ?_
                    refine zr_pcn 158 rfl ?_
                    cases h
                ·
                  rw [if_neg hb54] at h
                  refine zr_aload_n F zd_XReader_numbers_141 rfl ?_
                  refine zr_iconstv (v := 3) F zd_XReader_numbers_142 (by decide) ?_
                  refine zr_aload_n F zd_XReader_numbers_143 rfl ?_
                  obtain ⟨le59, hs58, h⟩ := zoS_s h
                  refine zr_get F 7 5 zd_XReader_numbers_144 (zW_o hs58 (by decide)) rfl (by decide) zw_53 rfl (by rfl) ?_
                  obtain ⟨le61, hs60, h⟩ := zoS_s h
                  exact zr_thrV F hno (kT_XReader_refuse l D tA b sh _ hl h) zd_XReader_numbers_147 (zW_o hs60 (by decide)) rfl zs_XReader_77 rfl zq_XReader_refuse rfl rfl ⟨(Nat.le_of_ble_eq_true rfl), (Nat.le_of_ble_eq_true rfl)⟩ (Nat.le_of_ble_eq_true rfl) ⟨(Nat.le_of_ble_eq_true rfl), (Nat.le_of_ble_eq_true rfl)⟩ ⟨(Nat.le_of_ble_eq_true rfl), (Nat.le_of_ble_eq_true rfl)⟩
          ·
            rw [if_neg hb39] at h
            refine zr_aload_n F zd_XReader_numbers_100 rfl ?_
            refine zr_ldcw F zd_XReader_numbers_101 zw_1201 ?_
            refine zr_pcn 104 rfl ?_
            refine zr_ldcw F zd_XReader_numbers_104 zw_1195 ?_
            obtain ⟨le64, hs63, h⟩ := zoS_s h
            cases ep65 : F_XReader_needNumber sh (q38.2.2.2.2.2.2.2.2.2.2) (q38.2.1) (-100000000) 100000000 with
            | none =>
              rw [ep65] at h
              dsimp only [zoX] at h
              exact zr_thrV F hno (kT_XReader_needNumber l D tA b sh _ hl h) zd_XReader_numbers_107 (zW_o hs63 (by decide)) rfl zs_XReader_278 rfl zq_XReader_needNumber rfl rfl ⟨(Nat.le_of_ble_eq_true rfl), (Nat.le_of_ble_eq_true rfl)⟩ (Nat.le_of_ble_eq_true rfl) ⟨(Nat.le_of_ble_eq_true rfl), (Nat.le_of_ble_eq_true rfl)⟩ ⟨(Nat.le_of_ble_eq_true rfl), (Nat.le_of_ble_eq_true rfl)⟩
            | some p65 =>
              rw [ep65] at h
              dsimp only [zoX] at h
              refine zr_callV1 F (k_XReader_needNumber l D tA b sh _ ep65) zd_XReader_numbers_107 (zW_o hs63 (by decide)) rfl zs_XReader_278 rfl zq_XReader_needNumber rfl rfl ⟨(Nat.le_of_ble_eq_true rfl), (Nat.le_of_ble_eq_true rfl)⟩ (Nat.le_of_ble_eq_true rfl) ⟨(Nat.le_of_ble_eq_true rfl), (Nat.le_of_ble_eq_true rfl)⟩ ?_
              refine zr_pop F zd_XReader_numbers_110 rfl ?_
              refine zr_aload_n F zd_XReader_numbers_111 rfl ?_
              refine zr_iconstv (v := 3) F zd_XReader_numbers_112 (by decide) ?_
              refine zr_aload_n F zd_XReader_numbers_113 rfl ?_
              obtain ⟨le67, hs66, h⟩ := zoS_s h
              refine zr_get F 7 6 zd_XReader_numbers_114 (zW_o hs66 (by decide)) rfl (by decide) zw_54 rfl (by rfl) ?_
              obtain ⟨le69, hs68, h⟩ := zoS_s h
              exact zr_thrV F hno (kT_XReader_refuse l D tA b sh _ hl h) zd_XReader_numbers_117 (zW_o hs68 (by decide)) rfl zs_XReader_77 rfl zq_XReader_refuse rfl rfl ⟨(Nat.le_of_ble_eq_true rfl), (Nat.le_of_ble_eq_true rfl)⟩ (Nat.le_of_ble_eq_true rfl) ⟨(Nat.le_of_ble_eq_true rfl), (Nat.le_of_ble_eq_true rfl)⟩ ⟨(Nat.le_of_ble_eq_true rfl), (Nat.le_of_ble_eq_true rfl)⟩
        ·
          intro ec
          rw [if_neg (by rw [ec]; decide)] at h
          obtain rfl := Option.some.inj h
          exact ⟨rfl, rfl⟩
      ·
        rw [if_pos hb10] at h
        refine zr_pcn 20 rfl ?_
        refine zr_iconstv (v := 1) F zd_XReader_numbers_20 (by decide) ?_
        refine zr_goto F 25 zd_XReader_numbers_21 (by decide) ?_
        refine zr_istore F zd_XReader_numbers_25 (by decide) ?_
        refine zr_iload F zd_XReader_numbers_27 rfl ?_
        refine zr_istore F zd_XReader_numbers_29 (by decide) ?_
        refine zr_iconstv (v := 0) F zd_XReader_numbers_31 (by decide) ?_
        refine zr_istore F zd_XReader_numbers_32 (by decide) ?_
        obtain ⟨q71, eq71, h⟩ := zoB_s h
        refine zr_loc (L' := [(0, .ref (b + o)), (2, .int x1_), (3, .int x2_), (4, .int x3_), (5, .int x4_), (6, .int x5_), (7, .int 1), (8, .int x3_), (9, .int 0)]) ⟨rfl, rfl, rfl, rfl, rfl, rfl, rfl, rfl, rfl, trivial⟩ ?_
        refine lp_T_XReader_numbers_34 F hl hno _ _ _ _ _ _ _ _ _ _ _ _ eq71 ?_ ?_
        ·
          intro ec
          rw [if_pos ec] at h
          refine zr_iload F zd_XReader_numbers_95 rfl ?_
          refine zr_pcn 97 rfl ?_
          refine zr_if_eq F 120 zd_XReader_numbers_97 (by decide) (fun hb72 => ?_) (fun hb72 => ?_)
          ·
            rw [if_pos hb72] at h
            refine zr_aload_n F zd_XReader_numbers_120 rfl ?_
            refine zr_bipushv (v := 93) F zd_XReader_numbers_121 (by decide) ?_
            obtain ⟨le74, hs73, h⟩ := zoS_s h
            obtain ⟨p75, ep75, h⟩ := zoB_s h
            refine zr_callV1 F (k_XReader_sees l D tA b sh _ ep75) zd_XReader_numbers_123 (zW_o hs73 (by decide)) rfl zs_XReader_49 rfl zq_XReader_sees rfl rfl ⟨(Nat.le_of_ble_eq_true rfl), (Nat.le_of_ble_eq_true rfl)⟩ (Nat.le_of_ble_eq_true rfl) ⟨(Nat.le_of_ble_eq_true rfl), (Nat.le_of_ble_eq_true rfl)⟩ ?_
            refine zr_if_eq F 150 zd_XReader_numbers_126 (by decide) (fun hb76 => ?_) (fun hb76 => ?_)
            ·
              rw [if_pos hb76] at h
              refine zr_aload_n F zd_XReader_numbers_150 rfl ?_
              refine zr_bipushv (v := 93) F zd_XReader_numbers_151 (by decide) ?_
              obtain ⟨le78, hs77, h⟩ := zoS_s h
              cases ep79 : F_XReader_need sh (p75.2) (q71.2.1) 93 with
              | none =>
                rw [ep79] at h
                dsimp only [zoX] at h
                exact zr_thrV F hno (kT_XReader_need l D tA b sh _ hl h) zd_XReader_numbers_153 (zW_o hs77 (by decide)) rfl zs_XReader_45 rfl zq_XReader_need rfl rfl ⟨(Nat.le_of_ble_eq_true rfl), (Nat.le_of_ble_eq_true rfl)⟩ (Nat.le_of_ble_eq_true rfl) ⟨(Nat.le_of_ble_eq_true rfl), (Nat.le_of_ble_eq_true rfl)⟩ ⟨(Nat.le_of_ble_eq_true rfl), (Nat.le_of_ble_eq_true rfl)⟩
              | some p79 =>
                rw [ep79] at h
                dsimp only [zoX] at h
                refine zr_callV0 F (k_XReader_need l D tA b sh _ ep79) zd_XReader_numbers_153 (zW_o hs77 (by decide)) rfl zs_XReader_45 rfl zq_XReader_need rfl rfl ⟨(Nat.le_of_ble_eq_true rfl), (Nat.le_of_ble_eq_true rfl)⟩ (Nat.le_of_ble_eq_true rfl) ⟨(Nat.le_of_ble_eq_true rfl), (Nat.le_of_ble_eq_true rfl)⟩ ?_
                refine zr_pcn 156 rfl ?_
                refine zr_iload F zd_XReader_numbers_156 rfl ?_
                cases h
            ·
              rw [if_neg hb76] at h
              refine zr_iload F zd_XReader_numbers_129 rfl ?_
              refine zr_if_eq F 141 zd_XReader_numbers_131 (by decide) (fun hb80 => ?_) (fun hb80 => ?_)
              ·
                rw [if_pos hb80] at h
                refine zr_aload_n F zd_XReader_numbers_141 rfl ?_
                refine zr_iconstv (v := 3) F zd_XReader_numbers_142 (by decide) ?_
                refine zr_aload_n F zd_XReader_numbers_143 rfl ?_
                obtain ⟨le82, hs81, h⟩ := zoS_s h
                refine zr_get F 7 5 zd_XReader_numbers_144 (zW_o hs81 (by decide)) rfl (by decide) zw_53 rfl (by rfl) ?_
                refine zr_pcn 147 rfl ?_
                obtain ⟨le84, hs83, h⟩ := zoS_s h
                exact zr_thrV F hno (kT_XReader_refuse l D tA b sh _ hl h) zd_XReader_numbers_147 (zW_o hs83 (by decide)) rfl zs_XReader_77 rfl zq_XReader_refuse rfl rfl ⟨(Nat.le_of_ble_eq_true rfl), (Nat.le_of_ble_eq_true rfl)⟩ (Nat.le_of_ble_eq_true rfl) ⟨(Nat.le_of_ble_eq_true rfl), (Nat.le_of_ble_eq_true rfl)⟩ ⟨(Nat.le_of_ble_eq_true rfl), (Nat.le_of_ble_eq_true rfl)⟩
              ·
                rw [if_neg hb80] at h
                refine zr_iload F zd_XReader_numbers_134 rfl ?_
                refine zr_iload_n F zd_XReader_numbers_136 rfl ?_
                obtain ⟨hn86, h⟩ := zoI_s h
                refine zr_irem F zd_XReader_numbers_137 hn86 ?_
                refine zr_if_eq F 150 zd_XReader_numbers_138 (by decide) (fun hb87 => ?_) (fun hb87 => ?_)
                ·
                  rw [if_pos hb87] at h
                  refine zr_aload_n F zd_XReader_numbers_150 rfl ?_
                  refine zr_bipushv (v := 93) F zd_XReader_numbers_151 (by decide) ?_
                  obtain ⟨le89, hs88, h⟩ := zoS_s h
                  cases ep90 : F_XReader_need sh (p75.2) (q71.2.1) 93 with
                  | none =>
                    rw [ep90] at h
                    dsimp only [zoX] at h
                    exact zr_thrV F hno (kT_XReader_need l D tA b sh _ hl h) zd_XReader_numbers_153 (zW_o hs88 (by decide)) rfl zs_XReader_45 rfl zq_XReader_need rfl rfl ⟨(Nat.le_of_ble_eq_true rfl), (Nat.le_of_ble_eq_true rfl)⟩ (Nat.le_of_ble_eq_true rfl) ⟨(Nat.le_of_ble_eq_true rfl), (Nat.le_of_ble_eq_true rfl)⟩ ⟨(Nat.le_of_ble_eq_true rfl), (Nat.le_of_ble_eq_true rfl)⟩
                  | some p90 =>
                    rw [ep90] at h
                    dsimp only [zoX] at h
                    refine zr_callV0 F (k_XReader_need l D tA b sh _ ep90) zd_XReader_numbers_153 (zW_o hs88 (by decide)) rfl zs_XReader_45 rfl zq_XReader_need rfl rfl ⟨(Nat.le_of_ble_eq_true rfl), (Nat.le_of_ble_eq_true rfl)⟩ (Nat.le_of_ble_eq_true rfl) ⟨(Nat.le_of_ble_eq_true rfl), (Nat.le_of_ble_eq_true rfl)⟩ ?_
                    refine zr_pcn 156 rfl ?_
                    refine zr_iload F zd_XReader_numbers_156 rfl ?_
                    cases h
                ·
                  rw [if_neg hb87] at h
                  refine zr_aload_n F zd_XReader_numbers_141 rfl ?_
                  refine zr_iconstv (v := 3) F zd_XReader_numbers_142 (by decide) ?_
                  refine zr_aload_n F zd_XReader_numbers_143 rfl ?_
                  obtain ⟨le92, hs91, h⟩ := zoS_s h
                  refine zr_get F 7 5 zd_XReader_numbers_144 (zW_o hs91 (by decide)) rfl (by decide) zw_53 rfl (by rfl) ?_
                  obtain ⟨le94, hs93, h⟩ := zoS_s h
                  exact zr_thrV F hno (kT_XReader_refuse l D tA b sh _ hl h) zd_XReader_numbers_147 (zW_o hs93 (by decide)) rfl zs_XReader_77 rfl zq_XReader_refuse rfl rfl ⟨(Nat.le_of_ble_eq_true rfl), (Nat.le_of_ble_eq_true rfl)⟩ (Nat.le_of_ble_eq_true rfl) ⟨(Nat.le_of_ble_eq_true rfl), (Nat.le_of_ble_eq_true rfl)⟩ ⟨(Nat.le_of_ble_eq_true rfl), (Nat.le_of_ble_eq_true rfl)⟩
          ·
            rw [if_neg hb72] at h
            refine zr_aload_n F zd_XReader_numbers_100 rfl ?_
            refine zr_pcn 101 rfl ?_
            refine zr_ldcw F zd_XReader_numbers_101 zw_1201 ?_
            refine zr_ldcw F zd_XReader_numbers_104 zw_1195 ?_
            obtain ⟨le97, hs96, h⟩ := zoS_s h
            cases ep98 : F_XReader_needNumber sh (q71.2.2.2.2.2.2.2.2.2.2) (q71.2.1) (-100000000) 100000000 with
            | none =>
              rw [ep98] at h
              dsimp only [zoX] at h
              exact zr_thrV F hno (kT_XReader_needNumber l D tA b sh _ hl h) zd_XReader_numbers_107 (zW_o hs96 (by decide)) rfl zs_XReader_278 rfl zq_XReader_needNumber rfl rfl ⟨(Nat.le_of_ble_eq_true rfl), (Nat.le_of_ble_eq_true rfl)⟩ (Nat.le_of_ble_eq_true rfl) ⟨(Nat.le_of_ble_eq_true rfl), (Nat.le_of_ble_eq_true rfl)⟩ ⟨(Nat.le_of_ble_eq_true rfl), (Nat.le_of_ble_eq_true rfl)⟩
            | some p98 =>
              rw [ep98] at h
              dsimp only [zoX] at h
              refine zr_callV1 F (k_XReader_needNumber l D tA b sh _ ep98) zd_XReader_numbers_107 (zW_o hs96 (by decide)) rfl zs_XReader_278 rfl zq_XReader_needNumber rfl rfl ⟨(Nat.le_of_ble_eq_true rfl), (Nat.le_of_ble_eq_true rfl)⟩ (Nat.le_of_ble_eq_true rfl) ⟨(Nat.le_of_ble_eq_true rfl), (Nat.le_of_ble_eq_true rfl)⟩ ?_
              refine zr_pop F zd_XReader_numbers_110 rfl ?_
              refine zr_aload_n F zd_XReader_numbers_111 rfl ?_
              refine zr_iconstv (v := 3) F zd_XReader_numbers_112 (by decide) ?_
              refine zr_aload_n F zd_XReader_numbers_113 rfl ?_
              obtain ⟨le100, hs99, h⟩ := zoS_s h
              refine zr_get F 7 6 zd_XReader_numbers_114 (zW_o hs99 (by decide)) rfl (by decide) zw_54 rfl (by rfl) ?_
              refine zr_pcn 117 rfl ?_
              obtain ⟨le102, hs101, h⟩ := zoS_s h
              exact zr_thrV F hno (kT_XReader_refuse l D tA b sh _ hl h) zd_XReader_numbers_117 (zW_o hs101 (by decide)) rfl zs_XReader_77 rfl zq_XReader_refuse rfl rfl ⟨(Nat.le_of_ble_eq_true rfl), (Nat.le_of_ble_eq_true rfl)⟩ (Nat.le_of_ble_eq_true rfl) ⟨(Nat.le_of_ble_eq_true rfl), (Nat.le_of_ble_eq_true rfl)⟩ ⟨(Nat.le_of_ble_eq_true rfl), (Nat.le_of_ble_eq_true rfl)⟩
        ·
          intro ec
          rw [if_neg (by rw [ec]; decide)] at h
          obtain rfl := Option.some.inj h
          exact ⟨rfl, rfl⟩
theorem zw_251 : (Jvm.Cond.fieldLink "OrreryBox$Scene" (72 : Nat) "OrreryBox$Track" "node" "I") ∈ gw := gw_t 251 (by decide +kernel) rfl
theorem zw_226 : (Jvm.Cond.fieldLink "OrreryBox$Scene" (75 : Nat) "OrreryBox$Node" "numbers" "[I") ∈ gw := gw_t 226 (by decide +kernel) rfl
theorem zw_557 : (Jvm.Cond.methodLink "OrreryBox$Scene" (78 : Nat) ({ cls := "OrreryBox$Track", name := "apply", desc := "(I[I)V" } : Jvm.MethodName)) ∈ gw := gw_t 557 (by decide +kernel) rfl
theorem zw_558 : (Jvm.Cond.instanceMethod ({ cls := "OrreryBox$Track", name := "apply", desc := "(I[I)V" } : Jvm.MethodName)) ∈ gw := gw_t 558 (by decide +kernel) rfl
theorem zw_559 : (Jvm.Cond.selects "OrreryBox$Track" ({ cls := "OrreryBox$Track", name := "apply", desc := "(I[I)V" } : Jvm.MethodName) ({ cls := "OrreryBox$Track", name := "apply", desc := "(I[I)V" } : Jvm.MethodName)) ∈ gw := gw_t 559 (by decide +kernel) rfl
theorem zs_XScene_78 : zwV "OrreryBox$Scene" 78 "OrreryBox$Track" zy_XTrack_apply zb_XTrack_apply 5 none := ⟨zw_557, zw_558, zw_559, zw_9, zc_XTrack_apply⟩
def L_XScene_moveTo_12 (sh : zSh) (fuel : Nat) (v0 : Nat) (v1 : Int32) (v2 : Int32) (mm : zMem) : Option (Nat × Int32 × Int32 × zMem) := match fuel with
  | 0 => none
  | fu + 1 => zoS (sh v0) 8 (fun le8 => Option.bind (mm.2.2 v0 0) (fun a9 => zoS (sh a9) 100 (fun le11 => if (4 : Int32) < 0 ∨ le11 ≤ (4 : Int32).toNatClampNeg then none else (if (mm.1 a9 (4 : Int32).toNatClampNeg) ≤ v2 then some (v0, v1, v2, mm) else zoS (sh v0) 8 (fun le15 => Option.bind (mm.2.2 v0 5) (fun a16 => zoR (sh a16) (fun t20 le18 => if (v2 : Int32) < 0 ∨ le18 ≤ (v2 : Int32).toNatClampNeg then none else Option.bind (mm.2.2 a16 (v2 : Int32).toNatClampNeg) (fun a21 => zoS (sh v0) 8 (fun le23 => Option.bind (mm.2.2 v0 4) (fun a24 => zoS (sh v0) 8 (fun le26 => Option.bind (mm.2.2 v0 5) (fun a27 => zoR (sh a27) (fun t31 le29 => if (v2 : Int32) < 0 ∨ le29 ≤ (v2 : Int32).toNatClampNeg then none else Option.bind (mm.2.2 a27 (v2 : Int32).toNatClampNeg) (fun a32 => zoS (sh a32) 11 (fun le34 => zoL (mm.1 a32 0) (fun i35 => zoR (sh a24) (fun t39 le37 => if (i35 : Int32) < 0 ∨ le37 ≤ (i35 : Int32).toNatClampNeg then none else Option.bind (mm.2.2 a24 (i35 : Int32).toNatClampNeg) (fun a40 => zoS (sh a40) 3 (fun le42 => Option.bind (mm.2.2 a40 4) (fun a43 => zoS (sh a21) 11 (fun le45 => Option.bind (F_XTrack_apply sh mm a21 v1 a43) (fun p46 => L_XScene_moveTo_12 sh fu v0 v1 (v2 + 1) p46))))))))))))))))))))))
set_option maxHeartbeats 4000000 in
set_option maxRecDepth 100000 in
theorem lp_XScene_moveTo_12 {p : Program} {l : Launch} {e : Env} {s : State} {m : MethodId} {args : Array Value} {below : List Frame} {meth : Method} {c : Code} {D : va_G} {tA : Nat → ClassId} {b n : Nat} {post : Option Value → zV → Nat → Prop} {sh : zSh} (F : zF p s m args meth c zb_XScene_moveTo 3 "OrreryBox$Scene" D tA b) : ∀ (fuel : Nat) (v0 : Nat) (v1 : Int32) (v2 : Int32) (mm : zMem) (r : Nat × Int32 × Int32 × zMem), L_XScene_moveTo_12 sh fuel v0 v1 v2 mm = some r → (Z p l e { frames := 4, cells := 0, slots := 0, locals := 106 } s m args below meth c D b 3 (MQ below (zQ D b post) args s 0 0 (fun q => b ≤ q)) (zW tA b sh r.2.2.2) n 0 0 55 [(0, .ref (b + (r.1))), (1, .int (r.2.1)), (2, .int (r.2.2.1))] []) → Z p l e { frames := 4, cells := 0, slots := 0, locals := 106 } s m args below meth c D b 3 (MQ below (zQ D b post) args s 0 0 (fun q => b ≤ q)) (zW tA b sh mm) n 0 0 12 [(0, .ref (b + v0)), (1, .int v1), (2, .int v2)] [] := by
  intro fuel
  induction fuel with
  | zero =>
    intro v0 v1 v2 mm r h
    cases h
  | succ fu ih =>
    intro v0 v1 v2 mm r h hx0
    rw [L_XScene_moveTo_12] at h
    refine zr_iload_n F zd_XScene_moveTo_12 rfl ?_
    refine zr_aload_n F zd_XScene_moveTo_13 rfl ?_
    obtain ⟨le8, hs7, h⟩ := zoS_s h
    obtain ⟨a9, ea9, h⟩ := zoB_s h
    refine zr_get F 8 0 zd_XScene_moveTo_14 (zW_o hs7 (by decide)) rfl (by decide) zw_281 rfl (by rfl) ?_
    refine zr_tor ea9 ?_
    refine zr_iconstv (v := 4) F zd_XScene_moveTo_17 (by decide) ?_
    obtain ⟨le11, hs10, h⟩ := zoS_s h
    obtain ⟨hi12, h⟩ := zoI_s h
    refine zr_iald F zd_XScene_moveTo_18 (zW_a0 hs10) hi12 ?_
    refine zr_icmp_ge F 55 zd_XScene_moveTo_19 (by decide) (fun hb13 => ?_) (fun hb13 => ?_)
    ·
      rw [if_pos hb13] at h
      obtain rfl := Option.some.inj h
      refine zr_loc (L' := [(0, .ref (b + v0)), (1, .int v1), (2, .int v2)]) ⟨rfl, rfl, rfl, trivial⟩ ?_
      exact hx0 
    ·
      rw [if_neg hb13] at h
      refine zr_aload_n F zd_XScene_moveTo_22 rfl ?_
      refine zr_pcn 23 rfl ?_
      obtain ⟨le15, hs14, h⟩ := zoS_s h
      obtain ⟨a16, ea16, h⟩ := zoB_s h
      refine zr_get F 8 5 zd_XScene_moveTo_23 (zW_o hs14 (by decide)) rfl (by decide) zw_299 rfl (by rfl) ?_
      refine zr_tor ea16 ?_
      refine zr_iload_n F zd_XScene_moveTo_26 rfl ?_
      obtain ⟨t20, le18, hs17, h⟩ := zoR_s h
      obtain ⟨hi19, h⟩ := zoI_s h
      obtain ⟨a21, ea21, h⟩ := zoB_s h
      refine zr_aaldW F zd_XScene_moveTo_27 hs17 hi19 ea21 ?_
      refine zr_iload_n F zd_XScene_moveTo_28 rfl ?_
      refine zr_aload_n F zd_XScene_moveTo_29 rfl ?_
      obtain ⟨le23, hs22, h⟩ := zoS_s h
      obtain ⟨a24, ea24, h⟩ := zoB_s h
      refine zr_get F 8 4 zd_XScene_moveTo_30 (zW_o hs22 (by decide)) rfl (by decide) zw_295 rfl (by rfl) ?_
      refine zr_tor ea24 ?_
      refine zr_aload_n F zd_XScene_moveTo_33 rfl ?_
      obtain ⟨le26, hs25, h⟩ := zoS_s h
      obtain ⟨a27, ea27, h⟩ := zoB_s h
      refine zr_get F 8 5 zd_XScene_moveTo_34 (zW_o hs25 (by decide)) rfl (by decide) zw_299 rfl (by rfl) ?_
      refine zr_tor ea27 ?_
      refine zr_pcn 37 rfl ?_
      refine zr_iload_n F zd_XScene_moveTo_37 rfl ?_
      obtain ⟨t31, le29, hs28, h⟩ := zoR_s h
      obtain ⟨hi30, h⟩ := zoI_s h
      obtain ⟨a32, ea32, h⟩ := zoB_s h
      refine zr_aaldW F zd_XScene_moveTo_38 hs28 hi30 ea32 ?_
      obtain ⟨le34, hs33, h⟩ := zoS_s h
      refine zr_get F 11 0 zd_XScene_moveTo_39 (zW_o hs33 (by decide)) rfl (by decide) zw_251 rfl (by rfl) ?_
      obtain ⟨i35, ei35, h⟩ := zoL_s h
      rw [← ei35]
      obtain ⟨t39, le37, hs36, h⟩ := zoR_s h
      obtain ⟨hi38, h⟩ := zoI_s h
      obtain ⟨a40, ea40, h⟩ := zoB_s h
      refine zr_aaldW F zd_XScene_moveTo_42 hs36 hi38 ea40 ?_
      obtain ⟨le42, hs41, h⟩ := zoS_s h
      obtain ⟨a43, ea43, h⟩ := zoB_s h
      refine zr_get F 3 4 zd_XScene_moveTo_43 (zW_o hs41 (by decide)) rfl (by decide) zw_226 rfl (by rfl) ?_
      refine zr_tor ea43 ?_
      obtain ⟨le45, hs44, h⟩ := zoS_s h
      obtain ⟨p46, ep46, h⟩ := zoB_s h
      refine zr_callV0 F (k_XTrack_apply l D tA b sh _ ep46) zd_XScene_moveTo_46 (zW_o hs44 (by decide)) rfl zs_XScene_78 rfl zq_XTrack_apply rfl rfl ⟨(Nat.le_of_ble_eq_true rfl), (Nat.le_of_ble_eq_true rfl)⟩ (Nat.le_of_ble_eq_true rfl) ⟨(Nat.le_of_ble_eq_true rfl), (Nat.le_of_ble_eq_true rfl)⟩ ?_
      refine zr_iinc (v := (v2 + 1)) F zd_XScene_moveTo_49 rfl rfl (by decide) ?_
      refine zr_goto F 12 zd_XScene_moveTo_52 (by decide) ?_
      refine zr_loc (L' := [(0, .ref (b + v0)), (1, .int v1), (2, .int (v2 + 1))]) ⟨rfl, rfl, rfl, trivial⟩ ?_
      exact ih _ _ _ _ _ h hx0
def F_XScene_moveTo (sh : zSh) (mm : zMem) (o : Nat) (x0_ : Int32) : Option zMem := zoS (sh o) 8 (fun le2 => zoL (mI mm o 8 x0_) (fun mm3 => zoS (sh o) 8 (fun le5 => zoL (mI mm3 o 9 0) (fun mm6 => Option.bind (L_XScene_moveTo_12 sh zfuel o x0_ 0 mm6) (fun q47 => some (q47.2.2.2))))))
set_option maxHeartbeats 4000000 in
set_option maxRecDepth 100000 in
theorem k_XScene_moveTo (l : Launch) (D : va_G) (tA : Nat → ClassId) (b : Nat) (sh : zSh) (n : Nat) {mm : zMem} {o : Nat} {x0_ : Int32} {r : zMem} (h : F_XScene_moveTo sh mm o x0_ = some r) : zM l D tA b zy_XScene_moveTo zb_XScene_moveTo 3 none 4 106 0 0 [.ref (b + o), .int x0_] (zW tA b sh mm) n (zE none (zW tA b sh r) n) := by
  unfold F_XScene_moveTo at h
  refine zM_of (own := "OrreryBox$Scene") (plainFor_of_name (by decide)) rfl (Nat.le_of_ble_eq_true rfl) (fun p e s m below meth c F hr hin hH => ?_)
  refine zr_aload_n F zd_XScene_moveTo_0 rfl ?_
  refine zr_iload_n F zd_XScene_moveTo_1 rfl ?_
  obtain ⟨le2, hs1, h⟩ := zoS_s h
  refine zr_put F 8 8 zd_XScene_moveTo_2 (zW_o hs1 (by decide)) rfl (by decide) zw_309 rfl rfl rfl rfl (by exact (Nat.le_of_ble_eq_true rfl)) ?_
  obtain ⟨mm3, emm3, h⟩ := zoL_s h
  refine zr_norm (zW tA b sh mm3) _ (by rw [emm3]; exact zW_pI (v := x0_) hs1 (by decide) (zf_I_8_8 b _ _ _)) rfl ?_
  refine zr_aload_n F zd_XScene_moveTo_5 rfl ?_
  refine zr_iconstv (v := 0) F zd_XScene_moveTo_6 (by decide) ?_
  obtain ⟨le5, hs4, h⟩ := zoS_s h
  refine zr_put F 8 9 zd_XScene_moveTo_7 (zW_o hs4 (by decide)) rfl (by decide) zw_311 rfl rfl rfl rfl (by exact (Nat.le_of_ble_eq_true rfl)) ?_
  obtain ⟨mm6, emm6, h⟩ := zoL_s h
  refine zr_norm (zW tA b sh mm6) _ (by rw [emm6]; exact zW_pI (v := 0) hs4 (by decide) (zf_I_8_9 b _ _ _)) rfl ?_
  refine zr_iconstv (v := 0) F zd_XScene_moveTo_10 (by decide) ?_
  refine zr_pcn 11 rfl ?_
  refine zr_istore_n F zd_XScene_moveTo_11 (by decide) ?_
  obtain ⟨q47, eq47, h⟩ := zoB_s h
  refine zr_loc (L' := [(0, .ref (b + o)), (1, .int x0_), (2, .int 0)]) ⟨rfl, rfl, rfl, trivial⟩ ?_
  refine lp_XScene_moveTo_12 F _ _ _ _ _ _ eq47 ?_
  ·
    refine zr_pcn 55 rfl ?_
    obtain rfl := Option.some.inj h
    exact zr_vret F hr zd_XScene_moveTo_55 (Nat.le_of_ble_eq_true rfl) (Nat.le_of_ble_eq_true rfl) ⟨rfl, rfl, rfl⟩
theorem zf_R_9_7 (b : Nat) (m : zMem) (k : Nat) (v : Option Nat) : (zfl b 9 m k).set 7 (zrf b v) = zfl b 9 (mR m k 7 v) k := by simp [zfl, mR, upd, vp_updL]
theorem zf_I_9_12 (b : Nat) (m : zMem) (k : Nat) (v : Int32) : (zfl b 9 m k).set 12 (.int v) = zfl b 9 (mI m k 12 v) k := by simp [zfl, mI, upd, vp_updL]
theorem zf_I_9_1 (b : Nat) (m : zMem) (k : Nat) (v : Int32) : (zfl b 9 m k).set 1 (.int v) = zfl b 9 (mI m k 1 v) k := by simp [zfl, mI, upd, vp_updL]
theorem zf_I_9_4 (b : Nat) (m : zMem) (k : Nat) (v : Int32) : (zfl b 9 m k).set 4 (.int v) = zfl b 9 (mI m k 4 v) k := by simp [zfl, mI, upd, vp_updL]
theorem zw_223 : (Jvm.Cond.fieldLink "OrreryBox$Sight" (80 : Nat) "OrreryBox$Node" "shown" "Z") ∈ gw := gw_t 223 (by decide +kernel) rfl
theorem zw_679 : (Jvm.Cond.methodLink "OrreryBox$Sight" (92 : Nat) ({ cls := "OrreryBox$Fixed", name := "multiply", desc := "([I[I[I)V" } : Jvm.MethodName)) ∈ gw := gw_t 679 (by decide +kernel) rfl
theorem zs_XSight_92 : zwS "OrreryBox$Sight" 92 zy_XFixed_multiply zb_XFixed_multiply 7 none := ⟨zw_679, zw_658, zw_27, zc_XFixed_multiply⟩
theorem zw_680 : (Jvm.Cond.methodLink "OrreryBox$Sight" (98 : Nat) ({ cls := "OrreryBox$Sight", name := "queue", desc := "(I)V" } : Jvm.MethodName)) ∈ gw := gw_t 680 (by decide +kernel) rfl
theorem zw_682 : (Jvm.Cond.instanceMethod ({ cls := "OrreryBox$Sight", name := "queue", desc := "(I)V" } : Jvm.MethodName)) ∈ gw := gw_t 682 (by decide +kernel) rfl
theorem zv_6 : (Jvm.Cond.selects "OrreryBox$Sight" (⟨"OrreryBox$Sight", "queue", "(I)V"⟩ : MethodName) ⟨"OrreryBox$Sight", "queue", "(I)V"⟩) ∈ gw := gw_s 6 (by decide +kernel) rfl
theorem zs_XSight_98 : zwV "OrreryBox$Sight" 98 "OrreryBox$Sight" zy_XSight_queue zb_XSight_queue 3 none := ⟨zw_680, zw_682, zv_6, zw_10, zc_XSight_queue⟩
def L_XSight_stand_36 (sh : zSh) (fuel : Nat) (v0 : Nat) (v2 : Int32) (mm : zMem) : Option (Nat × Int32 × zMem) := match fuel with
  | 0 => none
  | fu + 1 => zoS (sh v0) 9 (fun le23 => Option.bind (mm.2.2 v0 7) (fun a24 => zoS (sh a24) 8 (fun le26 => Option.bind (mm.2.2 a24 0) (fun a27 => zoS (sh a27) 100 (fun le29 => if (3 : Int32) < 0 ∨ le29 ≤ (3 : Int32).toNatClampNeg then none else (if (mm.1 a27 (3 : Int32).toNatClampNeg) ≤ v2 then some (v0, v2, mm) else zoS (sh v0) 9 (fun le33 => Option.bind (mm.2.2 v0 7) (fun a34 => zoS (sh a34) 8 (fun le36 => Option.bind (mm.2.2 a34 4) (fun a37 => zoR (sh a37) (fun t41 le39 => if (v2 : Int32) < 0 ∨ le39 ≤ (v2 : Int32).toNatClampNeg then none else Option.bind (mm.2.2 a37 (v2 : Int32).toNatClampNeg) (fun a42 => zoS (sh a42) 3 (fun le44 => (if (mm.1 a42 3) = 0 then L_XSight_stand_36 sh fu v0 (v2 + 1) mm else zoS (sh a42) 3 (fun le47 => (if (mm.1 a42 1) < 0 then L_XSight_stand_36 sh fu v0 (v2 + 1) mm else zoS (sh v0) 9 (fun le50 => Option.bind (mm.2.2 v0 8) (fun a51 => zoS (sh a42) 3 (fun le53 => Option.bind (mm.2.2 a42 5) (fun a54 => zoS (sh v0) 9 (fun le56 => Option.bind (mm.2.2 v0 9) (fun a57 => zoR (sh a57) (fun t61 le59 => if (v2 : Int32) < 0 ∨ le59 ≤ (v2 : Int32).toNatClampNeg then none else Option.bind (mm.2.2 a57 (v2 : Int32).toNatClampNeg) (fun a62 => Option.bind (F_XFixed_multiply sh mm a51 a54 a62) (fun p63 => zoS (sh v0) 9 (fun le65 => Option.bind (F_XSight_queue sh p63 v0 v2) (fun p66 => L_XSight_stand_36 sh fu v0 (v2 + 1) p66)))))))))))))))))))))))))))
set_option maxHeartbeats 4000000 in
set_option maxRecDepth 100000 in
theorem lp_XSight_stand_36 {p : Program} {l : Launch} {e : Env} {s : State} {m : MethodId} {args : Array Value} {below : List Frame} {meth : Method} {c : Code} {D : va_G} {tA : Nat → ClassId} {b n : Nat} {post : Option Value → zV → Nat → Prop} {sh : zSh} (F : zF p s m args meth c zb_XSight_stand 4 "OrreryBox$Sight" D tA b) : ∀ (fuel : Nat) (v0 : Nat) (v2 : Int32) (mm : zMem) (r : Nat × Int32 × zMem), L_XSight_stand_36 sh fuel v0 v2 mm = some r → (Z p l e { frames := 5, cells := 0, slots := 0, locals := 124 } s m args below meth c D b 4 (MQ below (zQ D b post) args s 0 0 (fun q => b ≤ q)) (zW tA b sh r.2.2) n 0 0 101 [(0, .ref (b + (r.1))), (2, .int (r.2.1))] []) → Z p l e { frames := 5, cells := 0, slots := 0, locals := 124 } s m args below meth c D b 4 (MQ below (zQ D b post) args s 0 0 (fun q => b ≤ q)) (zW tA b sh mm) n 0 0 36 [(0, .ref (b + v0)), (2, .int v2)] [] := by
  intro fuel
  induction fuel with
  | zero =>
    intro v0 v2 mm r h
    cases h
  | succ fu ih =>
    intro v0 v2 mm r h hx0
    rw [L_XSight_stand_36] at h
    refine zr_iload_n F zd_XSight_stand_36 rfl ?_
    refine zr_pcn 37 rfl ?_
    refine zr_aload_n F zd_XSight_stand_37 rfl ?_
    obtain ⟨le23, hs22, h⟩ := zoS_s h
    obtain ⟨a24, ea24, h⟩ := zoB_s h
    refine zr_get F 9 7 zd_XSight_stand_38 (zW_o hs22 (by decide)) rfl (by decide) zw_380 rfl (by rfl) ?_
    refine zr_tor ea24 ?_
    obtain ⟨le26, hs25, h⟩ := zoS_s h
    obtain ⟨a27, ea27, h⟩ := zoB_s h
    refine zr_get F 8 0 zd_XSight_stand_41 (zW_o hs25 (by decide)) rfl (by decide) zw_282 rfl (by rfl) ?_
    refine zr_tor ea27 ?_
    refine zr_iconstv (v := 3) F zd_XSight_stand_44 (by decide) ?_
    obtain ⟨le29, hs28, h⟩ := zoS_s h
    obtain ⟨hi30, h⟩ := zoI_s h
    refine zr_iald F zd_XSight_stand_45 (zW_a0 hs28) hi30 ?_
    refine zr_icmp_ge F 101 zd_XSight_stand_46 (by decide) (fun hb31 => ?_) (fun hb31 => ?_)
    ·
      rw [if_pos hb31] at h
      obtain rfl := Option.some.inj h
      refine zr_loc (L' := [(0, .ref (b + v0)), (2, .int v2)]) ⟨rfl, rfl, trivial⟩ ?_
      exact hx0 
    ·
      rw [if_neg hb31] at h
      refine zr_aload_n F zd_XSight_stand_49 rfl ?_
      obtain ⟨le33, hs32, h⟩ := zoS_s h
      obtain ⟨a34, ea34, h⟩ := zoB_s h
      refine zr_get F 9 7 zd_XSight_stand_50 (zW_o hs32 (by decide)) rfl (by decide) zw_380 rfl (by rfl) ?_
      refine zr_tor ea34 ?_
      refine zr_pcn 53 rfl ?_
      obtain ⟨le36, hs35, h⟩ := zoS_s h
      obtain ⟨a37, ea37, h⟩ := zoB_s h
      refine zr_get F 8 4 zd_XSight_stand_53 (zW_o hs35 (by decide)) rfl (by decide) zw_296 rfl (by rfl) ?_
      refine zr_tor ea37 ?_
      refine zr_iload_n F zd_XSight_stand_56 rfl ?_
      obtain ⟨t41, le39, hs38, h⟩ := zoR_s h
      obtain ⟨hi40, h⟩ := zoI_s h
      obtain ⟨a42, ea42, h⟩ := zoB_s h
      refine zr_aaldW F zd_XSight_stand_57 hs38 hi40 ea42 ?_
      refine zr_astore_n F zd_XSight_stand_58 (by decide) ?_
      refine zr_aload_n F zd_XSight_stand_59 rfl ?_
      obtain ⟨le44, hs43, h⟩ := zoS_s h
      refine zr_get F 3 3 zd_XSight_stand_60 (zW_o hs43 (by decide)) rfl (by decide) zw_223 rfl (by rfl) ?_
      refine zr_if_eq F 95 zd_XSight_stand_63 (by decide) (fun hb45 => ?_) (fun hb45 => ?_)
      ·
        rw [if_pos hb45] at h
        refine zr_iinc (v := (v2 + 1)) F zd_XSight_stand_95 rfl rfl (by decide) ?_
        refine zr_pcn 98 rfl ?_
        refine zr_goto F 36 zd_XSight_stand_98 (by decide) ?_
        refine zr_loc (L' := [(0, .ref (b + v0)), (2, .int (v2 + 1))]) ⟨rfl, rfl, trivial⟩ ?_
        exact ih _ _ _ _ h hx0
      ·
        rw [if_neg hb45] at h
        refine zr_aload_n F zd_XSight_stand_66 rfl ?_
        obtain ⟨le47, hs46, h⟩ := zoS_s h
        refine zr_get F 3 1 zd_XSight_stand_67 (zW_o hs46 (by decide)) rfl (by decide) zw_217 rfl (by rfl) ?_
        refine zr_if_lt F 95 zd_XSight_stand_70 (by decide) (fun hb48 => ?_) (fun hb48 => ?_)
        ·
          rw [if_pos hb48] at h
          refine zr_iinc (v := (v2 + 1)) F zd_XSight_stand_95 rfl rfl (by decide) ?_
          refine zr_goto F 36 zd_XSight_stand_98 (by decide) ?_
          refine zr_loc (L' := [(0, .ref (b + v0)), (2, .int (v2 + 1))]) ⟨rfl, rfl, trivial⟩ ?_
          exact ih _ _ _ _ h hx0
        ·
          rw [if_neg hb48] at h
          refine zr_aload_n F zd_XSight_stand_73 rfl ?_
          obtain ⟨le50, hs49, h⟩ := zoS_s h
          obtain ⟨a51, ea51, h⟩ := zoB_s h
          refine zr_get F 9 8 zd_XSight_stand_74 (zW_o hs49 (by decide)) rfl (by decide) zw_381 rfl (by rfl) ?_
          refine zr_tor ea51 ?_
          refine zr_pcn 77 rfl ?_
          refine zr_aload_n F zd_XSight_stand_77 rfl ?_
          obtain ⟨le53, hs52, h⟩ := zoS_s h
          obtain ⟨a54, ea54, h⟩ := zoB_s h
          refine zr_get F 3 5 zd_XSight_stand_78 (zW_o hs52 (by decide)) rfl (by decide) zw_230 rfl (by rfl) ?_
          refine zr_tor ea54 ?_
          refine zr_aload_n F zd_XSight_stand_81 rfl ?_
          obtain ⟨le56, hs55, h⟩ := zoS_s h
          obtain ⟨a57, ea57, h⟩ := zoB_s h
          refine zr_get F 9 9 zd_XSight_stand_82 (zW_o hs55 (by decide)) rfl (by decide) zw_382 rfl (by rfl) ?_
          refine zr_tor ea57 ?_
          refine zr_iload_n F zd_XSight_stand_85 rfl ?_
          obtain ⟨t61, le59, hs58, h⟩ := zoR_s h
          obtain ⟨hi60, h⟩ := zoI_s h
          obtain ⟨a62, ea62, h⟩ := zoB_s h
          refine zr_aaldW F zd_XSight_stand_86 hs58 hi60 ea62 ?_
          obtain ⟨p63, ep63, h⟩ := zoB_s h
          refine zr_callS0 F (k_XFixed_multiply l D tA b sh _ ep63) zd_XSight_stand_87 zs_XSight_92 zq_XFixed_multiply rfl rfl ⟨(Nat.le_of_ble_eq_true rfl), (Nat.le_of_ble_eq_true rfl)⟩ (Nat.le_of_ble_eq_true rfl) ⟨(Nat.le_of_ble_eq_true rfl), (Nat.le_of_ble_eq_true rfl)⟩ ?_
          refine zr_aload_n F zd_XSight_stand_90 rfl ?_
          refine zr_pcn 91 rfl ?_
          refine zr_iload_n F zd_XSight_stand_91 rfl ?_
          obtain ⟨le65, hs64, h⟩ := zoS_s h
          obtain ⟨p66, ep66, h⟩ := zoB_s h
          refine zr_callV0 F (k_XSight_queue l D tA b sh _ ep66) zd_XSight_stand_92 (zW_o hs64 (by decide)) rfl zs_XSight_98 rfl zq_XSight_queue rfl rfl ⟨(Nat.le_of_ble_eq_true rfl), (Nat.le_of_ble_eq_true rfl)⟩ (Nat.le_of_ble_eq_true rfl) ⟨(Nat.le_of_ble_eq_true rfl), (Nat.le_of_ble_eq_true rfl)⟩ ?_
          refine zr_iinc (v := (v2 + 1)) F zd_XSight_stand_95 rfl rfl (by decide) ?_
          refine zr_goto F 36 zd_XSight_stand_98 (by decide) ?_
          refine zr_loc (L' := [(0, .ref (b + v0)), (2, .int (v2 + 1))]) ⟨rfl, rfl, trivial⟩ ?_
          exact ih _ _ _ _ h hx0
def F_XSight_stand (sh : zSh) (mm : zMem) (o : Nat) (x0_ : Nat) : Option zMem := zoS (sh o) 9 (fun le2 => zoL (mR mm o 7 (some x0_)) (fun mm3 => zoS (sh o) 9 (fun le5 => zoL (mI mm3 o 11 0) (fun mm6 => zoS (sh o) 9 (fun le8 => zoL (mI mm6 o 12 0) (fun mm9 => zoS (sh o) 9 (fun le11 => zoL (mI mm9 o 1 (-1)) (fun mm12 => zoS (sh o) 9 (fun le14 => zoL (mI mm12 o 3 0) (fun mm15 => zoS (sh o) 9 (fun le17 => zoL (mI mm15 o 4 0) (fun mm18 => zoS (sh o) 9 (fun le20 => Option.bind (F_XSight_placeView sh mm18 o) (fun p21 => Option.bind (L_XSight_stand_36 sh zfuel o 0 p21) (fun q67 => some (q67.2.2))))))))))))))))
set_option maxHeartbeats 4000000 in
set_option maxRecDepth 100000 in
theorem k_XSight_stand (l : Launch) (D : va_G) (tA : Nat → ClassId) (b : Nat) (sh : zSh) (n : Nat) {mm : zMem} {o : Nat} {x0_ : Nat} {r : zMem} (h : F_XSight_stand sh mm o x0_ = some r) : zM l D tA b zy_XSight_stand zb_XSight_stand 4 none 5 124 0 0 [.ref (b + o), .ref (b + x0_)] (zW tA b sh mm) n (zE none (zW tA b sh r) n) := by
  unfold F_XSight_stand at h
  refine zM_of (own := "OrreryBox$Sight") (plainFor_of_name (by decide)) rfl (Nat.le_of_ble_eq_true rfl) (fun p e s m below meth c F hr hin hH => ?_)
  refine zr_aload_n F zd_XSight_stand_0 rfl ?_
  refine zr_aload_n F zd_XSight_stand_1 rfl ?_
  obtain ⟨le2, hs1, h⟩ := zoS_s h
  refine zr_put F 9 7 zd_XSight_stand_2 (zW_o hs1 (by decide)) rfl (by decide) zw_380 rfl rfl rfl rfl (by exact (Nat.le_of_ble_eq_true rfl)) ?_
  obtain ⟨mm3, emm3, h⟩ := zoL_s h
  refine zr_norm (zW tA b sh mm3) _ (by rw [emm3]; exact zW_pR (v := (some x0_)) hs1 (by decide) (zf_R_9_7 b _ _ _)) rfl ?_
  refine zr_aload_n F zd_XSight_stand_5 rfl ?_
  refine zr_iconstv (v := 0) F zd_XSight_stand_6 (by decide) ?_
  obtain ⟨le5, hs4, h⟩ := zoS_s h
  refine zr_put F 9 11 zd_XSight_stand_7 (zW_o hs4 (by decide)) rfl (by decide) zw_384 rfl rfl rfl rfl (by exact (Nat.le_of_ble_eq_true rfl)) ?_
  obtain ⟨mm6, emm6, h⟩ := zoL_s h
  refine zr_norm (zW tA b sh mm6) _ (by rw [emm6]; exact zW_pI (v := 0) hs4 (by decide) (zf_I_9_11 b _ _ _)) rfl ?_
  refine zr_aload_n F zd_XSight_stand_10 rfl ?_
  refine zr_pcn 11 rfl ?_
  refine zr_iconstv (v := 0) F zd_XSight_stand_11 (by decide) ?_
  obtain ⟨le8, hs7, h⟩ := zoS_s h
  refine zr_put F 9 12 zd_XSight_stand_12 (zW_o hs7 (by decide)) rfl (by decide) zw_385 rfl rfl rfl rfl (by exact (Nat.le_of_ble_eq_true rfl)) ?_
  obtain ⟨mm9, emm9, h⟩ := zoL_s h
  refine zr_norm (zW tA b sh mm9) _ (by rw [emm9]; exact zW_pI (v := 0) hs7 (by decide) (zf_I_9_12 b _ _ _)) rfl ?_
  refine zr_aload_n F zd_XSight_stand_15 rfl ?_
  refine zr_iconstv (v := (-1)) F zd_XSight_stand_16 (by decide) ?_
  obtain ⟨le11, hs10, h⟩ := zoS_s h
  refine zr_put F 9 1 zd_XSight_stand_17 (zW_o hs10 (by decide)) rfl (by decide) zw_373 rfl rfl rfl rfl (by exact (Nat.le_of_ble_eq_true rfl)) ?_
  obtain ⟨mm12, emm12, h⟩ := zoL_s h
  refine zr_norm (zW tA b sh mm12) _ (by rw [emm12]; exact zW_pI (v := (-1)) hs10 (by decide) (zf_I_9_1 b _ _ _)) rfl ?_
  refine zr_aload_n F zd_XSight_stand_20 rfl ?_
  refine zr_iconstv (v := 0) F zd_XSight_stand_21 (by decide) ?_
  obtain ⟨le14, hs13, h⟩ := zoS_s h
  refine zr_put F 9 3 zd_XSight_stand_22 (zW_o hs13 (by decide)) rfl (by decide) zw_376 rfl rfl rfl rfl (by exact (Nat.le_of_ble_eq_true rfl)) ?_
  obtain ⟨mm15, emm15, h⟩ := zoL_s h
  refine zr_norm (zW tA b sh mm15) _ (by rw [emm15]; exact zW_pI (v := 0) hs13 (by decide) (zf_I_9_3 b _ _ _)) rfl ?_
  refine zr_pcn 25 rfl ?_
  refine zr_aload_n F zd_XSight_stand_25 rfl ?_
  refine zr_iconstv (v := 0) F zd_XSight_stand_26 (by decide) ?_
  obtain ⟨le17, hs16, h⟩ := zoS_s h
  refine zr_put F 9 4 zd_XSight_stand_27 (zW_o hs16 (by decide)) rfl (by decide) zw_377 rfl rfl rfl rfl (by exact (Nat.le_of_ble_eq_true rfl)) ?_
  obtain ⟨mm18, emm18, h⟩ := zoL_s h
  refine zr_norm (zW tA b sh mm18) _ (by rw [emm18]; exact zW_pI (v := 0) hs16 (by decide) (zf_I_9_4 b _ _ _)) rfl ?_
  refine zr_aload_n F zd_XSight_stand_30 rfl ?_
  obtain ⟨le20, hs19, h⟩ := zoS_s h
  obtain ⟨p21, ep21, h⟩ := zoB_s h
  refine zr_callV0 F (k_XSight_placeView l D tA b sh _ ep21) zd_XSight_stand_31 (zW_o hs19 (by decide)) rfl zs_XSight_68 rfl zq_XSight_placeView rfl rfl ⟨(Nat.le_of_ble_eq_true rfl), (Nat.le_of_ble_eq_true rfl)⟩ (Nat.le_of_ble_eq_true rfl) ⟨(Nat.le_of_ble_eq_true rfl), (Nat.le_of_ble_eq_true rfl)⟩ ?_
  refine zr_iconstv (v := 0) F zd_XSight_stand_34 (by decide) ?_
  refine zr_istore_n F zd_XSight_stand_35 (by decide) ?_
  obtain ⟨q67, eq67, h⟩ := zoB_s h
  refine zr_loc (L' := [(0, .ref (b + o)), (2, .int 0)]) ⟨rfl, rfl, trivial⟩ ?_
  refine lp_XSight_stand_36 F _ _ _ _ _ eq67 ?_
  ·
    obtain rfl := Option.some.inj h
    exact zr_vret F hr zd_XSight_stand_101 (Nat.le_of_ble_eq_true rfl) (Nat.le_of_ble_eq_true rfl) ⟨rfl, rfl, rfl⟩
abbrev zb_XSight_cutFace : ByteArray := prog_10_method_13_code
def zy_XSight_cutFace : MethodName := ⟨"OrreryBox$Sight", "cutFace", "(LOrreryBox$Mesh;)V"⟩
theorem zc_XSight_cutFace : Cond.code zy_XSight_cutFace zb_XSight_cutFace 4 none ∈ gw := gw_t 721 (by decide +kernel) rfl
theorem zq_XSight_cutFace : zy_XSight_cutFace.cls ≠ "java/lang/invoke/MethodHandle" ∧ zy_XSight_cutFace.cls ≠ "java/lang/invoke/VarHandle" ∧ (parseMethodDescriptor zy_XSight_cutFace.desc).map (fun d => d.parameters.length) = some 1 := by decide +kernel
theorem zd_XSight_cutFace_0 : decode zb_XSight_cutFace 0 = .ok (.iconst 0, 1) := by decide +kernel
theorem zd_XSight_cutFace_1 : decode zb_XSight_cutFace 1 = .ok (.istore_n 2, 1) := by decide +kernel
theorem zd_XSight_cutFace_2 : decode zb_XSight_cutFace 2 = .ok (.iload_n 2, 1) := by decide +kernel
theorem zd_XSight_cutFace_3 : decode zb_XSight_cutFace 3 = .ok (.iconst 3, 1) := by decide +kernel
theorem zd_XSight_cutFace_4 : decode zb_XSight_cutFace 4 = .ok (.if_icmp .ge 103, 3) := by decide +kernel
theorem zd_XSight_cutFace_7 : decode zb_XSight_cutFace 7 = .ok (.aload_n 1, 1) := by decide +kernel
theorem zd_XSight_cutFace_8 : decode zb_XSight_cutFace 8 = .ok (.getfield 194, 3) := by decide +kernel
theorem zd_XSight_cutFace_11 : decode zb_XSight_cutFace 11 = .ok (.iconst 3, 1) := by decide +kernel
theorem zd_XSight_cutFace_12 : decode zb_XSight_cutFace 12 = .ok (.aload_n 0, 1) := by decide +kernel
theorem zd_XSight_cutFace_13 : decode zb_XSight_cutFace 13 = .ok (.getfield 59, 3) := by decide +kernel
theorem zd_XSight_cutFace_16 : decode zb_XSight_cutFace 16 = .ok (.imul, 1) := by decide +kernel
theorem zd_XSight_cutFace_17 : decode zb_XSight_cutFace 17 = .ok (.iload_n 2, 1) := by decide +kernel
theorem zd_XSight_cutFace_18 : decode zb_XSight_cutFace 18 = .ok (.iadd, 1) := by decide +kernel
theorem zd_XSight_cutFace_19 : decode zb_XSight_cutFace 19 = .ok (.iaload, 1) := by decide +kernel
theorem zd_XSight_cutFace_20 : decode zb_XSight_cutFace 20 = .ok (.istore_n 3, 1) := by decide +kernel
theorem zd_XSight_cutFace_21 : decode zb_XSight_cutFace 21 = .ok (.aload_n 0, 1) := by decide +kernel
theorem zd_XSight_cutFace_22 : decode zb_XSight_cutFace 22 = .ok (.getfield 36, 3) := by decide +kernel
theorem zd_XSight_cutFace_25 : decode zb_XSight_cutFace 25 = .ok (.iconst 4, 1) := by decide +kernel
theorem zd_XSight_cutFace_26 : decode zb_XSight_cutFace 26 = .ok (.iload_n 3, 1) := by decide +kernel
theorem zd_XSight_cutFace_27 : decode zb_XSight_cutFace 27 = .ok (.imul, 1) := by decide +kernel
theorem zd_XSight_cutFace_28 : decode zb_XSight_cutFace 28 = .ok (.aload_n 0, 1) := by decide +kernel
theorem zd_XSight_cutFace_29 : decode zb_XSight_cutFace 29 = .ok (.getfield 18, 3) := by decide +kernel
theorem zd_XSight_cutFace_32 : decode zb_XSight_cutFace 32 = .ok (.bipush 6, 2) := by decide +kernel
theorem zd_XSight_cutFace_34 : decode zb_XSight_cutFace 34 = .ok (.iload_n 2, 1) := by decide +kernel
theorem zd_XSight_cutFace_35 : decode zb_XSight_cutFace 35 = .ok (.imul, 1) := by decide +kernel
theorem zd_XSight_cutFace_36 : decode zb_XSight_cutFace 36 = .ok (.iconst 3, 1) := by decide +kernel
theorem zd_XSight_cutFace_37 : decode zb_XSight_cutFace 37 = .ok (.invokestatic 197, 3) := by decide +kernel
theorem zd_XSight_cutFace_40 : decode zb_XSight_cutFace 40 = .ok (.aload_n 0, 1) := by decide +kernel
theorem zd_XSight_cutFace_41 : decode zb_XSight_cutFace 41 = .ok (.getfield 18, 3) := by decide +kernel
theorem zd_XSight_cutFace_44 : decode zb_XSight_cutFace 44 = .ok (.bipush 6, 2) := by decide +kernel
theorem zd_XSight_cutFace_46 : decode zb_XSight_cutFace 46 = .ok (.iload_n 2, 1) := by decide +kernel
theorem zd_XSight_cutFace_47 : decode zb_XSight_cutFace 47 = .ok (.imul, 1) := by decide +kernel
theorem zd_XSight_cutFace_48 : decode zb_XSight_cutFace 48 = .ok (.iconst 3, 1) := by decide +kernel
theorem zd_XSight_cutFace_49 : decode zb_XSight_cutFace 49 = .ok (.iadd, 1) := by decide +kernel
theorem zd_XSight_cutFace_50 : decode zb_XSight_cutFace 50 = .ok (.aload_n 1, 1) := by decide +kernel
theorem zd_XSight_cutFace_51 : decode zb_XSight_cutFace 51 = .ok (.getfield 203, 3) := by decide +kernel
theorem zd_XSight_cutFace_54 : decode zb_XSight_cutFace 54 = .ok (.iconst 2, 1) := by decide +kernel
theorem zd_XSight_cutFace_55 : decode zb_XSight_cutFace 55 = .ok (.iload_n 3, 1) := by decide +kernel
theorem zd_XSight_cutFace_56 : decode zb_XSight_cutFace 56 = .ok (.imul, 1) := by decide +kernel
theorem zd_XSight_cutFace_57 : decode zb_XSight_cutFace 57 = .ok (.iaload, 1) := by decide +kernel
theorem zd_XSight_cutFace_58 : decode zb_XSight_cutFace 58 = .ok (.iastore, 1) := by decide +kernel
theorem zd_XSight_cutFace_59 : decode zb_XSight_cutFace 59 = .ok (.aload_n 0, 1) := by decide +kernel
theorem zd_XSight_cutFace_60 : decode zb_XSight_cutFace 60 = .ok (.getfield 18, 3) := by decide +kernel
theorem zd_XSight_cutFace_63 : decode zb_XSight_cutFace 63 = .ok (.bipush 6, 2) := by decide +kernel
theorem zd_XSight_cutFace_65 : decode zb_XSight_cutFace 65 = .ok (.iload_n 2, 1) := by decide +kernel
theorem zd_XSight_cutFace_66 : decode zb_XSight_cutFace 66 = .ok (.imul, 1) := by decide +kernel
theorem zd_XSight_cutFace_67 : decode zb_XSight_cutFace 67 = .ok (.iconst 4, 1) := by decide +kernel
theorem zd_XSight_cutFace_68 : decode zb_XSight_cutFace 68 = .ok (.iadd, 1) := by decide +kernel
theorem zd_XSight_cutFace_69 : decode zb_XSight_cutFace 69 = .ok (.aload_n 1, 1) := by decide +kernel
theorem zd_XSight_cutFace_70 : decode zb_XSight_cutFace 70 = .ok (.getfield 203, 3) := by decide +kernel
theorem zd_XSight_cutFace_73 : decode zb_XSight_cutFace 73 = .ok (.iconst 2, 1) := by decide +kernel
theorem zd_XSight_cutFace_74 : decode zb_XSight_cutFace 74 = .ok (.iload_n 3, 1) := by decide +kernel
theorem zd_XSight_cutFace_75 : decode zb_XSight_cutFace 75 = .ok (.imul, 1) := by decide +kernel
theorem zd_XSight_cutFace_76 : decode zb_XSight_cutFace 76 = .ok (.iconst 1, 1) := by decide +kernel
theorem zd_XSight_cutFace_77 : decode zb_XSight_cutFace 77 = .ok (.iadd, 1) := by decide +kernel
theorem zd_XSight_cutFace_78 : decode zb_XSight_cutFace 78 = .ok (.iaload, 1) := by decide +kernel
theorem zd_XSight_cutFace_79 : decode zb_XSight_cutFace 79 = .ok (.iastore, 1) := by decide +kernel
theorem zd_XSight_cutFace_80 : decode zb_XSight_cutFace 80 = .ok (.aload_n 0, 1) := by decide +kernel
theorem zd_XSight_cutFace_81 : decode zb_XSight_cutFace 81 = .ok (.getfield 18, 3) := by decide +kernel
theorem zd_XSight_cutFace_84 : decode zb_XSight_cutFace 84 = .ok (.bipush 6, 2) := by decide +kernel
theorem zd_XSight_cutFace_86 : decode zb_XSight_cutFace 86 = .ok (.iload_n 2, 1) := by decide +kernel
theorem zd_XSight_cutFace_87 : decode zb_XSight_cutFace 87 = .ok (.imul, 1) := by decide +kernel
theorem zd_XSight_cutFace_88 : decode zb_XSight_cutFace 88 = .ok (.iconst 5, 1) := by decide +kernel
theorem zd_XSight_cutFace_89 : decode zb_XSight_cutFace 89 = .ok (.iadd, 1) := by decide +kernel
theorem zd_XSight_cutFace_90 : decode zb_XSight_cutFace 90 = .ok (.aload_n 0, 1) := by decide +kernel
theorem zd_XSight_cutFace_91 : decode zb_XSight_cutFace 91 = .ok (.getfield 36, 3) := by decide +kernel
theorem zd_XSight_cutFace_94 : decode zb_XSight_cutFace 94 = .ok (.iconst 4, 1) := by decide +kernel
theorem zd_XSight_cutFace_95 : decode zb_XSight_cutFace 95 = .ok (.iload_n 3, 1) := by decide +kernel
theorem zd_XSight_cutFace_96 : decode zb_XSight_cutFace 96 = .ok (.imul, 1) := by decide +kernel
theorem zd_XSight_cutFace_97 : decode zb_XSight_cutFace 97 = .ok (.iconst 3, 1) := by decide +kernel
theorem zd_XSight_cutFace_98 : decode zb_XSight_cutFace 98 = .ok (.iadd, 1) := by decide +kernel
theorem zd_XSight_cutFace_99 : decode zb_XSight_cutFace 99 = .ok (.iaload, 1) := by decide +kernel
theorem zd_XSight_cutFace_100 : decode zb_XSight_cutFace 100 = .ok (.iastore, 1) := by decide +kernel
theorem zd_XSight_cutFace_101 : decode zb_XSight_cutFace 101 = .ok (.iinc 2 1, 3) := by decide +kernel
theorem zd_XSight_cutFace_104 : decode zb_XSight_cutFace 104 = .ok (.goto (-102), 3) := by decide +kernel
theorem zd_XSight_cutFace_107 : decode zb_XSight_cutFace 107 = .ok (.aload_n 0, 1) := by decide +kernel
theorem zd_XSight_cutFace_108 : decode zb_XSight_cutFace 108 = .ok (.iconst 3, 1) := by decide +kernel
theorem zd_XSight_cutFace_109 : decode zb_XSight_cutFace 109 = .ok (.putfield 62, 3) := by decide +kernel
theorem zd_XSight_cutFace_112 : decode zb_XSight_cutFace 112 = .ok (.iconst 0, 1) := by decide +kernel
theorem zd_XSight_cutFace_113 : decode zb_XSight_cutFace 113 = .ok (.istore_n 2, 1) := by decide +kernel
theorem zd_XSight_cutFace_114 : decode zb_XSight_cutFace 114 = .ok (.iload_n 2, 1) := by decide +kernel
theorem zd_XSight_cutFace_115 : decode zb_XSight_cutFace 115 = .ok (.iconst 5, 1) := by decide +kernel
theorem zd_XSight_cutFace_116 : decode zb_XSight_cutFace 116 = .ok (.if_icmp .ge 22, 3) := by decide +kernel
theorem zd_XSight_cutFace_119 : decode zb_XSight_cutFace 119 = .ok (.aload_n 0, 1) := by decide +kernel
theorem zd_XSight_cutFace_120 : decode zb_XSight_cutFace 120 = .ok (.getfield 62, 3) := by decide +kernel
theorem zd_XSight_cutFace_123 : decode zb_XSight_cutFace 123 = .ok (.iconst 3, 1) := by decide +kernel
theorem zd_XSight_cutFace_124 : decode zb_XSight_cutFace 124 = .ok (.if_icmp .lt 14, 3) := by decide +kernel
theorem zd_XSight_cutFace_127 : decode zb_XSight_cutFace 127 = .ok (.aload_n 0, 1) := by decide +kernel
theorem zd_XSight_cutFace_128 : decode zb_XSight_cutFace 128 = .ok (.iload_n 2, 1) := by decide +kernel
theorem zd_XSight_cutFace_129 : decode zb_XSight_cutFace 129 = .ok (.invokevirtual 206, 3) := by decide +kernel
theorem zd_XSight_cutFace_132 : decode zb_XSight_cutFace 132 = .ok (.iinc 2 1, 3) := by decide +kernel
theorem zd_XSight_cutFace_135 : decode zb_XSight_cutFace 135 = .ok (.goto (-21), 3) := by decide +kernel
theorem zd_XSight_cutFace_138 : decode zb_XSight_cutFace 138 = .ok (.aload_n 0, 1) := by decide +kernel
theorem zd_XSight_cutFace_139 : decode zb_XSight_cutFace 139 = .ok (.invokevirtual 209, 3) := by decide +kernel
theorem zd_XSight_cutFace_142 : decode zb_XSight_cutFace 142 = .ok (.return_, 1) := by decide +kernel
theorem zw_193 : (Jvm.Cond.fieldLink "OrreryBox$Sight" (194 : Nat) "OrreryBox$Mesh" "faces" "[I") ∈ gw := gw_t 193 (by decide +kernel) rfl
theorem zw_190 : (Jvm.Cond.fieldLink "OrreryBox$Sight" (203 : Nat) "OrreryBox$Mesh" "places" "[I") ∈ gw := gw_t 190 (by decide +kernel) rfl
def L_XSight_cutFace_2 (sh : zSh) (fuel : Nat) (v0 : Nat) (v1 : Nat) (v2 : Int32) (mm : zMem) : Option (Nat × Nat × Int32 × zMem) := match fuel with
  | 0 => none
  | fu + 1 => (if 3 ≤ v2 then some (v0, v1, v2, mm) else zoS (sh v1) 2 (fun le3 => Option.bind (mm.2.2 v1 6) (fun a4 => zoS (sh v0) 9 (fun le6 => zoL ((3 * (mm.1 v0 1)) + v2) (fun i7 => zoS (sh a4) 100 (fun le9 => if (i7 : Int32) < 0 ∨ le9 ≤ (i7 : Int32).toNatClampNeg then none else zoL (mm.1 a4 (i7 : Int32).toNatClampNeg) (fun x11 => zoS (sh v0) 9 (fun le13 => Option.bind (mm.2.2 v0 13) (fun a14 => zoS (sh v0) 9 (fun le16 => Option.bind (mm.2.2 v0 2) (fun a17 => zoL (6 * v2) (fun x18 => zoL (4 * x11) (fun x19 => zoS (sh a14) 100 (fun le20 => zoS (sh a17) 100 (fun le22 => if ¬ (x19 : Int32) < 0 ∧ ¬ (x18 : Int32) < 0 ∧ ¬ (3 : Int32) < 0 ∧ (x19 : Int32).toNatClampNeg + (3 : Int32).toNatClampNeg ≤ le20 ∧ (x18 : Int32).toNatClampNeg + (3 : Int32).toNatClampNeg ≤ le22 then zoL (mC mm a14 a17 (x19 : Int32).toNatClampNeg (x18 : Int32).toNatClampNeg (3 : Int32).toNatClampNeg) (fun mm25 => zoS (sh v0) 9 (fun le27 => Option.bind (mm25.2.2 v0 2) (fun a28 => zoS (sh v1) 2 (fun le30 => Option.bind (mm25.2.2 v1 5) (fun a31 => zoL (2 * x11) (fun i32 => zoS (sh a31) 100 (fun le34 => if (i32 : Int32) < 0 ∨ le34 ≤ (i32 : Int32).toNatClampNeg then none else zoL (mm25.1 a31 (i32 : Int32).toNatClampNeg) (fun x36 => zoL ((6 * v2) + 3) (fun i37 => zoS (sh a28) 100 (fun le39 => if (i37 : Int32) < 0 ∨ le39 ≤ (i37 : Int32).toNatClampNeg then none else zoL (mI mm25 a28 (i37 : Int32).toNatClampNeg x36) (fun mm41 => zoS (sh v0) 9 (fun le43 => Option.bind (mm41.2.2 v0 2) (fun a44 => zoS (sh v1) 2 (fun le46 => Option.bind (mm41.2.2 v1 5) (fun a47 => zoL ((2 * x11) + 1) (fun i48 => zoS (sh a47) 100 (fun le50 => if (i48 : Int32) < 0 ∨ le50 ≤ (i48 : Int32).toNatClampNeg then none else zoL (mm41.1 a47 (i48 : Int32).toNatClampNeg) (fun x52 => zoL ((6 * v2) + 4) (fun i53 => zoS (sh a44) 100 (fun le55 => if (i53 : Int32) < 0 ∨ le55 ≤ (i53 : Int32).toNatClampNeg then none else zoL (mI mm41 a44 (i53 : Int32).toNatClampNeg x52) (fun mm57 => zoS (sh v0) 9 (fun le59 => Option.bind (mm57.2.2 v0 2) (fun a60 => zoS (sh v0) 9 (fun le62 => Option.bind (mm57.2.2 v0 13) (fun a63 => zoL ((4 * x11) + 3) (fun i64 => zoS (sh a63) 100 (fun le66 => if (i64 : Int32) < 0 ∨ le66 ≤ (i64 : Int32).toNatClampNeg then none else zoL (mm57.1 a63 (i64 : Int32).toNatClampNeg) (fun x68 => zoL ((6 * v2) + 5) (fun i69 => zoS (sh a60) 100 (fun le71 => if (i69 : Int32) < 0 ∨ le71 ≤ (i69 : Int32).toNatClampNeg then none else zoL (mI mm57 a60 (i69 : Int32).toNatClampNeg x68) (fun mm73 => L_XSight_cutFace_2 sh fu v0 v1 (v2 + 1) mm73))))))))))))))))))))))))))))))) else none)))))))))))))))
set_option maxHeartbeats 4000000 in
set_option maxRecDepth 100000 in
theorem lp_XSight_cutFace_2 {p : Program} {l : Launch} {e : Env} {s : State} {m : MethodId} {args : Array Value} {below : List Frame} {meth : Method} {c : Code} {D : va_G} {tA : Nat → ClassId} {b n : Nat} {post : Option Value → zV → Nat → Prop} {sh : zSh} (F : zF p s m args meth c zb_XSight_cutFace 4 "OrreryBox$Sight" D tA b) : ∀ (fuel : Nat) (v0 : Nat) (v1 : Nat) (v2 : Int32) (mm : zMem) (r : Nat × Nat × Int32 × zMem), L_XSight_cutFace_2 sh fuel v0 v1 v2 mm = some r → (Z p l e { frames := 3, cells := 0, slots := 0, locals := 90 } s m args below meth c D b 4 (MQ below (zQ D b post) args s 0 0 (fun q => b ≤ q)) (zW tA b sh r.2.2.2) n 0 0 107 [(0, .ref (b + (r.1))), (1, .ref (b + (r.2.1))), (2, .int (r.2.2.1))] []) → Z p l e { frames := 3, cells := 0, slots := 0, locals := 90 } s m args below meth c D b 4 (MQ below (zQ D b post) args s 0 0 (fun q => b ≤ q)) (zW tA b sh mm) n 0 0 2 [(0, .ref (b + v0)), (1, .ref (b + v1)), (2, .int v2)] [] := by
  intro fuel
  induction fuel with
  | zero =>
    intro v0 v1 v2 mm r h
    cases h
  | succ fu ih =>
    intro v0 v1 v2 mm r h hx0
    rw [L_XSight_cutFace_2] at h
    refine zr_iload_n F zd_XSight_cutFace_2 rfl ?_
    refine zr_iconstv (v := 3) F zd_XSight_cutFace_3 (by decide) ?_
    refine zr_icmp_ge F 107 zd_XSight_cutFace_4 (by decide) (fun hb1 => ?_) (fun hb1 => ?_)
    ·
      rw [if_pos hb1] at h
      obtain rfl := Option.some.inj h
      refine zr_loc (L' := [(0, .ref (b + v0)), (1, .ref (b + v1)), (2, .int v2)]) ⟨rfl, rfl, rfl, trivial⟩ ?_
      exact hx0 
    ·
      rw [if_neg hb1] at h
      refine zr_aload_n F zd_XSight_cutFace_7 rfl ?_
      obtain ⟨le3, hs2, h⟩ := zoS_s h
      obtain ⟨a4, ea4, h⟩ := zoB_s h
      refine zr_get F 2 6 zd_XSight_cutFace_8 (zW_o hs2 (by decide)) rfl (by decide) zw_193 rfl (by rfl) ?_
      refine zr_tor ea4 ?_
      refine zr_pcn 11 rfl ?_
      refine zr_iconstv (v := 3) F zd_XSight_cutFace_11 (by decide) ?_
      refine zr_aload_n F zd_XSight_cutFace_12 rfl ?_
      obtain ⟨le6, hs5, h⟩ := zoS_s h
      refine zr_get F 9 1 zd_XSight_cutFace_13 (zW_o hs5 (by decide)) rfl (by decide) zw_373 rfl (by rfl) ?_
      refine zr_imul F zd_XSight_cutFace_16 ?_
      refine zr_iload_n F zd_XSight_cutFace_17 rfl ?_
      refine zr_iadd F zd_XSight_cutFace_18 ?_
      obtain ⟨i7, ei7, h⟩ := zoL_s h
      rw [← ei7]
      obtain ⟨le9, hs8, h⟩ := zoS_s h
      obtain ⟨hi10, h⟩ := zoI_s h
      refine zr_iald F zd_XSight_cutFace_19 (zW_a0 hs8) hi10 ?_
      obtain ⟨x11, ex11, h⟩ := zoL_s h
      rw [← ex11]
      refine zr_istore_n F zd_XSight_cutFace_20 (by decide) ?_
      refine zr_pcn 21 rfl ?_
      refine zr_aload_n F zd_XSight_cutFace_21 rfl ?_
      obtain ⟨le13, hs12, h⟩ := zoS_s h
      obtain ⟨a14, ea14, h⟩ := zoB_s h
      refine zr_get F 9 13 zd_XSight_cutFace_22 (zW_o hs12 (by decide)) rfl (by decide) zw_386 rfl (by rfl) ?_
      refine zr_tor ea14 ?_
      refine zr_iconstv (v := 4) F zd_XSight_cutFace_25 (by decide) ?_
      refine zr_iload_n F zd_XSight_cutFace_26 rfl ?_
      refine zr_imul F zd_XSight_cutFace_27 ?_
      refine zr_aload_n F zd_XSight_cutFace_28 rfl ?_
      obtain ⟨le16, hs15, h⟩ := zoS_s h
      obtain ⟨a17, ea17, h⟩ := zoB_s h
      refine zr_get F 9 2 zd_XSight_cutFace_29 (zW_o hs15 (by decide)) rfl (by decide) zw_375 rfl (by rfl) ?_
      refine zr_tor ea17 ?_
      refine zr_bipushv (v := 6) F zd_XSight_cutFace_32 (by decide) ?_
      refine zr_pcn 34 rfl ?_
      refine zr_iload_n F zd_XSight_cutFace_34 rfl ?_
      refine zr_imul F zd_XSight_cutFace_35 ?_
      refine zr_iconstv (v := 3) F zd_XSight_cutFace_36 (by decide) ?_
      obtain ⟨x18, ex18, h⟩ := zoL_s h
      rw [← ex18]
      obtain ⟨x19, ex19, h⟩ := zoL_s h
      rw [← ex19]
      obtain ⟨le20, hs21, h⟩ := zoS_s h
      obtain ⟨le22, hs23, h⟩ := zoS_s h
      obtain ⟨hc24, h⟩ := zoT_s h
      obtain ⟨mm25, emm25, h⟩ := zoL_s h
      refine zr_copy F zd_XSight_cutFace_37 zw_722 zw_724 zw_723 zw_26 (zW_a0 hs21) (zW_a0 hs23) hc24.1 hc24.2.1 hc24.2.2.1 hc24.2.2.2.1 hc24.2.2.2.2 (Nat.le_of_ble_eq_true rfl) (Nat.le_of_ble_eq_true rfl) ?_
      refine zr_norm (zW tA b sh mm25) _ (by rw [emm25]; exact zW_c hs23) rfl ?_
      refine zr_aload_n F zd_XSight_cutFace_40 rfl ?_
      obtain ⟨le27, hs26, h⟩ := zoS_s h
      obtain ⟨a28, ea28, h⟩ := zoB_s h
      refine zr_get F 9 2 zd_XSight_cutFace_41 (zW_o hs26 (by decide)) rfl (by decide) zw_375 rfl (by rfl) ?_
      refine zr_tor ea28 ?_
      refine zr_bipushv (v := 6) F zd_XSight_cutFace_44 (by decide) ?_
      refine zr_iload_n F zd_XSight_cutFace_46 rfl ?_
      refine zr_pcn 47 rfl ?_
      refine zr_imul F zd_XSight_cutFace_47 ?_
      refine zr_iconstv (v := 3) F zd_XSight_cutFace_48 (by decide) ?_
      refine zr_iadd F zd_XSight_cutFace_49 ?_
      refine zr_aload_n F zd_XSight_cutFace_50 rfl ?_
      obtain ⟨le30, hs29, h⟩ := zoS_s h
      obtain ⟨a31, ea31, h⟩ := zoB_s h
      refine zr_get F 2 5 zd_XSight_cutFace_51 (zW_o hs29 (by decide)) rfl (by decide) zw_190 rfl (by rfl) ?_
      refine zr_tor ea31 ?_
      refine zr_iconstv (v := 2) F zd_XSight_cutFace_54 (by decide) ?_
      refine zr_iload_n F zd_XSight_cutFace_55 rfl ?_
      refine zr_imul F zd_XSight_cutFace_56 ?_
      refine zr_pcn 57 rfl ?_
      obtain ⟨i32, ei32, h⟩ := zoL_s h
      rw [← ei32]
      obtain ⟨le34, hs33, h⟩ := zoS_s h
      obtain ⟨hi35, h⟩ := zoI_s h
      refine zr_iald F zd_XSight_cutFace_57 (zW_a0 hs33) hi35 ?_
      obtain ⟨x36, ex36, h⟩ := zoL_s h
      rw [← ex36]
      obtain ⟨i37, ei37, h⟩ := zoL_s h
      rw [← ei37]
      obtain ⟨le39, hs38, h⟩ := zoS_s h
      obtain ⟨hi40, h⟩ := zoI_s h
      refine zr_iast F zd_XSight_cutFace_58 (zW_a0 hs38) hi40 ?_
      obtain ⟨mm41, emm41, h⟩ := zoL_s h
      refine zr_norm (zW tA b sh mm41) _ (by rw [emm41]; exact zW_s0 hs38) rfl ?_
      refine zr_aload_n F zd_XSight_cutFace_59 rfl ?_
      obtain ⟨le43, hs42, h⟩ := zoS_s h
      obtain ⟨a44, ea44, h⟩ := zoB_s h
      refine zr_get F 9 2 zd_XSight_cutFace_60 (zW_o hs42 (by decide)) rfl (by decide) zw_375 rfl (by rfl) ?_
      refine zr_tor ea44 ?_
      refine zr_bipushv (v := 6) F zd_XSight_cutFace_63 (by decide) ?_
      refine zr_iload_n F zd_XSight_cutFace_65 rfl ?_
      refine zr_imul F zd_XSight_cutFace_66 ?_
      refine zr_iconstv (v := 4) F zd_XSight_cutFace_67 (by decide) ?_
      refine zr_pcn 68 rfl ?_
      refine zr_iadd F zd_XSight_cutFace_68 ?_
      refine zr_aload_n F zd_XSight_cutFace_69 rfl ?_
      obtain ⟨le46, hs45, h⟩ := zoS_s h
      obtain ⟨a47, ea47, h⟩ := zoB_s h
      refine zr_get F 2 5 zd_XSight_cutFace_70 (zW_o hs45 (by decide)) rfl (by decide) zw_190 rfl (by rfl) ?_
      refine zr_tor ea47 ?_
      refine zr_iconstv (v := 2) F zd_XSight_cutFace_73 (by decide) ?_
      refine zr_iload_n F zd_XSight_cutFace_74 rfl ?_
      refine zr_imul F zd_XSight_cutFace_75 ?_
      refine zr_iconstv (v := 1) F zd_XSight_cutFace_76 (by decide) ?_
      refine zr_iadd F zd_XSight_cutFace_77 ?_
      refine zr_pcn 78 rfl ?_
      obtain ⟨i48, ei48, h⟩ := zoL_s h
      rw [← ei48]
      obtain ⟨le50, hs49, h⟩ := zoS_s h
      obtain ⟨hi51, h⟩ := zoI_s h
      refine zr_iald F zd_XSight_cutFace_78 (zW_a0 hs49) hi51 ?_
      obtain ⟨x52, ex52, h⟩ := zoL_s h
      rw [← ex52]
      obtain ⟨i53, ei53, h⟩ := zoL_s h
      rw [← ei53]
      obtain ⟨le55, hs54, h⟩ := zoS_s h
      obtain ⟨hi56, h⟩ := zoI_s h
      refine zr_iast F zd_XSight_cutFace_79 (zW_a0 hs54) hi56 ?_
      obtain ⟨mm57, emm57, h⟩ := zoL_s h
      refine zr_norm (zW tA b sh mm57) _ (by rw [emm57]; exact zW_s0 hs54) rfl ?_
      refine zr_aload_n F zd_XSight_cutFace_80 rfl ?_
      obtain ⟨le59, hs58, h⟩ := zoS_s h
      obtain ⟨a60, ea60, h⟩ := zoB_s h
      refine zr_get F 9 2 zd_XSight_cutFace_81 (zW_o hs58 (by decide)) rfl (by decide) zw_375 rfl (by rfl) ?_
      refine zr_tor ea60 ?_
      refine zr_bipushv (v := 6) F zd_XSight_cutFace_84 (by decide) ?_
      refine zr_iload_n F zd_XSight_cutFace_86 rfl ?_
      refine zr_imul F zd_XSight_cutFace_87 ?_
      refine zr_iconstv (v := 5) F zd_XSight_cutFace_88 (by decide) ?_
      refine zr_pcn 89 rfl ?_
      refine zr_iadd F zd_XSight_cutFace_89 ?_
      refine zr_aload_n F zd_XSight_cutFace_90 rfl ?_
      obtain ⟨le62, hs61, h⟩ := zoS_s h
      obtain ⟨a63, ea63, h⟩ := zoB_s h
      refine zr_get F 9 13 zd_XSight_cutFace_91 (zW_o hs61 (by decide)) rfl (by decide) zw_386 rfl (by rfl) ?_
      refine zr_tor ea63 ?_
      refine zr_iconstv (v := 4) F zd_XSight_cutFace_94 (by decide) ?_
      refine zr_iload_n F zd_XSight_cutFace_95 rfl ?_
      refine zr_imul F zd_XSight_cutFace_96 ?_
      refine zr_iconstv (v := 3) F zd_XSight_cutFace_97 (by decide) ?_
      refine zr_iadd F zd_XSight_cutFace_98 ?_
      refine zr_pcn 99 rfl ?_
      obtain ⟨i64, ei64, h⟩ := zoL_s h
      rw [← ei64]
      obtain ⟨le66, hs65, h⟩ := zoS_s h
      obtain ⟨hi67, h⟩ := zoI_s h
      refine zr_iald F zd_XSight_cutFace_99 (zW_a0 hs65) hi67 ?_
      obtain ⟨x68, ex68, h⟩ := zoL_s h
      rw [← ex68]
      obtain ⟨i69, ei69, h⟩ := zoL_s h
      rw [← ei69]
      obtain ⟨le71, hs70, h⟩ := zoS_s h
      obtain ⟨hi72, h⟩ := zoI_s h
      refine zr_iast F zd_XSight_cutFace_100 (zW_a0 hs70) hi72 ?_
      obtain ⟨mm73, emm73, h⟩ := zoL_s h
      refine zr_norm (zW tA b sh mm73) _ (by rw [emm73]; exact zW_s0 hs70) rfl ?_
      refine zr_iinc (v := (v2 + 1)) F zd_XSight_cutFace_101 rfl rfl (by decide) ?_
      refine zr_goto F 2 zd_XSight_cutFace_104 (by decide) ?_
      refine zr_loc (L' := [(0, .ref (b + v0)), (1, .ref (b + v1)), (2, .int (v2 + 1))]) ⟨rfl, rfl, rfl, trivial⟩ ?_
      exact ih _ _ _ _ _ h hx0
theorem zw_725 : (Jvm.Cond.methodLink "OrreryBox$Sight" (206 : Nat) ({ cls := "OrreryBox$Sight", name := "cutBySide", desc := "(I)V" } : Jvm.MethodName)) ∈ gw := gw_t 725 (by decide +kernel) rfl
theorem zw_727 : (Jvm.Cond.instanceMethod ({ cls := "OrreryBox$Sight", name := "cutBySide", desc := "(I)V" } : Jvm.MethodName)) ∈ gw := gw_t 727 (by decide +kernel) rfl
theorem zv_12 : (Jvm.Cond.selects "OrreryBox$Sight" (⟨"OrreryBox$Sight", "cutBySide", "(I)V"⟩ : MethodName) ⟨"OrreryBox$Sight", "cutBySide", "(I)V"⟩) ∈ gw := gw_s 12 (by decide +kernel) rfl
theorem zs_XSight_206 : zwV "OrreryBox$Sight" 206 "OrreryBox$Sight" zy_XSight_cutBySide zb_XSight_cutBySide 11 none := ⟨zw_725, zw_727, zv_12, zw_10, zc_XSight_cutBySide⟩
def L_XSight_cutFace_114 (sh : zSh) (fuel : Nat) (v0 : Nat) (v2 : Int32) (mm : zMem) : Option (Nat × Int32 × zMem) := match fuel with
  | 0 => none
  | fu + 1 => (if 5 ≤ v2 then some (v0, v2, mm) else zoS (sh v0) 9 (fun le80 => (if (mm.1 v0 3) < 3 then some (v0, v2, mm) else zoS (sh v0) 9 (fun le83 => Option.bind (F_XSight_cutBySide sh mm v0 v2) (fun p84 => L_XSight_cutFace_114 sh fu v0 (v2 + 1) p84)))))
set_option maxHeartbeats 4000000 in
set_option maxRecDepth 100000 in
theorem lp_XSight_cutFace_114 {p : Program} {l : Launch} {e : Env} {s : State} {m : MethodId} {args : Array Value} {below : List Frame} {meth : Method} {c : Code} {D : va_G} {tA : Nat → ClassId} {b n : Nat} {post : Option Value → zV → Nat → Prop} {sh : zSh} (F : zF p s m args meth c zb_XSight_cutFace 4 "OrreryBox$Sight" D tA b) : ∀ (fuel : Nat) (v0 : Nat) (v2 : Int32) (mm : zMem) (r : Nat × Int32 × zMem), L_XSight_cutFace_114 sh fuel v0 v2 mm = some r → (Z p l e { frames := 3, cells := 0, slots := 0, locals := 90 } s m args below meth c D b 4 (MQ below (zQ D b post) args s 0 0 (fun q => b ≤ q)) (zW tA b sh r.2.2) n 0 0 138 [(0, .ref (b + (r.1))), (2, .int (r.2.1))] []) → Z p l e { frames := 3, cells := 0, slots := 0, locals := 90 } s m args below meth c D b 4 (MQ below (zQ D b post) args s 0 0 (fun q => b ≤ q)) (zW tA b sh mm) n 0 0 114 [(0, .ref (b + v0)), (2, .int v2)] [] := by
  intro fuel
  induction fuel with
  | zero =>
    intro v0 v2 mm r h
    cases h
  | succ fu ih =>
    intro v0 v2 mm r h hx0
    rw [L_XSight_cutFace_114] at h
    refine zr_iload_n F zd_XSight_cutFace_114 rfl ?_
    refine zr_iconstv (v := 5) F zd_XSight_cutFace_115 (by decide) ?_
    refine zr_icmp_ge F 138 zd_XSight_cutFace_116 (by decide) (fun hb78 => ?_) (fun hb78 => ?_)
    ·
      rw [if_pos hb78] at h
      obtain rfl := Option.some.inj h
      refine zr_loc (L' := [(0, .ref (b + v0)), (2, .int v2)]) ⟨rfl, rfl, trivial⟩ ?_
      exact hx0 
    ·
      rw [if_neg hb78] at h
      refine zr_aload_n F zd_XSight_cutFace_119 rfl ?_
      obtain ⟨le80, hs79, h⟩ := zoS_s h
      refine zr_get F 9 3 zd_XSight_cutFace_120 (zW_o hs79 (by decide)) rfl (by decide) zw_376 rfl (by rfl) ?_
      refine zr_iconstv (v := 3) F zd_XSight_cutFace_123 (by decide) ?_
      refine zr_icmp_lt F 138 zd_XSight_cutFace_124 (by decide) (fun hb81 => ?_) (fun hb81 => ?_)
      ·
        rw [if_pos hb81] at h
        obtain rfl := Option.some.inj h
        refine zr_loc (L' := [(0, .ref (b + v0)), (2, .int v2)]) ⟨rfl, rfl, trivial⟩ ?_
        exact hx0 
      ·
        rw [if_neg hb81] at h
        refine zr_pcn 127 rfl ?_
        refine zr_aload_n F zd_XSight_cutFace_127 rfl ?_
        refine zr_iload_n F zd_XSight_cutFace_128 rfl ?_
        obtain ⟨le83, hs82, h⟩ := zoS_s h
        obtain ⟨p84, ep84, h⟩ := zoB_s h
        refine zr_callV0 F (k_XSight_cutBySide l D tA b sh _ ep84) zd_XSight_cutFace_129 (zW_o hs82 (by decide)) rfl zs_XSight_206 rfl zq_XSight_cutBySide rfl rfl ⟨(Nat.le_of_ble_eq_true rfl), (Nat.le_of_ble_eq_true rfl)⟩ (Nat.le_of_ble_eq_true rfl) ⟨(Nat.le_of_ble_eq_true rfl), (Nat.le_of_ble_eq_true rfl)⟩ ?_
        refine zr_iinc (v := (v2 + 1)) F zd_XSight_cutFace_132 rfl rfl (by decide) ?_
        refine zr_goto F 114 zd_XSight_cutFace_135 (by decide) ?_
        refine zr_loc (L' := [(0, .ref (b + v0)), (2, .int (v2 + 1))]) ⟨rfl, rfl, trivial⟩ ?_
        exact ih _ _ _ _ h hx0
theorem zw_739 : (Jvm.Cond.methodLink "OrreryBox$Sight" (209 : Nat) ({ cls := "OrreryBox$Sight", name := "projectCorners", desc := "()V" } : Jvm.MethodName)) ∈ gw := gw_t 739 (by decide +kernel) rfl
theorem zw_741 : (Jvm.Cond.instanceMethod ({ cls := "OrreryBox$Sight", name := "projectCorners", desc := "()V" } : Jvm.MethodName)) ∈ gw := gw_t 741 (by decide +kernel) rfl
theorem zv_15 : (Jvm.Cond.selects "OrreryBox$Sight" (⟨"OrreryBox$Sight", "projectCorners", "()V"⟩ : MethodName) ⟨"OrreryBox$Sight", "projectCorners", "()V"⟩) ∈ gw := gw_s 15 (by decide +kernel) rfl
theorem zs_XSight_209 : zwV "OrreryBox$Sight" 209 "OrreryBox$Sight" zy_XSight_projectCorners zb_XSight_projectCorners 6 none := ⟨zw_739, zw_741, zv_15, zw_10, zc_XSight_projectCorners⟩
def F_XSight_cutFace (sh : zSh) (mm : zMem) (o : Nat) (x0_ : Nat) : Option zMem := Option.bind (L_XSight_cutFace_2 sh zfuel o x0_ 0 mm) (fun q74 => zoS (sh (q74.1)) 9 (fun le76 => zoL (mI (q74.2.2.2) (q74.1) 3 3) (fun mm77 => Option.bind (L_XSight_cutFace_114 sh zfuel (q74.1) 0 mm77) (fun q85 => zoS (sh (q85.1)) 9 (fun le87 => Option.bind (F_XSight_projectCorners sh (q85.2.2) (q85.1)) (fun p88 => some p88))))))
set_option maxHeartbeats 4000000 in
set_option maxRecDepth 100000 in
theorem k_XSight_cutFace (l : Launch) (D : va_G) (tA : Nat → ClassId) (b : Nat) (sh : zSh) (n : Nat) {mm : zMem} {o : Nat} {x0_ : Nat} {r : zMem} (h : F_XSight_cutFace sh mm o x0_ = some r) : zM l D tA b zy_XSight_cutFace zb_XSight_cutFace 4 none 3 90 0 0 [.ref (b + o), .ref (b + x0_)] (zW tA b sh mm) n (zE none (zW tA b sh r) n) := by
  unfold F_XSight_cutFace at h
  refine zM_of (own := "OrreryBox$Sight") (plainFor_of_name (by decide)) rfl (Nat.le_of_ble_eq_true rfl) (fun p e s m below meth c F hr hin hH => ?_)
  refine zr_iconstv (v := 0) F zd_XSight_cutFace_0 (by decide) ?_
  refine zr_istore_n F zd_XSight_cutFace_1 (by decide) ?_
  obtain ⟨q74, eq74, h⟩ := zoB_s h
  refine zr_loc (L' := [(0, .ref (b + o)), (1, .ref (b + x0_)), (2, .int 0)]) ⟨rfl, rfl, rfl, trivial⟩ ?_
  refine lp_XSight_cutFace_2 F _ _ _ _ _ _ eq74 ?_
  ·
    refine zr_aload_n F zd_XSight_cutFace_107 rfl ?_
    refine zr_iconstv (v := 3) F zd_XSight_cutFace_108 (by decide) ?_
    obtain ⟨le76, hs75, h⟩ := zoS_s h
    refine zr_put F 9 3 zd_XSight_cutFace_109 (zW_o hs75 (by decide)) rfl (by decide) zw_376 rfl rfl rfl rfl (by exact (Nat.le_of_ble_eq_true rfl)) ?_
    obtain ⟨mm77, emm77, h⟩ := zoL_s h
    refine zr_norm (zW tA b sh mm77) _ (by rw [emm77]; exact zW_pI (v := 3) hs75 (by decide) (zf_I_9_3 b _ _ _)) rfl ?_
    refine zr_iconstv (v := 0) F zd_XSight_cutFace_112 (by decide) ?_
    refine zr_pcn 113 rfl ?_
    refine zr_istore_n F zd_XSight_cutFace_113 (by decide) ?_
    obtain ⟨q85, eq85, h⟩ := zoB_s h
    refine zr_loc (L' := [(0, .ref (b + (q74.1))), (2, .int 0)]) ⟨rfl, rfl, trivial⟩ ?_
    refine lp_XSight_cutFace_114 F _ _ _ _ _ eq85 ?_
    ·
      refine zr_aload_n F zd_XSight_cutFace_138 rfl ?_
      obtain ⟨le87, hs86, h⟩ := zoS_s h
      obtain ⟨p88, ep88, h⟩ := zoB_s h
      refine zr_callV0 F (k_XSight_projectCorners l D tA b sh _ ep88) zd_XSight_cutFace_139 (zW_o hs86 (by decide)) rfl zs_XSight_209 rfl zq_XSight_projectCorners rfl rfl ⟨(Nat.le_of_ble_eq_true rfl), (Nat.le_of_ble_eq_true rfl)⟩ (Nat.le_of_ble_eq_true rfl) ⟨(Nat.le_of_ble_eq_true rfl), (Nat.le_of_ble_eq_true rfl)⟩ ?_
      obtain rfl := Option.some.inj h
      exact zr_vret F hr zd_XSight_cutFace_142 (Nat.le_of_ble_eq_true rfl) (Nat.le_of_ble_eq_true rfl) ⟨rfl, rfl, rfl⟩
abbrev zb_XTexture_fill : ByteArray := prog_11_method_2_code
def zy_XTexture_fill : MethodName := ⟨"OrreryBox$Texture", "fill", "([I)V"⟩
theorem zc_XTexture_fill : Cond.code zy_XTexture_fill zb_XTexture_fill 3 none ∈ gw := gw_t 1235 (by decide +kernel) rfl
theorem zq_XTexture_fill : zy_XTexture_fill.cls ≠ "java/lang/invoke/MethodHandle" ∧ zy_XTexture_fill.cls ≠ "java/lang/invoke/VarHandle" ∧ (parseMethodDescriptor zy_XTexture_fill.desc).map (fun d => d.parameters.length) = some 1 := by decide +kernel
theorem zd_XTexture_fill_0 : decode zb_XTexture_fill 0 = .ok (.iconst 0, 1) := by decide +kernel
theorem zd_XTexture_fill_1 : decode zb_XTexture_fill 1 = .ok (.istore_n 2, 1) := by decide +kernel
theorem zd_XTexture_fill_2 : decode zb_XTexture_fill 2 = .ok (.iload_n 2, 1) := by decide +kernel
theorem zd_XTexture_fill_3 : decode zb_XTexture_fill 3 = .ok (.aload_n 0, 1) := by decide +kernel
theorem zd_XTexture_fill_4 : decode zb_XTexture_fill 4 = .ok (.getfield 16, 3) := by decide +kernel
theorem zd_XTexture_fill_7 : decode zb_XTexture_fill 7 = .ok (.aload_n 0, 1) := by decide +kernel
theorem zd_XTexture_fill_8 : decode zb_XTexture_fill 8 = .ok (.getfield 16, 3) := by decide +kernel
theorem zd_XTexture_fill_11 : decode zb_XTexture_fill 11 = .ok (.imul, 1) := by decide +kernel
theorem zd_XTexture_fill_12 : decode zb_XTexture_fill 12 = .ok (.if_icmp .ge 42, 3) := by decide +kernel
theorem zd_XTexture_fill_15 : decode zb_XTexture_fill 15 = .ok (.aload_n 0, 1) := by decide +kernel
theorem zd_XTexture_fill_16 : decode zb_XTexture_fill 16 = .ok (.getfield 7, 3) := by decide +kernel
theorem zd_XTexture_fill_19 : decode zb_XTexture_fill 19 = .ok (.iload_n 2, 1) := by decide +kernel
theorem zd_XTexture_fill_20 : decode zb_XTexture_fill 20 = .ok (.aload_n 1, 1) := by decide +kernel
theorem zd_XTexture_fill_21 : decode zb_XTexture_fill 21 = .ok (.iconst 3, 1) := by decide +kernel
theorem zd_XTexture_fill_22 : decode zb_XTexture_fill 22 = .ok (.iload_n 2, 1) := by decide +kernel
theorem zd_XTexture_fill_23 : decode zb_XTexture_fill 23 = .ok (.imul, 1) := by decide +kernel
theorem zd_XTexture_fill_24 : decode zb_XTexture_fill 24 = .ok (.iaload, 1) := by decide +kernel
theorem zd_XTexture_fill_25 : decode zb_XTexture_fill 25 = .ok (.bipush 16, 2) := by decide +kernel
theorem zd_XTexture_fill_27 : decode zb_XTexture_fill 27 = .ok (.ishl, 1) := by decide +kernel
theorem zd_XTexture_fill_28 : decode zb_XTexture_fill 28 = .ok (.aload_n 1, 1) := by decide +kernel
theorem zd_XTexture_fill_29 : decode zb_XTexture_fill 29 = .ok (.iconst 3, 1) := by decide +kernel
theorem zd_XTexture_fill_30 : decode zb_XTexture_fill 30 = .ok (.iload_n 2, 1) := by decide +kernel
theorem zd_XTexture_fill_31 : decode zb_XTexture_fill 31 = .ok (.imul, 1) := by decide +kernel
theorem zd_XTexture_fill_32 : decode zb_XTexture_fill 32 = .ok (.iconst 1, 1) := by decide +kernel
theorem zd_XTexture_fill_33 : decode zb_XTexture_fill 33 = .ok (.iadd, 1) := by decide +kernel
theorem zd_XTexture_fill_34 : decode zb_XTexture_fill 34 = .ok (.iaload, 1) := by decide +kernel
theorem zd_XTexture_fill_35 : decode zb_XTexture_fill 35 = .ok (.bipush 8, 2) := by decide +kernel
theorem zd_XTexture_fill_37 : decode zb_XTexture_fill 37 = .ok (.ishl, 1) := by decide +kernel
theorem zd_XTexture_fill_38 : decode zb_XTexture_fill 38 = .ok (.ior, 1) := by decide +kernel
theorem zd_XTexture_fill_39 : decode zb_XTexture_fill 39 = .ok (.aload_n 1, 1) := by decide +kernel
theorem zd_XTexture_fill_40 : decode zb_XTexture_fill 40 = .ok (.iconst 3, 1) := by decide +kernel
theorem zd_XTexture_fill_41 : decode zb_XTexture_fill 41 = .ok (.iload_n 2, 1) := by decide +kernel
theorem zd_XTexture_fill_42 : decode zb_XTexture_fill 42 = .ok (.imul, 1) := by decide +kernel
theorem zd_XTexture_fill_43 : decode zb_XTexture_fill 43 = .ok (.iconst 2, 1) := by decide +kernel
theorem zd_XTexture_fill_44 : decode zb_XTexture_fill 44 = .ok (.iadd, 1) := by decide +kernel
theorem zd_XTexture_fill_45 : decode zb_XTexture_fill 45 = .ok (.iaload, 1) := by decide +kernel
theorem zd_XTexture_fill_46 : decode zb_XTexture_fill 46 = .ok (.ior, 1) := by decide +kernel
theorem zd_XTexture_fill_47 : decode zb_XTexture_fill 47 = .ok (.iastore, 1) := by decide +kernel
theorem zd_XTexture_fill_48 : decode zb_XTexture_fill 48 = .ok (.iinc 2 1, 3) := by decide +kernel
theorem zd_XTexture_fill_51 : decode zb_XTexture_fill 51 = .ok (.goto (-49), 3) := by decide +kernel
theorem zd_XTexture_fill_54 : decode zb_XTexture_fill 54 = .ok (.aload_n 0, 1) := by decide +kernel
theorem zd_XTexture_fill_55 : decode zb_XTexture_fill 55 = .ok (.iconst 0, 1) := by decide +kernel
theorem zd_XTexture_fill_56 : decode zb_XTexture_fill 56 = .ok (.putfield 20, 3) := by decide +kernel
theorem zd_XTexture_fill_59 : decode zb_XTexture_fill 59 = .ok (.aload_n 0, 1) := by decide +kernel
theorem zd_XTexture_fill_60 : decode zb_XTexture_fill 60 = .ok (.getfield 16, 3) := by decide +kernel
theorem zd_XTexture_fill_63 : decode zb_XTexture_fill 63 = .ok (.istore_n 2, 1) := by decide +kernel
theorem zd_XTexture_fill_64 : decode zb_XTexture_fill 64 = .ok (.iload_n 2, 1) := by decide +kernel
theorem zd_XTexture_fill_65 : decode zb_XTexture_fill 65 = .ok (.iconst 1, 1) := by decide +kernel
theorem zd_XTexture_fill_66 : decode zb_XTexture_fill 66 = .ok (.if_icmp .le 83, 3) := by decide +kernel
theorem zd_XTexture_fill_69 : decode zb_XTexture_fill 69 = .ok (.aload_n 0, 1) := by decide +kernel
theorem zd_XTexture_fill_70 : decode zb_XTexture_fill 70 = .ok (.getfield 20, 3) := by decide +kernel
theorem zd_XTexture_fill_73 : decode zb_XTexture_fill 73 = .ok (.iconst 1, 1) := by decide +kernel
theorem zd_XTexture_fill_74 : decode zb_XTexture_fill 74 = .ok (.iadd, 1) := by decide +kernel
theorem zd_XTexture_fill_75 : decode zb_XTexture_fill 75 = .ok (.aload_n 0, 1) := by decide +kernel
theorem zd_XTexture_fill_76 : decode zb_XTexture_fill 76 = .ok (.getfield 13, 3) := by decide +kernel
theorem zd_XTexture_fill_79 : decode zb_XTexture_fill 79 = .ok (.arraylength, 1) := by decide +kernel
theorem zd_XTexture_fill_80 : decode zb_XTexture_fill 80 = .ok (.if_icmp .ge 69, 3) := by decide +kernel
theorem zd_XTexture_fill_83 : decode zb_XTexture_fill 83 = .ok (.aload_n 0, 1) := by decide +kernel
theorem zd_XTexture_fill_84 : decode zb_XTexture_fill 84 = .ok (.getfield 13, 3) := by decide +kernel
theorem zd_XTexture_fill_87 : decode zb_XTexture_fill 87 = .ok (.aload_n 0, 1) := by decide +kernel
theorem zd_XTexture_fill_88 : decode zb_XTexture_fill 88 = .ok (.getfield 20, 3) := by decide +kernel
theorem zd_XTexture_fill_91 : decode zb_XTexture_fill 91 = .ok (.iconst 1, 1) := by decide +kernel
theorem zd_XTexture_fill_92 : decode zb_XTexture_fill 92 = .ok (.iadd, 1) := by decide +kernel
theorem zd_XTexture_fill_93 : decode zb_XTexture_fill 93 = .ok (.aload_n 0, 1) := by decide +kernel
theorem zd_XTexture_fill_94 : decode zb_XTexture_fill 94 = .ok (.getfield 13, 3) := by decide +kernel
theorem zd_XTexture_fill_97 : decode zb_XTexture_fill 97 = .ok (.aload_n 0, 1) := by decide +kernel
theorem zd_XTexture_fill_98 : decode zb_XTexture_fill 98 = .ok (.getfield 20, 3) := by decide +kernel
theorem zd_XTexture_fill_101 : decode zb_XTexture_fill 101 = .ok (.iaload, 1) := by decide +kernel
theorem zd_XTexture_fill_102 : decode zb_XTexture_fill 102 = .ok (.iload_n 2, 1) := by decide +kernel
theorem zd_XTexture_fill_103 : decode zb_XTexture_fill 103 = .ok (.iload_n 2, 1) := by decide +kernel
theorem zd_XTexture_fill_104 : decode zb_XTexture_fill 104 = .ok (.imul, 1) := by decide +kernel
theorem zd_XTexture_fill_105 : decode zb_XTexture_fill 105 = .ok (.iadd, 1) := by decide +kernel
theorem zd_XTexture_fill_106 : decode zb_XTexture_fill 106 = .ok (.iastore, 1) := by decide +kernel
theorem zd_XTexture_fill_107 : decode zb_XTexture_fill 107 = .ok (.aload_n 0, 1) := by decide +kernel
theorem zd_XTexture_fill_108 : decode zb_XTexture_fill 108 = .ok (.aload_n 0, 1) := by decide +kernel
theorem zd_XTexture_fill_109 : decode zb_XTexture_fill 109 = .ok (.getfield 13, 3) := by decide +kernel
theorem zd_XTexture_fill_112 : decode zb_XTexture_fill 112 = .ok (.aload_n 0, 1) := by decide +kernel
theorem zd_XTexture_fill_113 : decode zb_XTexture_fill 113 = .ok (.getfield 20, 3) := by decide +kernel
theorem zd_XTexture_fill_116 : decode zb_XTexture_fill 116 = .ok (.iaload, 1) := by decide +kernel
theorem zd_XTexture_fill_117 : decode zb_XTexture_fill 117 = .ok (.iload_n 2, 1) := by decide +kernel
theorem zd_XTexture_fill_118 : decode zb_XTexture_fill 118 = .ok (.aload_n 0, 1) := by decide +kernel
theorem zd_XTexture_fill_119 : decode zb_XTexture_fill 119 = .ok (.getfield 13, 3) := by decide +kernel
theorem zd_XTexture_fill_122 : decode zb_XTexture_fill 122 = .ok (.aload_n 0, 1) := by decide +kernel
theorem zd_XTexture_fill_123 : decode zb_XTexture_fill 123 = .ok (.getfield 20, 3) := by decide +kernel
theorem zd_XTexture_fill_126 : decode zb_XTexture_fill 126 = .ok (.iconst 1, 1) := by decide +kernel
theorem zd_XTexture_fill_127 : decode zb_XTexture_fill 127 = .ok (.iadd, 1) := by decide +kernel
theorem zd_XTexture_fill_128 : decode zb_XTexture_fill 128 = .ok (.iaload, 1) := by decide +kernel
theorem zd_XTexture_fill_129 : decode zb_XTexture_fill 129 = .ok (.invokevirtual 23, 3) := by decide +kernel
theorem zd_XTexture_fill_132 : decode zb_XTexture_fill 132 = .ok (.aload_n 0, 1) := by decide +kernel
theorem zd_XTexture_fill_133 : decode zb_XTexture_fill 133 = .ok (.dup, 1) := by decide +kernel
theorem zd_XTexture_fill_134 : decode zb_XTexture_fill 134 = .ok (.getfield 20, 3) := by decide +kernel
theorem zd_XTexture_fill_137 : decode zb_XTexture_fill 137 = .ok (.iconst 1, 1) := by decide +kernel
theorem zd_XTexture_fill_138 : decode zb_XTexture_fill 138 = .ok (.iadd, 1) := by decide +kernel
theorem zd_XTexture_fill_139 : decode zb_XTexture_fill 139 = .ok (.putfield 20, 3) := by decide +kernel
theorem zd_XTexture_fill_142 : decode zb_XTexture_fill 142 = .ok (.iload_n 2, 1) := by decide +kernel
theorem zd_XTexture_fill_143 : decode zb_XTexture_fill 143 = .ok (.iconst 2, 1) := by decide +kernel
theorem zd_XTexture_fill_144 : decode zb_XTexture_fill 144 = .ok (.idiv, 1) := by decide +kernel
theorem zd_XTexture_fill_145 : decode zb_XTexture_fill 145 = .ok (.istore_n 2, 1) := by decide +kernel
theorem zd_XTexture_fill_146 : decode zb_XTexture_fill 146 = .ok (.goto (-82), 3) := by decide +kernel
theorem zd_XTexture_fill_149 : decode zb_XTexture_fill 149 = .ok (.return_, 1) := by decide +kernel
def L_XTexture_fill_2 (sh : zSh) (fuel : Nat) (v0 : Nat) (v1 : Nat) (v2 : Int32) (mm : zMem) : Option (Nat × Nat × Int32 × zMem) := match fuel with
  | 0 => none
  | fu + 1 => zoS (sh v0) 10 (fun le2 => zoS (sh v0) 10 (fun le4 => (if ((mm.1 v0 0) * (mm.1 v0 0)) ≤ v2 then some (v0, v1, v2, mm) else zoS (sh v0) 10 (fun le7 => Option.bind (mm.2.2 v0 4) (fun a8 => zoL (3 * v2) (fun i9 => zoS (sh v1) 100 (fun le11 => if (i9 : Int32) < 0 ∨ le11 ≤ (i9 : Int32).toNatClampNeg then none else zoL ((3 * v2) + 1) (fun i13 => zoS (sh v1) 100 (fun le15 => if (i13 : Int32) < 0 ∨ le15 ≤ (i13 : Int32).toNatClampNeg then none else zoL ((3 * v2) + 2) (fun i17 => zoS (sh v1) 100 (fun le19 => if (i17 : Int32) < 0 ∨ le19 ≤ (i17 : Int32).toNatClampNeg then none else zoL ((((mm.1 v1 (i9 : Int32).toNatClampNeg) <<< (16 &&& 31)) ||| ((mm.1 v1 (i13 : Int32).toNatClampNeg) <<< (8 &&& 31))) ||| (mm.1 v1 (i17 : Int32).toNatClampNeg)) (fun x21 => zoS (sh a8) 100 (fun le23 => if (v2 : Int32) < 0 ∨ le23 ≤ (v2 : Int32).toNatClampNeg then none else zoL (mI mm a8 (v2 : Int32).toNatClampNeg x21) (fun mm25 => L_XTexture_fill_2 sh fu v0 v1 (v2 + 1) mm25))))))))))))))
set_option maxHeartbeats 4000000 in
set_option maxRecDepth 100000 in
theorem lp_XTexture_fill_2 {p : Program} {l : Launch} {e : Env} {s : State} {m : MethodId} {args : Array Value} {below : List Frame} {meth : Method} {c : Code} {D : va_G} {tA : Nat → ClassId} {b n : Nat} {post : Option Value → zV → Nat → Prop} {sh : zSh} (F : zF p s m args meth c zb_XTexture_fill 3 "OrreryBox$Texture" D tA b) : ∀ (fuel : Nat) (v0 : Nat) (v1 : Nat) (v2 : Int32) (mm : zMem) (r : Nat × Nat × Int32 × zMem), L_XTexture_fill_2 sh fuel v0 v1 v2 mm = some r → (Z p l e { frames := 2, cells := 0, slots := 0, locals := 53 } s m args below meth c D b 3 (MQ below (zQ D b post) args s 0 0 (fun q => b ≤ q)) (zW tA b sh r.2.2.2) n 0 0 54 [(0, .ref (b + (r.1))), (1, .ref (b + (r.2.1))), (2, .int (r.2.2.1))] []) → Z p l e { frames := 2, cells := 0, slots := 0, locals := 53 } s m args below meth c D b 3 (MQ below (zQ D b post) args s 0 0 (fun q => b ≤ q)) (zW tA b sh mm) n 0 0 2 [(0, .ref (b + v0)), (1, .ref (b + v1)), (2, .int v2)] [] := by
  intro fuel
  induction fuel with
  | zero =>
    intro v0 v1 v2 mm r h
    cases h
  | succ fu ih =>
    intro v0 v1 v2 mm r h hx0
    rw [L_XTexture_fill_2] at h
    refine zr_iload_n F zd_XTexture_fill_2 rfl ?_
    refine zr_aload_n F zd_XTexture_fill_3 rfl ?_
    obtain ⟨le2, hs1, h⟩ := zoS_s h
    refine zr_get F 10 0 zd_XTexture_fill_4 (zW_o hs1 (by decide)) rfl (by decide) zw_148 rfl (by rfl) ?_
    refine zr_aload_n F zd_XTexture_fill_7 rfl ?_
    obtain ⟨le4, hs3, h⟩ := zoS_s h
    refine zr_get F 10 0 zd_XTexture_fill_8 (zW_o hs3 (by decide)) rfl (by decide) zw_148 rfl (by rfl) ?_
    refine zr_pcn 11 rfl ?_
    refine zr_imul F zd_XTexture_fill_11 ?_
    refine zr_icmp_ge F 54 zd_XTexture_fill_12 (by decide) (fun hb5 => ?_) (fun hb5 => ?_)
    ·
      rw [if_pos hb5] at h
      obtain rfl := Option.some.inj h
      refine zr_loc (L' := [(0, .ref (b + v0)), (1, .ref (b + v1)), (2, .int v2)]) ⟨rfl, rfl, rfl, trivial⟩ ?_
      exact hx0 
    ·
      rw [if_neg hb5] at h
      refine zr_aload_n F zd_XTexture_fill_15 rfl ?_
      obtain ⟨le7, hs6, h⟩ := zoS_s h
      obtain ⟨a8, ea8, h⟩ := zoB_s h
      refine zr_get F 10 4 zd_XTexture_fill_16 (zW_o hs6 (by decide)) rfl (by decide) zw_155 rfl (by rfl) ?_
      refine zr_tor ea8 ?_
      refine zr_iload_n F zd_XTexture_fill_19 rfl ?_
      refine zr_aload_n F zd_XTexture_fill_20 rfl ?_
      refine zr_iconstv (v := 3) F zd_XTexture_fill_21 (by decide) ?_
      refine zr_iload_n F zd_XTexture_fill_22 rfl ?_
      refine zr_pcn 23 rfl ?_
      refine zr_imul F zd_XTexture_fill_23 ?_
      obtain ⟨i9, ei9, h⟩ := zoL_s h
      rw [← ei9]
      obtain ⟨le11, hs10, h⟩ := zoS_s h
      obtain ⟨hi12, h⟩ := zoI_s h
      refine zr_iald F zd_XTexture_fill_24 (zW_a0 hs10) hi12 ?_
      refine zr_bipushv (v := 16) F zd_XTexture_fill_25 (by decide) ?_
      refine zr_ishl F zd_XTexture_fill_27 ?_
      refine zr_aload_n F zd_XTexture_fill_28 rfl ?_
      refine zr_iconstv (v := 3) F zd_XTexture_fill_29 (by decide) ?_
      refine zr_iload_n F zd_XTexture_fill_30 rfl ?_
      refine zr_imul F zd_XTexture_fill_31 ?_
      refine zr_pcn 32 rfl ?_
      refine zr_iconstv (v := 1) F zd_XTexture_fill_32 (by decide) ?_
      refine zr_iadd F zd_XTexture_fill_33 ?_
      obtain ⟨i13, ei13, h⟩ := zoL_s h
      rw [← ei13]
      obtain ⟨le15, hs14, h⟩ := zoS_s h
      obtain ⟨hi16, h⟩ := zoI_s h
      refine zr_iald F zd_XTexture_fill_34 (zW_a0 hs14) hi16 ?_
      refine zr_bipushv (v := 8) F zd_XTexture_fill_35 (by decide) ?_
      refine zr_ishl F zd_XTexture_fill_37 ?_
      refine zr_ior F zd_XTexture_fill_38 ?_
      refine zr_aload_n F zd_XTexture_fill_39 rfl ?_
      refine zr_iconstv (v := 3) F zd_XTexture_fill_40 (by decide) ?_
      refine zr_pcn 41 rfl ?_
      refine zr_iload_n F zd_XTexture_fill_41 rfl ?_
      refine zr_imul F zd_XTexture_fill_42 ?_
      refine zr_iconstv (v := 2) F zd_XTexture_fill_43 (by decide) ?_
      refine zr_iadd F zd_XTexture_fill_44 ?_
      obtain ⟨i17, ei17, h⟩ := zoL_s h
      rw [← ei17]
      obtain ⟨le19, hs18, h⟩ := zoS_s h
      obtain ⟨hi20, h⟩ := zoI_s h
      refine zr_iald F zd_XTexture_fill_45 (zW_a0 hs18) hi20 ?_
      refine zr_ior F zd_XTexture_fill_46 ?_
      obtain ⟨x21, ex21, h⟩ := zoL_s h
      rw [← ex21]
      obtain ⟨le23, hs22, h⟩ := zoS_s h
      obtain ⟨hi24, h⟩ := zoI_s h
      refine zr_iast F zd_XTexture_fill_47 (zW_a0 hs22) hi24 ?_
      obtain ⟨mm25, emm25, h⟩ := zoL_s h
      refine zr_norm (zW tA b sh mm25) _ (by rw [emm25]; exact zW_s0 hs22) rfl ?_
      refine zr_iinc (v := (v2 + 1)) F zd_XTexture_fill_48 rfl rfl (by decide) ?_
      refine zr_pcn 51 rfl ?_
      refine zr_goto F 2 zd_XTexture_fill_51 (by decide) ?_
      refine zr_loc (L' := [(0, .ref (b + v0)), (1, .ref (b + v1)), (2, .int (v2 + 1))]) ⟨rfl, rfl, rfl, trivial⟩ ?_
      exact ih _ _ _ _ _ h hx0
theorem zf_I_10_3 (b : Nat) (m : zMem) (k : Nat) (v : Int32) : (zfl b 10 m k).set 3 (.int v) = zfl b 10 (mI m k 3 v) k := by simp [zfl, mI, upd, vp_updL]
theorem zw_1236 : (Jvm.Cond.methodLink "OrreryBox$Texture" (23 : Nat) ({ cls := "OrreryBox$Texture", name := "halve", desc := "(III)V" } : Jvm.MethodName)) ∈ gw := gw_t 1236 (by decide +kernel) rfl
theorem zw_1238 : (Jvm.Cond.instanceMethod ({ cls := "OrreryBox$Texture", name := "halve", desc := "(III)V" } : Jvm.MethodName)) ∈ gw := gw_t 1238 (by decide +kernel) rfl
theorem zv_62 : (Jvm.Cond.selects "OrreryBox$Texture" (⟨"OrreryBox$Texture", "halve", "(III)V"⟩ : MethodName) ⟨"OrreryBox$Texture", "halve", "(III)V"⟩) ∈ gw := gw_s 62 (by decide +kernel) rfl
theorem zs_XTexture_23 : zwV "OrreryBox$Texture" 23 "OrreryBox$Texture" zy_XTexture_halve zb_XTexture_halve 8 none := ⟨zw_1236, zw_1238, zv_62, zw_6, zc_XTexture_halve⟩
def L_XTexture_fill_64 (sh : zSh) (fuel : Nat) (v0 : Nat) (v2 : Int32) (mm : zMem) : Option (Nat × Int32 × zMem) := match fuel with
  | 0 => none
  | fu + 1 => (if v2 ≤ 1 then some (v0, v2, mm) else zoS (sh v0) 10 (fun le35 => zoS (sh v0) 10 (fun le37 => Option.bind (mm.2.2 v0 5) (fun a38 => zoA (sh a38) (fun t41 le40 => (if (Int32.ofNat le40) ≤ ((mm.1 v0 3) + 1) then some (v0, v2, mm) else zoS (sh v0) 10 (fun le44 => Option.bind (mm.2.2 v0 5) (fun a45 => zoS (sh v0) 10 (fun le47 => zoS (sh v0) 10 (fun le49 => Option.bind (mm.2.2 v0 5) (fun a50 => zoS (sh v0) 10 (fun le52 => zoL (mm.1 v0 3) (fun i53 => zoS (sh a50) 100 (fun le55 => if (i53 : Int32) < 0 ∨ le55 ≤ (i53 : Int32).toNatClampNeg then none else zoL ((mm.1 a50 (i53 : Int32).toNatClampNeg) + (v2 * v2)) (fun x57 => zoL (i53 + 1) (fun i58 => zoS (sh a45) 100 (fun le60 => if (i58 : Int32) < 0 ∨ le60 ≤ (i58 : Int32).toNatClampNeg then none else zoL (mI mm a45 (i58 : Int32).toNatClampNeg x57) (fun mm62 => zoS (sh v0) 10 (fun le64 => Option.bind (mm62.2.2 v0 5) (fun a65 => zoS (sh v0) 10 (fun le67 => zoL (mm62.1 v0 3) (fun i68 => zoS (sh a65) 100 (fun le70 => if (i68 : Int32) < 0 ∨ le70 ≤ (i68 : Int32).toNatClampNeg then none else zoS (sh v0) 10 (fun le73 => Option.bind (mm62.2.2 v0 5) (fun a74 => zoS (sh v0) 10 (fun le76 => zoL ((mm62.1 v0 3) + 1) (fun i77 => zoS (sh a74) 100 (fun le79 => if (i77 : Int32) < 0 ∨ le79 ≤ (i77 : Int32).toNatClampNeg then none else zoS (sh v0) 10 (fun le82 => zoL (mm62.1 a65 (i68 : Int32).toNatClampNeg) (fun x83 => zoL (mm62.1 a74 (i77 : Int32).toNatClampNeg) (fun x84 => Option.bind (F_XTexture_halve sh mm62 v0 x83 v2 x84) (fun p85 => zoS (sh v0) 10 (fun le87 => zoL ((p85.1 v0 3) + 1) (fun x88 => zoS (sh v0) 10 (fun le90 => zoL (mI p85 v0 3 x88) (fun mm91 => zoL (v2 / 2) (fun x92 => L_XTexture_fill_64 sh fu v0 x92 mm91)))))))))))))))))))))))))))))))))))))
set_option maxHeartbeats 4000000 in
set_option maxRecDepth 100000 in
theorem lp_XTexture_fill_64 {p : Program} {l : Launch} {e : Env} {s : State} {m : MethodId} {args : Array Value} {below : List Frame} {meth : Method} {c : Code} {D : va_G} {tA : Nat → ClassId} {b n : Nat} {post : Option Value → zV → Nat → Prop} {sh : zSh} (F : zF p s m args meth c zb_XTexture_fill 3 "OrreryBox$Texture" D tA b) : ∀ (fuel : Nat) (v0 : Nat) (v2 : Int32) (mm : zMem) (r : Nat × Int32 × zMem), L_XTexture_fill_64 sh fuel v0 v2 mm = some r → (Z p l e { frames := 2, cells := 0, slots := 0, locals := 53 } s m args below meth c D b 3 (MQ below (zQ D b post) args s 0 0 (fun q => b ≤ q)) (zW tA b sh r.2.2) n 0 0 149 [(0, .ref (b + (r.1))), (2, .int (r.2.1))] []) → Z p l e { frames := 2, cells := 0, slots := 0, locals := 53 } s m args below meth c D b 3 (MQ below (zQ D b post) args s 0 0 (fun q => b ≤ q)) (zW tA b sh mm) n 0 0 64 [(0, .ref (b + v0)), (2, .int v2)] [] := by
  intro fuel
  induction fuel with
  | zero =>
    intro v0 v2 mm r h
    cases h
  | succ fu ih =>
    intro v0 v2 mm r h hx0
    rw [L_XTexture_fill_64] at h
    refine zr_iload_n F zd_XTexture_fill_64 rfl ?_
    refine zr_pcn 65 rfl ?_
    refine zr_iconstv (v := 1) F zd_XTexture_fill_65 (by decide) ?_
    refine zr_icmp_le F 149 zd_XTexture_fill_66 (by decide) (fun hb33 => ?_) (fun hb33 => ?_)
    ·
      rw [if_pos hb33] at h
      obtain rfl := Option.some.inj h
      refine zr_loc (L' := [(0, .ref (b + v0)), (2, .int v2)]) ⟨rfl, rfl, trivial⟩ ?_
      exact hx0 
    ·
      rw [if_neg hb33] at h
      refine zr_aload_n F zd_XTexture_fill_69 rfl ?_
      obtain ⟨le35, hs34, h⟩ := zoS_s h
      refine zr_get F 10 3 zd_XTexture_fill_70 (zW_o hs34 (by decide)) rfl (by decide) zw_154 rfl (by rfl) ?_
      refine zr_iconstv (v := 1) F zd_XTexture_fill_73 (by decide) ?_
      refine zr_iadd F zd_XTexture_fill_74 ?_
      refine zr_aload_n F zd_XTexture_fill_75 rfl ?_
      obtain ⟨le37, hs36, h⟩ := zoS_s h
      obtain ⟨a38, ea38, h⟩ := zoB_s h
      refine zr_get F 10 5 zd_XTexture_fill_76 (zW_o hs36 (by decide)) rfl (by decide) zw_156 rfl (by rfl) ?_
      refine zr_tor ea38 ?_
      refine zr_pcn 79 rfl ?_
      obtain ⟨t41, le40, hs39, h⟩ := zoA_s h
      refine zr_lenW F zd_XTexture_fill_79 hs39 ?_
      refine zr_icmp_ge F 149 zd_XTexture_fill_80 (by decide) (fun hb42 => ?_) (fun hb42 => ?_)
      ·
        rw [if_pos hb42] at h
        obtain rfl := Option.some.inj h
        refine zr_loc (L' := [(0, .ref (b + v0)), (2, .int v2)]) ⟨rfl, rfl, trivial⟩ ?_
        exact hx0 
      ·
        rw [if_neg hb42] at h
        refine zr_aload_n F zd_XTexture_fill_83 rfl ?_
        obtain ⟨le44, hs43, h⟩ := zoS_s h
        obtain ⟨a45, ea45, h⟩ := zoB_s h
        refine zr_get F 10 5 zd_XTexture_fill_84 (zW_o hs43 (by decide)) rfl (by decide) zw_156 rfl (by rfl) ?_
        refine zr_tor ea45 ?_
        refine zr_aload_n F zd_XTexture_fill_87 rfl ?_
        obtain ⟨le47, hs46, h⟩ := zoS_s h
        refine zr_get F 10 3 zd_XTexture_fill_88 (zW_o hs46 (by decide)) rfl (by decide) zw_154 rfl (by rfl) ?_
        refine zr_iconstv (v := 1) F zd_XTexture_fill_91 (by decide) ?_
        refine zr_iadd F zd_XTexture_fill_92 ?_
        refine zr_pcn 93 rfl ?_
        refine zr_aload_n F zd_XTexture_fill_93 rfl ?_
        obtain ⟨le49, hs48, h⟩ := zoS_s h
        obtain ⟨a50, ea50, h⟩ := zoB_s h
        refine zr_get F 10 5 zd_XTexture_fill_94 (zW_o hs48 (by decide)) rfl (by decide) zw_156 rfl (by rfl) ?_
        refine zr_tor ea50 ?_
        refine zr_aload_n F zd_XTexture_fill_97 rfl ?_
        obtain ⟨le52, hs51, h⟩ := zoS_s h
        refine zr_get F 10 3 zd_XTexture_fill_98 (zW_o hs51 (by decide)) rfl (by decide) zw_154 rfl (by rfl) ?_
        obtain ⟨i53, ei53, h⟩ := zoL_s h
        rw [← ei53]
        obtain ⟨le55, hs54, h⟩ := zoS_s h
        obtain ⟨hi56, h⟩ := zoI_s h
        refine zr_iald F zd_XTexture_fill_101 (zW_a0 hs54) hi56 ?_
        refine zr_iload_n F zd_XTexture_fill_102 rfl ?_
        refine zr_iload_n F zd_XTexture_fill_103 rfl ?_
        refine zr_imul F zd_XTexture_fill_104 ?_
        refine zr_pcn 105 rfl ?_
        refine zr_iadd F zd_XTexture_fill_105 ?_
        obtain ⟨x57, ex57, h⟩ := zoL_s h
        rw [← ex57]
        obtain ⟨i58, ei58, h⟩ := zoL_s h
        rw [← ei58]
        obtain ⟨le60, hs59, h⟩ := zoS_s h
        obtain ⟨hi61, h⟩ := zoI_s h
        refine zr_iast F zd_XTexture_fill_106 (zW_a0 hs59) hi61 ?_
        obtain ⟨mm62, emm62, h⟩ := zoL_s h
        refine zr_norm (zW tA b sh mm62) _ (by rw [emm62]; exact zW_s0 hs59) rfl ?_
        refine zr_aload_n F zd_XTexture_fill_107 rfl ?_
        refine zr_aload_n F zd_XTexture_fill_108 rfl ?_
        obtain ⟨le64, hs63, h⟩ := zoS_s h
        obtain ⟨a65, ea65, h⟩ := zoB_s h
        refine zr_get F 10 5 zd_XTexture_fill_109 (zW_o hs63 (by decide)) rfl (by decide) zw_156 rfl (by rfl) ?_
        refine zr_tor ea65 ?_
        refine zr_aload_n F zd_XTexture_fill_112 rfl ?_
        obtain ⟨le67, hs66, h⟩ := zoS_s h
        refine zr_get F 10 3 zd_XTexture_fill_113 (zW_o hs66 (by decide)) rfl (by decide) zw_154 rfl (by rfl) ?_
        obtain ⟨i68, ei68, h⟩ := zoL_s h
        rw [← ei68]
        obtain ⟨le70, hs69, h⟩ := zoS_s h
        obtain ⟨hi71, h⟩ := zoI_s h
        refine zr_iald F zd_XTexture_fill_116 (zW_a0 hs69) hi71 ?_
        refine zr_pcn 117 rfl ?_
        refine zr_iload_n F zd_XTexture_fill_117 rfl ?_
        refine zr_aload_n F zd_XTexture_fill_118 rfl ?_
        obtain ⟨le73, hs72, h⟩ := zoS_s h
        obtain ⟨a74, ea74, h⟩ := zoB_s h
        refine zr_get F 10 5 zd_XTexture_fill_119 (zW_o hs72 (by decide)) rfl (by decide) zw_156 rfl (by rfl) ?_
        refine zr_tor ea74 ?_
        refine zr_aload_n F zd_XTexture_fill_122 rfl ?_
        obtain ⟨le76, hs75, h⟩ := zoS_s h
        refine zr_get F 10 3 zd_XTexture_fill_123 (zW_o hs75 (by decide)) rfl (by decide) zw_154 rfl (by rfl) ?_
        refine zr_iconstv (v := 1) F zd_XTexture_fill_126 (by decide) ?_
        refine zr_iadd F zd_XTexture_fill_127 ?_
        obtain ⟨i77, ei77, h⟩ := zoL_s h
        rw [← ei77]
        obtain ⟨le79, hs78, h⟩ := zoS_s h
        obtain ⟨hi80, h⟩ := zoI_s h
        refine zr_iald F zd_XTexture_fill_128 (zW_a0 hs78) hi80 ?_
        refine zr_pcn 129 rfl ?_
        obtain ⟨le82, hs81, h⟩ := zoS_s h
        obtain ⟨x83, ex83, h⟩ := zoL_s h
        rw [← ex83]
        obtain ⟨x84, ex84, h⟩ := zoL_s h
        rw [← ex84]
        obtain ⟨p85, ep85, h⟩ := zoB_s h
        refine zr_callV0 F (k_XTexture_halve l D tA b sh _ ep85) zd_XTexture_fill_129 (zW_o hs81 (by decide)) rfl zs_XTexture_23 rfl zq_XTexture_halve rfl rfl ⟨(Nat.le_of_ble_eq_true rfl), (Nat.le_of_ble_eq_true rfl)⟩ (Nat.le_of_ble_eq_true rfl) ⟨(Nat.le_of_ble_eq_true rfl), (Nat.le_of_ble_eq_true rfl)⟩ ?_
        refine zr_aload_n F zd_XTexture_fill_132 rfl ?_
        refine zr_dup F zd_XTexture_fill_133 rfl ?_
        obtain ⟨le87, hs86, h⟩ := zoS_s h
        refine zr_get F 10 3 zd_XTexture_fill_134 (zW_o hs86 (by decide)) rfl (by decide) zw_154 rfl (by rfl) ?_
        refine zr_iconstv (v := 1) F zd_XTexture_fill_137 (by decide) ?_
        refine zr_iadd F zd_XTexture_fill_138 ?_
        obtain ⟨x88, ex88, h⟩ := zoL_s h
        rw [← ex88]
        obtain ⟨le90, hs89, h⟩ := zoS_s h
        refine zr_put F 10 3 zd_XTexture_fill_139 (zW_o hs89 (by decide)) rfl (by decide) zw_154 rfl rfl rfl rfl (by exact (Nat.le_of_ble_eq_true rfl)) ?_
        obtain ⟨mm91, emm91, h⟩ := zoL_s h
        refine zr_norm (zW tA b sh mm91) _ (by rw [emm91]; exact zW_pI (v := x88) hs89 (by decide) (zf_I_10_3 b _ _ _)) rfl ?_
        refine zr_iload_n F zd_XTexture_fill_142 rfl ?_
        refine zr_pcn 143 rfl ?_
        refine zr_iconstv (v := 2) F zd_XTexture_fill_143 (by decide) ?_
        refine zr_idiv F zd_XTexture_fill_144 (by decide) ?_
        obtain ⟨x92, ex92, h⟩ := zoL_s h
        rw [← ex92]
        refine zr_istore_n F zd_XTexture_fill_145 (by decide) ?_
        refine zr_goto F 64 zd_XTexture_fill_146 (by decide) ?_
        refine zr_loc (L' := [(0, .ref (b + v0)), (2, .int x92)]) ⟨rfl, rfl, trivial⟩ ?_
        exact ih _ _ _ _ h hx0
def F_XTexture_fill (sh : zSh) (mm : zMem) (o : Nat) (x0_ : Nat) : Option zMem := Option.bind (L_XTexture_fill_2 sh zfuel o x0_ 0 mm) (fun q26 => zoS (sh (q26.1)) 10 (fun le28 => zoL (mI (q26.2.2.2) (q26.1) 3 0) (fun mm29 => zoS (sh (q26.1)) 10 (fun le31 => zoL (mm29.1 (q26.1) 0) (fun x32 => Option.bind (L_XTexture_fill_64 sh zfuel (q26.1) x32 mm29) (fun q93 => some (q93.2.2)))))))
set_option maxHeartbeats 4000000 in
set_option maxRecDepth 100000 in
theorem k_XTexture_fill (l : Launch) (D : va_G) (tA : Nat → ClassId) (b : Nat) (sh : zSh) (n : Nat) {mm : zMem} {o : Nat} {x0_ : Nat} {r : zMem} (h : F_XTexture_fill sh mm o x0_ = some r) : zM l D tA b zy_XTexture_fill zb_XTexture_fill 3 none 2 53 0 0 [.ref (b + o), .ref (b + x0_)] (zW tA b sh mm) n (zE none (zW tA b sh r) n) := by
  unfold F_XTexture_fill at h
  refine zM_of (own := "OrreryBox$Texture") (plainFor_of_name (by decide)) rfl (Nat.le_of_ble_eq_true rfl) (fun p e s m below meth c F hr hin hH => ?_)
  refine zr_iconstv (v := 0) F zd_XTexture_fill_0 (by decide) ?_
  refine zr_istore_n F zd_XTexture_fill_1 (by decide) ?_
  obtain ⟨q26, eq26, h⟩ := zoB_s h
  refine zr_loc (L' := [(0, .ref (b + o)), (1, .ref (b + x0_)), (2, .int 0)]) ⟨rfl, rfl, rfl, trivial⟩ ?_
  refine lp_XTexture_fill_2 F _ _ _ _ _ _ eq26 ?_
  ·
    refine zr_aload_n F zd_XTexture_fill_54 rfl ?_
    refine zr_iconstv (v := 0) F zd_XTexture_fill_55 (by decide) ?_
    obtain ⟨le28, hs27, h⟩ := zoS_s h
    refine zr_put F 10 3 zd_XTexture_fill_56 (zW_o hs27 (by decide)) rfl (by decide) zw_154 rfl rfl rfl rfl (by exact (Nat.le_of_ble_eq_true rfl)) ?_
    obtain ⟨mm29, emm29, h⟩ := zoL_s h
    refine zr_norm (zW tA b sh mm29) _ (by rw [emm29]; exact zW_pI (v := 0) hs27 (by decide) (zf_I_10_3 b _ _ _)) rfl ?_
    refine zr_aload_n F zd_XTexture_fill_59 rfl ?_
    obtain ⟨le31, hs30, h⟩ := zoS_s h
    refine zr_get F 10 0 zd_XTexture_fill_60 (zW_o hs30 (by decide)) rfl (by decide) zw_148 rfl (by rfl) ?_
    obtain ⟨x32, ex32, h⟩ := zoL_s h
    rw [← ex32]
    refine zr_istore_n F zd_XTexture_fill_63 (by decide) ?_
    obtain ⟨q93, eq93, h⟩ := zoB_s h
    refine zr_loc (L' := [(0, .ref (b + (q26.1))), (2, .int x32)]) ⟨rfl, rfl, trivial⟩ ?_
    refine lp_XTexture_fill_64 F _ _ _ _ _ eq93 ?_
    ·
      obtain rfl := Option.some.inj h
      exact zr_vret F hr zd_XTexture_fill_149 (Nat.le_of_ble_eq_true rfl) (Nat.le_of_ble_eq_true rfl) ⟨rfl, rfl, rfl⟩
abbrev zb_XTexture_softAt : ByteArray := prog_11_method_7_code
def zy_XTexture_softAt : MethodName := ⟨"OrreryBox$Texture", "softAt", "(IIJJ)I"⟩
theorem zc_XTexture_softAt : Cond.code zy_XTexture_softAt zb_XTexture_softAt 21 (some .int) ∈ gw := gw_t 847 (by decide +kernel) rfl
theorem zq_XTexture_softAt : zy_XTexture_softAt.cls ≠ "java/lang/invoke/MethodHandle" ∧ zy_XTexture_softAt.cls ≠ "java/lang/invoke/VarHandle" ∧ (parseMethodDescriptor zy_XTexture_softAt.desc).map (fun d => d.parameters.length) = some 4 := by decide +kernel
theorem zd_XTexture_softAt_0 : decode zb_XTexture_softAt 0 = .ok (.lload_n 3, 1) := by decide +kernel
theorem zd_XTexture_softAt_1 : decode zb_XTexture_softAt 1 = .ok (.bipush 16, 2) := by decide +kernel
theorem zd_XTexture_softAt_3 : decode zb_XTexture_softAt 3 = .ok (.lshr, 1) := by decide +kernel
theorem zd_XTexture_softAt_4 : decode zb_XTexture_softAt 4 = .ok (.lstore 7, 2) := by decide +kernel
theorem zd_XTexture_softAt_6 : decode zb_XTexture_softAt 6 = .ok (.lload 5, 2) := by decide +kernel
theorem zd_XTexture_softAt_8 : decode zb_XTexture_softAt 8 = .ok (.bipush 16, 2) := by decide +kernel
theorem zd_XTexture_softAt_10 : decode zb_XTexture_softAt 10 = .ok (.lshr, 1) := by decide +kernel
theorem zd_XTexture_softAt_11 : decode zb_XTexture_softAt 11 = .ok (.lstore 9, 2) := by decide +kernel
theorem zd_XTexture_softAt_13 : decode zb_XTexture_softAt 13 = .ok (.lload_n 3, 1) := by decide +kernel
theorem zd_XTexture_softAt_14 : decode zb_XTexture_softAt 14 = .ok (.lload 7, 2) := by decide +kernel
theorem zd_XTexture_softAt_16 : decode zb_XTexture_softAt 16 = .ok (.bipush 16, 2) := by decide +kernel
theorem zd_XTexture_softAt_18 : decode zb_XTexture_softAt 18 = .ok (.lshl, 1) := by decide +kernel
theorem zd_XTexture_softAt_19 : decode zb_XTexture_softAt 19 = .ok (.lsub, 1) := by decide +kernel
theorem zd_XTexture_softAt_20 : decode zb_XTexture_softAt 20 = .ok (.l2i, 1) := by decide +kernel
theorem zd_XTexture_softAt_21 : decode zb_XTexture_softAt 21 = .ok (.bipush 8, 2) := by decide +kernel
theorem zd_XTexture_softAt_23 : decode zb_XTexture_softAt 23 = .ok (.ishr, 1) := by decide +kernel
theorem zd_XTexture_softAt_24 : decode zb_XTexture_softAt 24 = .ok (.istore 11, 2) := by decide +kernel
theorem zd_XTexture_softAt_26 : decode zb_XTexture_softAt 26 = .ok (.lload 5, 2) := by decide +kernel
theorem zd_XTexture_softAt_28 : decode zb_XTexture_softAt 28 = .ok (.lload 9, 2) := by decide +kernel
theorem zd_XTexture_softAt_30 : decode zb_XTexture_softAt 30 = .ok (.bipush 16, 2) := by decide +kernel
theorem zd_XTexture_softAt_32 : decode zb_XTexture_softAt 32 = .ok (.lshl, 1) := by decide +kernel
theorem zd_XTexture_softAt_33 : decode zb_XTexture_softAt 33 = .ok (.lsub, 1) := by decide +kernel
theorem zd_XTexture_softAt_34 : decode zb_XTexture_softAt 34 = .ok (.l2i, 1) := by decide +kernel
theorem zd_XTexture_softAt_35 : decode zb_XTexture_softAt 35 = .ok (.bipush 8, 2) := by decide +kernel
theorem zd_XTexture_softAt_37 : decode zb_XTexture_softAt 37 = .ok (.ishr, 1) := by decide +kernel
theorem zd_XTexture_softAt_38 : decode zb_XTexture_softAt 38 = .ok (.istore 12, 2) := by decide +kernel
theorem zd_XTexture_softAt_40 : decode zb_XTexture_softAt 40 = .ok (.aload_n 0, 1) := by decide +kernel
theorem zd_XTexture_softAt_41 : decode zb_XTexture_softAt 41 = .ok (.iload_n 1, 1) := by decide +kernel
theorem zd_XTexture_softAt_42 : decode zb_XTexture_softAt 42 = .ok (.iload_n 2, 1) := by decide +kernel
theorem zd_XTexture_softAt_43 : decode zb_XTexture_softAt 43 = .ok (.lload 7, 2) := by decide +kernel
theorem zd_XTexture_softAt_45 : decode zb_XTexture_softAt 45 = .ok (.lload 9, 2) := by decide +kernel
theorem zd_XTexture_softAt_47 : decode zb_XTexture_softAt 47 = .ok (.invokevirtual 45, 3) := by decide +kernel
theorem zd_XTexture_softAt_50 : decode zb_XTexture_softAt 50 = .ok (.istore 13, 2) := by decide +kernel
theorem zd_XTexture_softAt_52 : decode zb_XTexture_softAt 52 = .ok (.aload_n 0, 1) := by decide +kernel
theorem zd_XTexture_softAt_53 : decode zb_XTexture_softAt 53 = .ok (.iload_n 1, 1) := by decide +kernel
theorem zd_XTexture_softAt_54 : decode zb_XTexture_softAt 54 = .ok (.iload_n 2, 1) := by decide +kernel
theorem zd_XTexture_softAt_55 : decode zb_XTexture_softAt 55 = .ok (.lload 7, 2) := by decide +kernel
theorem zd_XTexture_softAt_57 : decode zb_XTexture_softAt 57 = .ok (.lconst 1, 1) := by decide +kernel
theorem zd_XTexture_softAt_58 : decode zb_XTexture_softAt 58 = .ok (.ladd, 1) := by decide +kernel
theorem zd_XTexture_softAt_59 : decode zb_XTexture_softAt 59 = .ok (.lload 9, 2) := by decide +kernel
theorem zd_XTexture_softAt_61 : decode zb_XTexture_softAt 61 = .ok (.invokevirtual 45, 3) := by decide +kernel
theorem zd_XTexture_softAt_64 : decode zb_XTexture_softAt 64 = .ok (.istore 14, 2) := by decide +kernel
theorem zd_XTexture_softAt_66 : decode zb_XTexture_softAt 66 = .ok (.aload_n 0, 1) := by decide +kernel
theorem zd_XTexture_softAt_67 : decode zb_XTexture_softAt 67 = .ok (.iload_n 1, 1) := by decide +kernel
theorem zd_XTexture_softAt_68 : decode zb_XTexture_softAt 68 = .ok (.iload_n 2, 1) := by decide +kernel
theorem zd_XTexture_softAt_69 : decode zb_XTexture_softAt 69 = .ok (.lload 7, 2) := by decide +kernel
theorem zd_XTexture_softAt_71 : decode zb_XTexture_softAt 71 = .ok (.lload 9, 2) := by decide +kernel
theorem zd_XTexture_softAt_73 : decode zb_XTexture_softAt 73 = .ok (.lconst 1, 1) := by decide +kernel
theorem zd_XTexture_softAt_74 : decode zb_XTexture_softAt 74 = .ok (.ladd, 1) := by decide +kernel
theorem zd_XTexture_softAt_75 : decode zb_XTexture_softAt 75 = .ok (.invokevirtual 45, 3) := by decide +kernel
theorem zd_XTexture_softAt_78 : decode zb_XTexture_softAt 78 = .ok (.istore 15, 2) := by decide +kernel
theorem zd_XTexture_softAt_80 : decode zb_XTexture_softAt 80 = .ok (.aload_n 0, 1) := by decide +kernel
theorem zd_XTexture_softAt_81 : decode zb_XTexture_softAt 81 = .ok (.iload_n 1, 1) := by decide +kernel
theorem zd_XTexture_softAt_82 : decode zb_XTexture_softAt 82 = .ok (.iload_n 2, 1) := by decide +kernel
theorem zd_XTexture_softAt_83 : decode zb_XTexture_softAt 83 = .ok (.lload 7, 2) := by decide +kernel
theorem zd_XTexture_softAt_85 : decode zb_XTexture_softAt 85 = .ok (.lconst 1, 1) := by decide +kernel
theorem zd_XTexture_softAt_86 : decode zb_XTexture_softAt 86 = .ok (.ladd, 1) := by decide +kernel
theorem zd_XTexture_softAt_87 : decode zb_XTexture_softAt 87 = .ok (.lload 9, 2) := by decide +kernel
theorem zd_XTexture_softAt_89 : decode zb_XTexture_softAt 89 = .ok (.lconst 1, 1) := by decide +kernel
theorem zd_XTexture_softAt_90 : decode zb_XTexture_softAt 90 = .ok (.ladd, 1) := by decide +kernel
theorem zd_XTexture_softAt_91 : decode zb_XTexture_softAt 91 = .ok (.invokevirtual 45, 3) := by decide +kernel
theorem zd_XTexture_softAt_94 : decode zb_XTexture_softAt 94 = .ok (.istore 16, 2) := by decide +kernel
theorem zd_XTexture_softAt_96 : decode zb_XTexture_softAt 96 = .ok (.iconst 0, 1) := by decide +kernel
theorem zd_XTexture_softAt_97 : decode zb_XTexture_softAt 97 = .ok (.istore 17, 2) := by decide +kernel
theorem zd_XTexture_softAt_99 : decode zb_XTexture_softAt 99 = .ok (.iconst 0, 1) := by decide +kernel
theorem zd_XTexture_softAt_100 : decode zb_XTexture_softAt 100 = .ok (.istore 18, 2) := by decide +kernel
theorem zd_XTexture_softAt_102 : decode zb_XTexture_softAt 102 = .ok (.iload 18, 2) := by decide +kernel
theorem zd_XTexture_softAt_104 : decode zb_XTexture_softAt 104 = .ok (.bipush 16, 2) := by decide +kernel
theorem zd_XTexture_softAt_106 : decode zb_XTexture_softAt 106 = .ok (.if_icmp .gt 97, 3) := by decide +kernel
theorem zd_XTexture_softAt_109 : decode zb_XTexture_softAt 109 = .ok (.iload 13, 2) := by decide +kernel
theorem zd_XTexture_softAt_111 : decode zb_XTexture_softAt 111 = .ok (.iload 18, 2) := by decide +kernel
theorem zd_XTexture_softAt_113 : decode zb_XTexture_softAt 113 = .ok (.ishr, 1) := by decide +kernel
theorem zd_XTexture_softAt_114 : decode zb_XTexture_softAt 114 = .ok (.sipush 255, 3) := by decide +kernel
theorem zd_XTexture_softAt_117 : decode zb_XTexture_softAt 117 = .ok (.iand, 1) := by decide +kernel
theorem zd_XTexture_softAt_118 : decode zb_XTexture_softAt 118 = .ok (.sipush 256, 3) := by decide +kernel
theorem zd_XTexture_softAt_121 : decode zb_XTexture_softAt 121 = .ok (.iload 11, 2) := by decide +kernel
theorem zd_XTexture_softAt_123 : decode zb_XTexture_softAt 123 = .ok (.isub, 1) := by decide +kernel
theorem zd_XTexture_softAt_124 : decode zb_XTexture_softAt 124 = .ok (.imul, 1) := by decide +kernel
theorem zd_XTexture_softAt_125 : decode zb_XTexture_softAt 125 = .ok (.iload 14, 2) := by decide +kernel
theorem zd_XTexture_softAt_127 : decode zb_XTexture_softAt 127 = .ok (.iload 18, 2) := by decide +kernel
theorem zd_XTexture_softAt_129 : decode zb_XTexture_softAt 129 = .ok (.ishr, 1) := by decide +kernel
theorem zd_XTexture_softAt_130 : decode zb_XTexture_softAt 130 = .ok (.sipush 255, 3) := by decide +kernel
theorem zd_XTexture_softAt_133 : decode zb_XTexture_softAt 133 = .ok (.iand, 1) := by decide +kernel
theorem zd_XTexture_softAt_134 : decode zb_XTexture_softAt 134 = .ok (.iload 11, 2) := by decide +kernel
theorem zd_XTexture_softAt_136 : decode zb_XTexture_softAt 136 = .ok (.imul, 1) := by decide +kernel
theorem zd_XTexture_softAt_137 : decode zb_XTexture_softAt 137 = .ok (.iadd, 1) := by decide +kernel
theorem zd_XTexture_softAt_138 : decode zb_XTexture_softAt 138 = .ok (.istore 19, 2) := by decide +kernel
theorem zd_XTexture_softAt_140 : decode zb_XTexture_softAt 140 = .ok (.iload 15, 2) := by decide +kernel
theorem zd_XTexture_softAt_142 : decode zb_XTexture_softAt 142 = .ok (.iload 18, 2) := by decide +kernel
theorem zd_XTexture_softAt_144 : decode zb_XTexture_softAt 144 = .ok (.ishr, 1) := by decide +kernel
theorem zd_XTexture_softAt_145 : decode zb_XTexture_softAt 145 = .ok (.sipush 255, 3) := by decide +kernel
theorem zd_XTexture_softAt_148 : decode zb_XTexture_softAt 148 = .ok (.iand, 1) := by decide +kernel
theorem zd_XTexture_softAt_149 : decode zb_XTexture_softAt 149 = .ok (.sipush 256, 3) := by decide +kernel
theorem zd_XTexture_softAt_152 : decode zb_XTexture_softAt 152 = .ok (.iload 11, 2) := by decide +kernel
theorem zd_XTexture_softAt_154 : decode zb_XTexture_softAt 154 = .ok (.isub, 1) := by decide +kernel
theorem zd_XTexture_softAt_155 : decode zb_XTexture_softAt 155 = .ok (.imul, 1) := by decide +kernel
theorem zd_XTexture_softAt_156 : decode zb_XTexture_softAt 156 = .ok (.iload 16, 2) := by decide +kernel
theorem zd_XTexture_softAt_158 : decode zb_XTexture_softAt 158 = .ok (.iload 18, 2) := by decide +kernel
theorem zd_XTexture_softAt_160 : decode zb_XTexture_softAt 160 = .ok (.ishr, 1) := by decide +kernel
theorem zd_XTexture_softAt_161 : decode zb_XTexture_softAt 161 = .ok (.sipush 255, 3) := by decide +kernel
theorem zd_XTexture_softAt_164 : decode zb_XTexture_softAt 164 = .ok (.iand, 1) := by decide +kernel
theorem zd_XTexture_softAt_165 : decode zb_XTexture_softAt 165 = .ok (.iload 11, 2) := by decide +kernel
theorem zd_XTexture_softAt_167 : decode zb_XTexture_softAt 167 = .ok (.imul, 1) := by decide +kernel
theorem zd_XTexture_softAt_168 : decode zb_XTexture_softAt 168 = .ok (.iadd, 1) := by decide +kernel
theorem zd_XTexture_softAt_169 : decode zb_XTexture_softAt 169 = .ok (.istore 20, 2) := by decide +kernel
theorem zd_XTexture_softAt_171 : decode zb_XTexture_softAt 171 = .ok (.iload 17, 2) := by decide +kernel
theorem zd_XTexture_softAt_173 : decode zb_XTexture_softAt 173 = .ok (.iload 19, 2) := by decide +kernel
theorem zd_XTexture_softAt_175 : decode zb_XTexture_softAt 175 = .ok (.sipush 256, 3) := by decide +kernel
theorem zd_XTexture_softAt_178 : decode zb_XTexture_softAt 178 = .ok (.iload 12, 2) := by decide +kernel
theorem zd_XTexture_softAt_180 : decode zb_XTexture_softAt 180 = .ok (.isub, 1) := by decide +kernel
theorem zd_XTexture_softAt_181 : decode zb_XTexture_softAt 181 = .ok (.imul, 1) := by decide +kernel
theorem zd_XTexture_softAt_182 : decode zb_XTexture_softAt 182 = .ok (.iload 20, 2) := by decide +kernel
theorem zd_XTexture_softAt_184 : decode zb_XTexture_softAt 184 = .ok (.iload 12, 2) := by decide +kernel
theorem zd_XTexture_softAt_186 : decode zb_XTexture_softAt 186 = .ok (.imul, 1) := by decide +kernel
theorem zd_XTexture_softAt_187 : decode zb_XTexture_softAt 187 = .ok (.iadd, 1) := by decide +kernel
theorem zd_XTexture_softAt_188 : decode zb_XTexture_softAt 188 = .ok (.bipush 16, 2) := by decide +kernel
theorem zd_XTexture_softAt_190 : decode zb_XTexture_softAt 190 = .ok (.ishr, 1) := by decide +kernel
theorem zd_XTexture_softAt_191 : decode zb_XTexture_softAt 191 = .ok (.iload 18, 2) := by decide +kernel
theorem zd_XTexture_softAt_193 : decode zb_XTexture_softAt 193 = .ok (.ishl, 1) := by decide +kernel
theorem zd_XTexture_softAt_194 : decode zb_XTexture_softAt 194 = .ok (.ior, 1) := by decide +kernel
theorem zd_XTexture_softAt_195 : decode zb_XTexture_softAt 195 = .ok (.istore 17, 2) := by decide +kernel
theorem zd_XTexture_softAt_197 : decode zb_XTexture_softAt 197 = .ok (.iinc 18 8, 3) := by decide +kernel
theorem zd_XTexture_softAt_200 : decode zb_XTexture_softAt 200 = .ok (.goto (-98), 3) := by decide +kernel
theorem zd_XTexture_softAt_203 : decode zb_XTexture_softAt 203 = .ok (.iload 17, 2) := by decide +kernel
theorem zd_XTexture_softAt_205 : decode zb_XTexture_softAt 205 = .ok (.ireturn, 1) := by decide +kernel
theorem zw_848 : (Jvm.Cond.methodLink "OrreryBox$Texture" (45 : Nat) ({ cls := "OrreryBox$Texture", name := "texel", desc := "(IIJJ)I" } : Jvm.MethodName)) ∈ gw := gw_t 848 (by decide +kernel) rfl
theorem zw_850 : (Jvm.Cond.instanceMethod ({ cls := "OrreryBox$Texture", name := "texel", desc := "(IIJJ)I" } : Jvm.MethodName)) ∈ gw := gw_t 850 (by decide +kernel) rfl
theorem zv_22 : (Jvm.Cond.selects "OrreryBox$Texture" (⟨"OrreryBox$Texture", "texel", "(IIJJ)I"⟩ : MethodName) ⟨"OrreryBox$Texture", "texel", "(IIJJ)I"⟩) ∈ gw := gw_s 22 (by decide +kernel) rfl
theorem zs_XTexture_45 : zwV "OrreryBox$Texture" 45 "OrreryBox$Texture" zy_XTexture_texel zb_XTexture_texel 7 (some .int) := ⟨zw_848, zw_850, zv_22, zw_6, zc_XTexture_texel⟩
def L_XTexture_softAt_102 (sh : zSh) (fuel : Nat) (v11 : Int32) (v12 : Int32) (v13 : Int32) (v14 : Int32) (v15 : Int32) (v16 : Int32) (v17 : Int32) (v18 : Int32) (mm : zMem) : Option (Int32 × Int32 × Int32 × Int32 × Int32 × Int32 × Int32 × Int32 × zMem) := match fuel with
  | 0 => none
  | fu + 1 => (if 16 < v18 then some (v11, v12, v13, v14, v15, v16, v17, v18, mm) else zoL ((((v13 >>> (v18 &&& 31)) &&& 255) * (256 - v11)) + (((v14 >>> (v18 &&& 31)) &&& 255) * v11)) (fun x18 => zoL ((((v15 >>> (v18 &&& 31)) &&& 255) * (256 - v11)) + (((v16 >>> (v18 &&& 31)) &&& 255) * v11)) (fun x19 => zoL (v17 ||| ((((x18 * (256 - v12)) + (x19 * v12)) >>> (16 &&& 31)) <<< (v18 &&& 31))) (fun x20 => L_XTexture_softAt_102 sh fu v11 v12 v13 v14 v15 v16 x20 (v18 + 8) mm))))
set_option maxHeartbeats 4000000 in
set_option maxRecDepth 100000 in
theorem lp_XTexture_softAt_102 {p : Program} {l : Launch} {e : Env} {s : State} {m : MethodId} {args : Array Value} {below : List Frame} {meth : Method} {c : Code} {D : va_G} {tA : Nat → ClassId} {b n : Nat} {post : Option Value → zV → Nat → Prop} {sh : zSh} (F : zF p s m args meth c zb_XTexture_softAt 21 "OrreryBox$Texture" D tA b) : ∀ (fuel : Nat) (v11 : Int32) (v12 : Int32) (v13 : Int32) (v14 : Int32) (v15 : Int32) (v16 : Int32) (v17 : Int32) (v18 : Int32) (mm : zMem) (r : Int32 × Int32 × Int32 × Int32 × Int32 × Int32 × Int32 × Int32 × zMem), L_XTexture_softAt_102 sh fuel v11 v12 v13 v14 v15 v16 v17 v18 mm = some r → (Z p l e { frames := 2, cells := 0, slots := 0, locals := 49 } s m args below meth c D b 21 (MQ below (zQ D b post) args s 0 0 (fun q => b ≤ q)) (zW tA b sh r.2.2.2.2.2.2.2.2) n 0 0 203 [(11, .int (r.1)), (12, .int (r.2.1)), (13, .int (r.2.2.1)), (14, .int (r.2.2.2.1)), (15, .int (r.2.2.2.2.1)), (16, .int (r.2.2.2.2.2.1)), (17, .int (r.2.2.2.2.2.2.1)), (18, .int (r.2.2.2.2.2.2.2.1))] []) → Z p l e { frames := 2, cells := 0, slots := 0, locals := 49 } s m args below meth c D b 21 (MQ below (zQ D b post) args s 0 0 (fun q => b ≤ q)) (zW tA b sh mm) n 0 0 102 [(11, .int v11), (12, .int v12), (13, .int v13), (14, .int v14), (15, .int v15), (16, .int v16), (17, .int v17), (18, .int v18)] [] := by
  intro fuel
  induction fuel with
  | zero =>
    intro v11 v12 v13 v14 v15 v16 v17 v18 mm r h
    cases h
  | succ fu ih =>
    intro v11 v12 v13 v14 v15 v16 v17 v18 mm r h hx0
    rw [L_XTexture_softAt_102] at h
    refine zr_iload F zd_XTexture_softAt_102 rfl ?_
    refine zr_bipushv (v := 16) F zd_XTexture_softAt_104 (by decide) ?_
    refine zr_icmp_gt F 203 zd_XTexture_softAt_106 (by decide) (fun hb17 => ?_) (fun hb17 => ?_)
    ·
      rw [if_pos hb17] at h
      obtain rfl := Option.some.inj h
      refine zr_loc (L' := [(11, .int v11), (12, .int v12), (13, .int v13), (14, .int v14), (15, .int v15), (16, .int v16), (17, .int v17), (18, .int v18)]) ⟨rfl, rfl, rfl, rfl, rfl, rfl, rfl, rfl, trivial⟩ ?_
      exact hx0 
    ·
      rw [if_neg hb17] at h
      refine zr_iload F zd_XTexture_softAt_109 rfl ?_
      refine zr_iload F zd_XTexture_softAt_111 rfl ?_
      refine zr_pcn 113 rfl ?_
      refine zr_ishr F zd_XTexture_softAt_113 ?_
      refine zr_sipushv (v := 255) F zd_XTexture_softAt_114 (by decide) ?_
      refine zr_iand F zd_XTexture_softAt_117 ?_
      refine zr_sipushv (v := 256) F zd_XTexture_softAt_118 (by decide) ?_
      refine zr_iload F zd_XTexture_softAt_121 rfl ?_
      refine zr_isub F zd_XTexture_softAt_123 ?_
      refine zr_imul F zd_XTexture_softAt_124 ?_
      refine zr_iload F zd_XTexture_softAt_125 rfl ?_
      refine zr_pcn 127 rfl ?_
      refine zr_iload F zd_XTexture_softAt_127 rfl ?_
      refine zr_ishr F zd_XTexture_softAt_129 ?_
      refine zr_sipushv (v := 255) F zd_XTexture_softAt_130 (by decide) ?_
      refine zr_iand F zd_XTexture_softAt_133 ?_
      refine zr_iload F zd_XTexture_softAt_134 rfl ?_
      refine zr_imul F zd_XTexture_softAt_136 ?_
      refine zr_iadd F zd_XTexture_softAt_137 ?_
      obtain ⟨x18, ex18, h⟩ := zoL_s h
      rw [← ex18]
      refine zr_istore F zd_XTexture_softAt_138 (by decide) ?_
      refine zr_pcn 140 rfl ?_
      refine zr_iload F zd_XTexture_softAt_140 rfl ?_
      refine zr_iload F zd_XTexture_softAt_142 rfl ?_
      refine zr_ishr F zd_XTexture_softAt_144 ?_
      refine zr_sipushv (v := 255) F zd_XTexture_softAt_145 (by decide) ?_
      refine zr_iand F zd_XTexture_softAt_148 ?_
      refine zr_sipushv (v := 256) F zd_XTexture_softAt_149 (by decide) ?_
      refine zr_iload F zd_XTexture_softAt_152 rfl ?_
      refine zr_isub F zd_XTexture_softAt_154 ?_
      refine zr_pcn 155 rfl ?_
      refine zr_imul F zd_XTexture_softAt_155 ?_
      refine zr_iload F zd_XTexture_softAt_156 rfl ?_
      refine zr_iload F zd_XTexture_softAt_158 rfl ?_
      refine zr_ishr F zd_XTexture_softAt_160 ?_
      refine zr_sipushv (v := 255) F zd_XTexture_softAt_161 (by decide) ?_
      refine zr_iand F zd_XTexture_softAt_164 ?_
      refine zr_iload F zd_XTexture_softAt_165 rfl ?_
      refine zr_imul F zd_XTexture_softAt_167 ?_
      refine zr_pcn 168 rfl ?_
      refine zr_iadd F zd_XTexture_softAt_168 ?_
      obtain ⟨x19, ex19, h⟩ := zoL_s h
      rw [← ex19]
      refine zr_istore F zd_XTexture_softAt_169 (by decide) ?_
      refine zr_iload F zd_XTexture_softAt_171 rfl ?_
      refine zr_iload F zd_XTexture_softAt_173 rfl ?_
      refine zr_sipushv (v := 256) F zd_XTexture_softAt_175 (by decide) ?_
      refine zr_iload F zd_XTexture_softAt_178 rfl ?_
      refine zr_isub F zd_XTexture_softAt_180 ?_
      refine zr_imul F zd_XTexture_softAt_181 ?_
      refine zr_pcn 182 rfl ?_
      refine zr_iload F zd_XTexture_softAt_182 rfl ?_
      refine zr_iload F zd_XTexture_softAt_184 rfl ?_
      refine zr_imul F zd_XTexture_softAt_186 ?_
      refine zr_iadd F zd_XTexture_softAt_187 ?_
      refine zr_bipushv (v := 16) F zd_XTexture_softAt_188 (by decide) ?_
      refine zr_ishr F zd_XTexture_softAt_190 ?_
      refine zr_iload F zd_XTexture_softAt_191 rfl ?_
      refine zr_ishl F zd_XTexture_softAt_193 ?_
      refine zr_pcn 194 rfl ?_
      refine zr_ior F zd_XTexture_softAt_194 ?_
      obtain ⟨x20, ex20, h⟩ := zoL_s h
      rw [← ex20]
      refine zr_istore F zd_XTexture_softAt_195 (by decide) ?_
      refine zr_iinc (v := (v18 + 8)) F zd_XTexture_softAt_197 rfl rfl (by decide) ?_
      refine zr_goto F 102 zd_XTexture_softAt_200 (by decide) ?_
      refine zr_loc (L' := [(11, .int v11), (12, .int v12), (13, .int v13), (14, .int v14), (15, .int v15), (16, .int v16), (17, .int x20), (18, .int (v18 + 8))]) ⟨rfl, rfl, rfl, rfl, rfl, rfl, rfl, rfl, trivial⟩ ?_
      exact ih _ _ _ _ _ _ _ _ _ _ h hx0
def F_XTexture_softAt (sh : zSh) (mm : zMem) (o : Nat) (x0_ : Int32) (x1_ : Int32) (x2_ : Int64) (x3_ : Int64) : Option (Int32 × zMem) := zoL (x2_ >>> ((16 : Int32).toInt64 &&& 63)) (fun x1 => zoL (x3_ >>> ((16 : Int32).toInt64 &&& 63)) (fun x2 => zoL ((((x2_ - (x1 <<< ((16 : Int32).toInt64 &&& 63))) : Int64).toInt32) >>> (8 &&& 31)) (fun x3 => zoL ((((x3_ - (x2 <<< ((16 : Int32).toInt64 &&& 63))) : Int64).toInt32) >>> (8 &&& 31)) (fun x4 => zoS (sh o) 10 (fun le6 => Option.bind (F_XTexture_texel sh mm o x0_ x1_ x1 x2) (fun p7 => zoS (sh o) 10 (fun le9 => Option.bind (F_XTexture_texel sh (p7.2) o x0_ x1_ (x1 + 1) x2) (fun p10 => zoS (sh o) 10 (fun le12 => Option.bind (F_XTexture_texel sh (p10.2) o x0_ x1_ x1 (x2 + 1)) (fun p13 => zoS (sh o) 10 (fun le15 => Option.bind (F_XTexture_texel sh (p13.2) o x0_ x1_ (x1 + 1) (x2 + 1)) (fun p16 => Option.bind (L_XTexture_softAt_102 sh zfuel x3 x4 (p7.1) (p10.1) (p13.1) (p16.1) 0 0 (p16.2)) (fun q21 => some (q21.2.2.2.2.2.2.1, q21.2.2.2.2.2.2.2.2))))))))))))))
set_option maxHeartbeats 4000000 in
set_option maxRecDepth 100000 in
theorem k_XTexture_softAt (l : Launch) (D : va_G) (tA : Nat → ClassId) (b : Nat) (sh : zSh) (n : Nat) {mm : zMem} {o : Nat} {x0_ : Int32} {x1_ : Int32} {x2_ : Int64} {x3_ : Int64} {r : (Int32 × zMem)} (h : F_XTexture_softAt sh mm o x0_ x1_ x2_ x3_ = some r) : zM l D tA b zy_XTexture_softAt zb_XTexture_softAt 21 (some .int) 2 49 0 0 [.ref (b + o), .int x0_, .int x1_, .long x2_, .long x3_] (zW tA b sh mm) n (zE (some (.int (r.1))) (zW tA b sh r.2) n) := by
  unfold F_XTexture_softAt at h
  refine zM_of (own := "OrreryBox$Texture") (plainFor_of_name (by decide)) rfl (Nat.le_of_ble_eq_true rfl) (fun p e s m below meth c F hr hin hH => ?_)
  refine zr_lload_n F zd_XTexture_softAt_0 rfl ?_
  refine zr_bipushv (v := 16) F zd_XTexture_softAt_1 (by decide) ?_
  refine zr_lshr F zd_XTexture_softAt_3 ?_
  obtain ⟨x1, ex1, h⟩ := zoL_s h
  rw [← ex1]
  refine zr_lstore F zd_XTexture_softAt_4 (by decide) ?_
  refine zr_lload F zd_XTexture_softAt_6 rfl ?_
  refine zr_bipushv (v := 16) F zd_XTexture_softAt_8 (by decide) ?_
  refine zr_lshr F zd_XTexture_softAt_10 ?_
  refine zr_pcn 11 rfl ?_
  obtain ⟨x2, ex2, h⟩ := zoL_s h
  rw [← ex2]
  refine zr_lstore F zd_XTexture_softAt_11 (by decide) ?_
  refine zr_lload_n F zd_XTexture_softAt_13 rfl ?_
  refine zr_lload F zd_XTexture_softAt_14 rfl ?_
  refine zr_bipushv (v := 16) F zd_XTexture_softAt_16 (by decide) ?_
  refine zr_lshl F zd_XTexture_softAt_18 ?_
  refine zr_lsub F zd_XTexture_softAt_19 ?_
  refine zr_l2i F zd_XTexture_softAt_20 ?_
  refine zr_bipushv (v := 8) F zd_XTexture_softAt_21 (by decide) ?_
  refine zr_pcn 23 rfl ?_
  refine zr_ishr F zd_XTexture_softAt_23 ?_
  obtain ⟨x3, ex3, h⟩ := zoL_s h
  rw [← ex3]
  refine zr_istore F zd_XTexture_softAt_24 (by decide) ?_
  refine zr_lload F zd_XTexture_softAt_26 rfl ?_
  refine zr_lload F zd_XTexture_softAt_28 rfl ?_
  refine zr_bipushv (v := 16) F zd_XTexture_softAt_30 (by decide) ?_
  refine zr_lshl F zd_XTexture_softAt_32 ?_
  refine zr_lsub F zd_XTexture_softAt_33 ?_
  refine zr_l2i F zd_XTexture_softAt_34 ?_
  refine zr_pcn 35 rfl ?_
  refine zr_bipushv (v := 8) F zd_XTexture_softAt_35 (by decide) ?_
  refine zr_ishr F zd_XTexture_softAt_37 ?_
  obtain ⟨x4, ex4, h⟩ := zoL_s h
  rw [← ex4]
  refine zr_istore F zd_XTexture_softAt_38 (by decide) ?_
  refine zr_aload_n F zd_XTexture_softAt_40 rfl ?_
  refine zr_iload_n F zd_XTexture_softAt_41 rfl ?_
  refine zr_iload_n F zd_XTexture_softAt_42 rfl ?_
  refine zr_lload F zd_XTexture_softAt_43 rfl ?_
  refine zr_lload F zd_XTexture_softAt_45 rfl ?_
  refine zr_pcn 47 rfl ?_
  obtain ⟨le6, hs5, h⟩ := zoS_s h
  obtain ⟨p7, ep7, h⟩ := zoB_s h
  refine zr_callV1 F (k_XTexture_texel l D tA b sh _ ep7) zd_XTexture_softAt_47 (zW_o hs5 (by decide)) rfl zs_XTexture_45 rfl zq_XTexture_texel rfl rfl ⟨(Nat.le_of_ble_eq_true rfl), (Nat.le_of_ble_eq_true rfl)⟩ (Nat.le_of_ble_eq_true rfl) ⟨(Nat.le_of_ble_eq_true rfl), (Nat.le_of_ble_eq_true rfl)⟩ ?_
  refine zr_istore F zd_XTexture_softAt_50 (by decide) ?_
  refine zr_aload_n F zd_XTexture_softAt_52 rfl ?_
  refine zr_iload_n F zd_XTexture_softAt_53 rfl ?_
  refine zr_iload_n F zd_XTexture_softAt_54 rfl ?_
  refine zr_lload F zd_XTexture_softAt_55 rfl ?_
  refine zr_lconstv (v := 1) F zd_XTexture_softAt_57 (by decide) ?_
  refine zr_ladd F zd_XTexture_softAt_58 ?_
  refine zr_pcn 59 rfl ?_
  refine zr_lload F zd_XTexture_softAt_59 rfl ?_
  obtain ⟨le9, hs8, h⟩ := zoS_s h
  obtain ⟨p10, ep10, h⟩ := zoB_s h
  refine zr_callV1 F (k_XTexture_texel l D tA b sh _ ep10) zd_XTexture_softAt_61 (zW_o hs8 (by decide)) rfl zs_XTexture_45 rfl zq_XTexture_texel rfl rfl ⟨(Nat.le_of_ble_eq_true rfl), (Nat.le_of_ble_eq_true rfl)⟩ (Nat.le_of_ble_eq_true rfl) ⟨(Nat.le_of_ble_eq_true rfl), (Nat.le_of_ble_eq_true rfl)⟩ ?_
  refine zr_istore F zd_XTexture_softAt_64 (by decide) ?_
  refine zr_aload_n F zd_XTexture_softAt_66 rfl ?_
  refine zr_iload_n F zd_XTexture_softAt_67 rfl ?_
  refine zr_iload_n F zd_XTexture_softAt_68 rfl ?_
  refine zr_lload F zd_XTexture_softAt_69 rfl ?_
  refine zr_lload F zd_XTexture_softAt_71 rfl ?_
  refine zr_pcn 73 rfl ?_
  refine zr_lconstv (v := 1) F zd_XTexture_softAt_73 (by decide) ?_
  refine zr_ladd F zd_XTexture_softAt_74 ?_
  obtain ⟨le12, hs11, h⟩ := zoS_s h
  obtain ⟨p13, ep13, h⟩ := zoB_s h
  refine zr_callV1 F (k_XTexture_texel l D tA b sh _ ep13) zd_XTexture_softAt_75 (zW_o hs11 (by decide)) rfl zs_XTexture_45 rfl zq_XTexture_texel rfl rfl ⟨(Nat.le_of_ble_eq_true rfl), (Nat.le_of_ble_eq_true rfl)⟩ (Nat.le_of_ble_eq_true rfl) ⟨(Nat.le_of_ble_eq_true rfl), (Nat.le_of_ble_eq_true rfl)⟩ ?_
  refine zr_istore F zd_XTexture_softAt_78 (by decide) ?_
  refine zr_aload_n F zd_XTexture_softAt_80 rfl ?_
  refine zr_iload_n F zd_XTexture_softAt_81 rfl ?_
  refine zr_iload_n F zd_XTexture_softAt_82 rfl ?_
  refine zr_lload F zd_XTexture_softAt_83 rfl ?_
  refine zr_pcn 85 rfl ?_
  refine zr_lconstv (v := 1) F zd_XTexture_softAt_85 (by decide) ?_
  refine zr_ladd F zd_XTexture_softAt_86 ?_
  refine zr_lload F zd_XTexture_softAt_87 rfl ?_
  refine zr_lconstv (v := 1) F zd_XTexture_softAt_89 (by decide) ?_
  refine zr_ladd F zd_XTexture_softAt_90 ?_
  obtain ⟨le15, hs14, h⟩ := zoS_s h
  obtain ⟨p16, ep16, h⟩ := zoB_s h
  refine zr_callV1 F (k_XTexture_texel l D tA b sh _ ep16) zd_XTexture_softAt_91 (zW_o hs14 (by decide)) rfl zs_XTexture_45 rfl zq_XTexture_texel rfl rfl ⟨(Nat.le_of_ble_eq_true rfl), (Nat.le_of_ble_eq_true rfl)⟩ (Nat.le_of_ble_eq_true rfl) ⟨(Nat.le_of_ble_eq_true rfl), (Nat.le_of_ble_eq_true rfl)⟩ ?_
  refine zr_istore F zd_XTexture_softAt_94 (by decide) ?_
  refine zr_iconstv (v := 0) F zd_XTexture_softAt_96 (by decide) ?_
  refine zr_pcn 97 rfl ?_
  refine zr_istore F zd_XTexture_softAt_97 (by decide) ?_
  refine zr_iconstv (v := 0) F zd_XTexture_softAt_99 (by decide) ?_
  refine zr_istore F zd_XTexture_softAt_100 (by decide) ?_
  obtain ⟨q21, eq21, h⟩ := zoB_s h
  refine zr_loc (L' := [(11, .int x3), (12, .int x4), (13, .int (p7.1)), (14, .int (p10.1)), (15, .int (p13.1)), (16, .int (p16.1)), (17, .int 0), (18, .int 0)]) ⟨rfl, rfl, rfl, rfl, rfl, rfl, rfl, rfl, trivial⟩ ?_
  refine lp_XTexture_softAt_102 F _ _ _ _ _ _ _ _ _ _ _ eq21 ?_
  ·
    refine zr_iload F zd_XTexture_softAt_203 rfl ?_
    obtain rfl := Option.some.inj h
    exact zr_iret F hr zd_XTexture_softAt_205 (Nat.le_of_ble_eq_true rfl) (Nat.le_of_ble_eq_true rfl) ⟨rfl, rfl, rfl⟩
abbrev zb_MPainter_goOverPixel : ByteArray := prog_16_method_29_code
def zy_MPainter_goOverPixel : MethodName := ⟨"OrreryBoxModel$Painter", "goOverPixel", "(IIIIJII)V"⟩
theorem zc_MPainter_goOverPixel : Cond.code zy_MPainter_goOverPixel zb_MPainter_goOverPixel 36 none ∈ gw := gw_t 2121 (by decide +kernel) rfl
theorem zq_MPainter_goOverPixel : zy_MPainter_goOverPixel.cls ≠ "java/lang/invoke/MethodHandle" ∧ zy_MPainter_goOverPixel.cls ≠ "java/lang/invoke/VarHandle" ∧ (parseMethodDescriptor zy_MPainter_goOverPixel.desc).map (fun d => d.parameters.length) = some 7 := by decide +kernel
theorem zd_MPainter_goOverPixel_0 : decode zb_MPainter_goOverPixel 0 = .ok (.bipush 16, 2) := by decide +kernel
theorem zd_MPainter_goOverPixel_2 : decode zb_MPainter_goOverPixel 2 = .ok (.iload 7, 2) := by decide +kernel
theorem zd_MPainter_goOverPixel_4 : decode zb_MPainter_goOverPixel 4 = .ok (.imul, 1) := by decide +kernel
theorem zd_MPainter_goOverPixel_5 : decode zb_MPainter_goOverPixel 5 = .ok (.bipush 8, 2) := by decide +kernel
theorem zd_MPainter_goOverPixel_7 : decode zb_MPainter_goOverPixel 7 = .ok (.iadd, 1) := by decide +kernel
theorem zd_MPainter_goOverPixel_8 : decode zb_MPainter_goOverPixel 8 = .ok (.i2l, 1) := by decide +kernel
theorem zd_MPainter_goOverPixel_9 : decode zb_MPainter_goOverPixel 9 = .ok (.lstore 9, 2) := by decide +kernel
theorem zd_MPainter_goOverPixel_11 : decode zb_MPainter_goOverPixel 11 = .ok (.bipush 16, 2) := by decide +kernel
theorem zd_MPainter_goOverPixel_13 : decode zb_MPainter_goOverPixel 13 = .ok (.iload 8, 2) := by decide +kernel
theorem zd_MPainter_goOverPixel_15 : decode zb_MPainter_goOverPixel 15 = .ok (.imul, 1) := by decide +kernel
theorem zd_MPainter_goOverPixel_16 : decode zb_MPainter_goOverPixel 16 = .ok (.bipush 8, 2) := by decide +kernel
theorem zd_MPainter_goOverPixel_18 : decode zb_MPainter_goOverPixel 18 = .ok (.iadd, 1) := by decide +kernel
theorem zd_MPainter_goOverPixel_19 : decode zb_MPainter_goOverPixel 19 = .ok (.i2l, 1) := by decide +kernel
theorem zd_MPainter_goOverPixel_20 : decode zb_MPainter_goOverPixel 20 = .ok (.lstore 11, 2) := by decide +kernel
theorem zd_MPainter_goOverPixel_22 : decode zb_MPainter_goOverPixel 22 = .ok (.aload_n 0, 1) := by decide +kernel
theorem zd_MPainter_goOverPixel_23 : decode zb_MPainter_goOverPixel 23 = .ok (.iload_n 3, 1) := by decide +kernel
theorem zd_MPainter_goOverPixel_24 : decode zb_MPainter_goOverPixel 24 = .ok (.iload 4, 2) := by decide +kernel
theorem zd_MPainter_goOverPixel_26 : decode zb_MPainter_goOverPixel 26 = .ok (.lload 9, 2) := by decide +kernel
theorem zd_MPainter_goOverPixel_28 : decode zb_MPainter_goOverPixel 28 = .ok (.lload 11, 2) := by decide +kernel
theorem zd_MPainter_goOverPixel_30 : decode zb_MPainter_goOverPixel 30 = .ok (.invokevirtual 285, 3) := by decide +kernel
theorem zd_MPainter_goOverPixel_33 : decode zb_MPainter_goOverPixel 33 = .ok (.ifCond .eq 30, 3) := by decide +kernel
theorem zd_MPainter_goOverPixel_36 : decode zb_MPainter_goOverPixel 36 = .ok (.aload_n 0, 1) := by decide +kernel
theorem zd_MPainter_goOverPixel_37 : decode zb_MPainter_goOverPixel 37 = .ok (.iload 4, 2) := by decide +kernel
theorem zd_MPainter_goOverPixel_39 : decode zb_MPainter_goOverPixel 39 = .ok (.iconst 0, 1) := by decide +kernel
theorem zd_MPainter_goOverPixel_40 : decode zb_MPainter_goOverPixel 40 = .ok (.lload 9, 2) := by decide +kernel
theorem zd_MPainter_goOverPixel_42 : decode zb_MPainter_goOverPixel 42 = .ok (.lload 11, 2) := by decide +kernel
theorem zd_MPainter_goOverPixel_44 : decode zb_MPainter_goOverPixel 44 = .ok (.invokevirtual 285, 3) := by decide +kernel
theorem zd_MPainter_goOverPixel_47 : decode zb_MPainter_goOverPixel 47 = .ok (.ifCond .eq 16, 3) := by decide +kernel
theorem zd_MPainter_goOverPixel_50 : decode zb_MPainter_goOverPixel 50 = .ok (.aload_n 0, 1) := by decide +kernel
theorem zd_MPainter_goOverPixel_51 : decode zb_MPainter_goOverPixel 51 = .ok (.iconst 0, 1) := by decide +kernel
theorem zd_MPainter_goOverPixel_52 : decode zb_MPainter_goOverPixel 52 = .ok (.iload_n 3, 1) := by decide +kernel
theorem zd_MPainter_goOverPixel_53 : decode zb_MPainter_goOverPixel 53 = .ok (.lload 9, 2) := by decide +kernel
theorem zd_MPainter_goOverPixel_55 : decode zb_MPainter_goOverPixel 55 = .ok (.lload 11, 2) := by decide +kernel
theorem zd_MPainter_goOverPixel_57 : decode zb_MPainter_goOverPixel 57 = .ok (.invokevirtual 285, 3) := by decide +kernel
theorem zd_MPainter_goOverPixel_60 : decode zb_MPainter_goOverPixel 60 = .ok (.ifCond .ne 4, 3) := by decide +kernel
theorem zd_MPainter_goOverPixel_63 : decode zb_MPainter_goOverPixel 63 = .ok (.return_, 1) := by decide +kernel
theorem zd_MPainter_goOverPixel_64 : decode zb_MPainter_goOverPixel 64 = .ok (.aload_n 0, 1) := by decide +kernel
theorem zd_MPainter_goOverPixel_65 : decode zb_MPainter_goOverPixel 65 = .ok (.iload_n 3, 1) := by decide +kernel
theorem zd_MPainter_goOverPixel_66 : decode zb_MPainter_goOverPixel 66 = .ok (.iload 4, 2) := by decide +kernel
theorem zd_MPainter_goOverPixel_68 : decode zb_MPainter_goOverPixel 68 = .ok (.lload 9, 2) := by decide +kernel
theorem zd_MPainter_goOverPixel_70 : decode zb_MPainter_goOverPixel 70 = .ok (.lload 11, 2) := by decide +kernel
theorem zd_MPainter_goOverPixel_72 : decode zb_MPainter_goOverPixel 72 = .ok (.invokevirtual 281, 3) := by decide +kernel
theorem zd_MPainter_goOverPixel_75 : decode zb_MPainter_goOverPixel 75 = .ok (.aload_n 0, 1) := by decide +kernel
theorem zd_MPainter_goOverPixel_76 : decode zb_MPainter_goOverPixel 76 = .ok (.getfield 55, 3) := by decide +kernel
theorem zd_MPainter_goOverPixel_79 : decode zb_MPainter_goOverPixel 79 = .ok (.iconst 0, 1) := by decide +kernel
theorem zd_MPainter_goOverPixel_80 : decode zb_MPainter_goOverPixel 80 = .ok (.laload, 1) := by decide +kernel
theorem zd_MPainter_goOverPixel_81 : decode zb_MPainter_goOverPixel 81 = .ok (.lmul, 1) := by decide +kernel
theorem zd_MPainter_goOverPixel_82 : decode zb_MPainter_goOverPixel 82 = .ok (.lstore 13, 2) := by decide +kernel
theorem zd_MPainter_goOverPixel_84 : decode zb_MPainter_goOverPixel 84 = .ok (.aload_n 0, 1) := by decide +kernel
theorem zd_MPainter_goOverPixel_85 : decode zb_MPainter_goOverPixel 85 = .ok (.iload 4, 2) := by decide +kernel
theorem zd_MPainter_goOverPixel_87 : decode zb_MPainter_goOverPixel 87 = .ok (.iconst 0, 1) := by decide +kernel
theorem zd_MPainter_goOverPixel_88 : decode zb_MPainter_goOverPixel 88 = .ok (.lload 9, 2) := by decide +kernel
theorem zd_MPainter_goOverPixel_90 : decode zb_MPainter_goOverPixel 90 = .ok (.lload 11, 2) := by decide +kernel
theorem zd_MPainter_goOverPixel_92 : decode zb_MPainter_goOverPixel 92 = .ok (.invokevirtual 281, 3) := by decide +kernel
theorem zd_MPainter_goOverPixel_95 : decode zb_MPainter_goOverPixel 95 = .ok (.aload_n 0, 1) := by decide +kernel
theorem zd_MPainter_goOverPixel_96 : decode zb_MPainter_goOverPixel 96 = .ok (.getfield 55, 3) := by decide +kernel
theorem zd_MPainter_goOverPixel_99 : decode zb_MPainter_goOverPixel 99 = .ok (.iload_n 3, 1) := by decide +kernel
theorem zd_MPainter_goOverPixel_100 : decode zb_MPainter_goOverPixel 100 = .ok (.laload, 1) := by decide +kernel
theorem zd_MPainter_goOverPixel_101 : decode zb_MPainter_goOverPixel 101 = .ok (.lmul, 1) := by decide +kernel
theorem zd_MPainter_goOverPixel_102 : decode zb_MPainter_goOverPixel 102 = .ok (.lstore 15, 2) := by decide +kernel
theorem zd_MPainter_goOverPixel_104 : decode zb_MPainter_goOverPixel 104 = .ok (.aload_n 0, 1) := by decide +kernel
theorem zd_MPainter_goOverPixel_105 : decode zb_MPainter_goOverPixel 105 = .ok (.iconst 0, 1) := by decide +kernel
theorem zd_MPainter_goOverPixel_106 : decode zb_MPainter_goOverPixel 106 = .ok (.iload_n 3, 1) := by decide +kernel
theorem zd_MPainter_goOverPixel_107 : decode zb_MPainter_goOverPixel 107 = .ok (.lload 9, 2) := by decide +kernel
theorem zd_MPainter_goOverPixel_109 : decode zb_MPainter_goOverPixel 109 = .ok (.lload 11, 2) := by decide +kernel
theorem zd_MPainter_goOverPixel_111 : decode zb_MPainter_goOverPixel 111 = .ok (.invokevirtual 281, 3) := by decide +kernel
theorem zd_MPainter_goOverPixel_114 : decode zb_MPainter_goOverPixel 114 = .ok (.aload_n 0, 1) := by decide +kernel
theorem zd_MPainter_goOverPixel_115 : decode zb_MPainter_goOverPixel 115 = .ok (.getfield 55, 3) := by decide +kernel
theorem zd_MPainter_goOverPixel_118 : decode zb_MPainter_goOverPixel 118 = .ok (.iload 4, 2) := by decide +kernel
theorem zd_MPainter_goOverPixel_120 : decode zb_MPainter_goOverPixel 120 = .ok (.laload, 1) := by decide +kernel
theorem zd_MPainter_goOverPixel_121 : decode zb_MPainter_goOverPixel 121 = .ok (.lmul, 1) := by decide +kernel
theorem zd_MPainter_goOverPixel_122 : decode zb_MPainter_goOverPixel 122 = .ok (.lstore 17, 2) := by decide +kernel
theorem zd_MPainter_goOverPixel_124 : decode zb_MPainter_goOverPixel 124 = .ok (.lload 13, 2) := by decide +kernel
theorem zd_MPainter_goOverPixel_126 : decode zb_MPainter_goOverPixel 126 = .ok (.lload 15, 2) := by decide +kernel
theorem zd_MPainter_goOverPixel_128 : decode zb_MPainter_goOverPixel 128 = .ok (.ladd, 1) := by decide +kernel
theorem zd_MPainter_goOverPixel_129 : decode zb_MPainter_goOverPixel 129 = .ok (.lload 17, 2) := by decide +kernel
theorem zd_MPainter_goOverPixel_131 : decode zb_MPainter_goOverPixel 131 = .ok (.ladd, 1) := by decide +kernel
theorem zd_MPainter_goOverPixel_132 : decode zb_MPainter_goOverPixel 132 = .ok (.lstore 19, 2) := by decide +kernel
theorem zd_MPainter_goOverPixel_134 : decode zb_MPainter_goOverPixel 134 = .ok (.lload 19, 2) := by decide +kernel
theorem zd_MPainter_goOverPixel_136 : decode zb_MPainter_goOverPixel 136 = .ok (.lload 5, 2) := by decide +kernel
theorem zd_MPainter_goOverPixel_138 : decode zb_MPainter_goOverPixel 138 = .ok (.invokestatic 103, 3) := by decide +kernel
theorem zd_MPainter_goOverPixel_141 : decode zb_MPainter_goOverPixel 141 = .ok (.lstore 21, 2) := by decide +kernel
theorem zd_MPainter_goOverPixel_143 : decode zb_MPainter_goOverPixel 143 = .ok (.aload_n 0, 1) := by decide +kernel
theorem zd_MPainter_goOverPixel_144 : decode zb_MPainter_goOverPixel 144 = .ok (.getfield 289, 3) := by decide +kernel
theorem zd_MPainter_goOverPixel_147 : decode zb_MPainter_goOverPixel 147 = .ok (.ifCond .ne 38, 3) := by decide +kernel
theorem zd_MPainter_goOverPixel_150 : decode zb_MPainter_goOverPixel 150 = .ok (.aload_n 0, 1) := by decide +kernel
theorem zd_MPainter_goOverPixel_151 : decode zb_MPainter_goOverPixel 151 = .ok (.getfield 293, 3) := by decide +kernel
theorem zd_MPainter_goOverPixel_154 : decode zb_MPainter_goOverPixel 154 = .ok (.iconst (-1), 1) := by decide +kernel
theorem zd_MPainter_goOverPixel_155 : decode zb_MPainter_goOverPixel 155 = .ok (.if_icmp .eq 13, 3) := by decide +kernel
theorem zd_MPainter_goOverPixel_158 : decode zb_MPainter_goOverPixel 158 = .ok (.lload 21, 2) := by decide +kernel
theorem zd_MPainter_goOverPixel_160 : decode zb_MPainter_goOverPixel 160 = .ok (.aload_n 0, 1) := by decide +kernel
theorem zd_MPainter_goOverPixel_161 : decode zb_MPainter_goOverPixel 161 = .ok (.getfield 296, 3) := by decide +kernel
theorem zd_MPainter_goOverPixel_164 : decode zb_MPainter_goOverPixel 164 = .ok (.lcmp, 1) := by decide +kernel
theorem zd_MPainter_goOverPixel_165 : decode zb_MPainter_goOverPixel 165 = .ok (.ifCond .le 19, 3) := by decide +kernel
theorem zd_MPainter_goOverPixel_168 : decode zb_MPainter_goOverPixel 168 = .ok (.aload_n 0, 1) := by decide +kernel
theorem zd_MPainter_goOverPixel_169 : decode zb_MPainter_goOverPixel 169 = .ok (.iload_n 1, 1) := by decide +kernel
theorem zd_MPainter_goOverPixel_170 : decode zb_MPainter_goOverPixel 170 = .ok (.putfield 293, 3) := by decide +kernel
theorem zd_MPainter_goOverPixel_173 : decode zb_MPainter_goOverPixel 173 = .ok (.aload_n 0, 1) := by decide +kernel
theorem zd_MPainter_goOverPixel_174 : decode zb_MPainter_goOverPixel 174 = .ok (.iload_n 2, 1) := by decide +kernel
theorem zd_MPainter_goOverPixel_175 : decode zb_MPainter_goOverPixel 175 = .ok (.putfield 300, 3) := by decide +kernel
theorem zd_MPainter_goOverPixel_178 : decode zb_MPainter_goOverPixel 178 = .ok (.aload_n 0, 1) := by decide +kernel
theorem zd_MPainter_goOverPixel_179 : decode zb_MPainter_goOverPixel 179 = .ok (.lload 21, 2) := by decide +kernel
theorem zd_MPainter_goOverPixel_181 : decode zb_MPainter_goOverPixel 181 = .ok (.putfield 296, 3) := by decide +kernel
theorem zd_MPainter_goOverPixel_184 : decode zb_MPainter_goOverPixel 184 = .ok (.return_, 1) := by decide +kernel
theorem zd_MPainter_goOverPixel_185 : decode zb_MPainter_goOverPixel 185 = .ok (.aload_n 0, 1) := by decide +kernel
theorem zd_MPainter_goOverPixel_186 : decode zb_MPainter_goOverPixel 186 = .ok (.getfield 61, 3) := by decide +kernel
theorem zd_MPainter_goOverPixel_189 : decode zb_MPainter_goOverPixel 189 = .ok (.iload 8, 2) := by decide +kernel
theorem zd_MPainter_goOverPixel_191 : decode zb_MPainter_goOverPixel 191 = .ok (.imul, 1) := by decide +kernel
theorem zd_MPainter_goOverPixel_192 : decode zb_MPainter_goOverPixel 192 = .ok (.iload 7, 2) := by decide +kernel
theorem zd_MPainter_goOverPixel_194 : decode zb_MPainter_goOverPixel 194 = .ok (.iadd, 1) := by decide +kernel
theorem zd_MPainter_goOverPixel_195 : decode zb_MPainter_goOverPixel 195 = .ok (.istore 23, 2) := by decide +kernel
theorem zd_MPainter_goOverPixel_197 : decode zb_MPainter_goOverPixel 197 = .ok (.lload 21, 2) := by decide +kernel
theorem zd_MPainter_goOverPixel_199 : decode zb_MPainter_goOverPixel 199 = .ok (.aload_n 0, 1) := by decide +kernel
theorem zd_MPainter_goOverPixel_200 : decode zb_MPainter_goOverPixel 200 = .ok (.getfield 71, 3) := by decide +kernel
theorem zd_MPainter_goOverPixel_203 : decode zb_MPainter_goOverPixel 203 = .ok (.iload 23, 2) := by decide +kernel
theorem zd_MPainter_goOverPixel_205 : decode zb_MPainter_goOverPixel 205 = .ok (.laload, 1) := by decide +kernel
theorem zd_MPainter_goOverPixel_206 : decode zb_MPainter_goOverPixel 206 = .ok (.lcmp, 1) := by decide +kernel
theorem zd_MPainter_goOverPixel_207 : decode zb_MPainter_goOverPixel 207 = .ok (.ifCond .gt 4, 3) := by decide +kernel
theorem zd_MPainter_goOverPixel_210 : decode zb_MPainter_goOverPixel 210 = .ok (.return_, 1) := by decide +kernel
theorem zd_MPainter_goOverPixel_211 : decode zb_MPainter_goOverPixel 211 = .ok (.lload 13, 2) := by decide +kernel
theorem zd_MPainter_goOverPixel_213 : decode zb_MPainter_goOverPixel 213 = .ok (.aload_n 0, 1) := by decide +kernel
theorem zd_MPainter_goOverPixel_214 : decode zb_MPainter_goOverPixel 214 = .ok (.getfield 40, 3) := by decide +kernel
theorem zd_MPainter_goOverPixel_217 : decode zb_MPainter_goOverPixel 217 = .ok (.iconst 3, 1) := by decide +kernel
theorem zd_MPainter_goOverPixel_218 : decode zb_MPainter_goOverPixel 218 = .ok (.laload, 1) := by decide +kernel
theorem zd_MPainter_goOverPixel_219 : decode zb_MPainter_goOverPixel 219 = .ok (.lmul, 1) := by decide +kernel
theorem zd_MPainter_goOverPixel_220 : decode zb_MPainter_goOverPixel 220 = .ok (.lload 15, 2) := by decide +kernel
theorem zd_MPainter_goOverPixel_222 : decode zb_MPainter_goOverPixel 222 = .ok (.aload_n 0, 1) := by decide +kernel
theorem zd_MPainter_goOverPixel_223 : decode zb_MPainter_goOverPixel 223 = .ok (.getfield 40, 3) := by decide +kernel
theorem zd_MPainter_goOverPixel_226 : decode zb_MPainter_goOverPixel 226 = .ok (.bipush 6, 2) := by decide +kernel
theorem zd_MPainter_goOverPixel_228 : decode zb_MPainter_goOverPixel 228 = .ok (.iload_n 3, 1) := by decide +kernel
theorem zd_MPainter_goOverPixel_229 : decode zb_MPainter_goOverPixel 229 = .ok (.imul, 1) := by decide +kernel
theorem zd_MPainter_goOverPixel_230 : decode zb_MPainter_goOverPixel 230 = .ok (.iconst 3, 1) := by decide +kernel
theorem zd_MPainter_goOverPixel_231 : decode zb_MPainter_goOverPixel 231 = .ok (.iadd, 1) := by decide +kernel
theorem zd_MPainter_goOverPixel_232 : decode zb_MPainter_goOverPixel 232 = .ok (.laload, 1) := by decide +kernel
theorem zd_MPainter_goOverPixel_233 : decode zb_MPainter_goOverPixel 233 = .ok (.lmul, 1) := by decide +kernel
theorem zd_MPainter_goOverPixel_234 : decode zb_MPainter_goOverPixel 234 = .ok (.ladd, 1) := by decide +kernel
theorem zd_MPainter_goOverPixel_235 : decode zb_MPainter_goOverPixel 235 = .ok (.lload 17, 2) := by decide +kernel
theorem zd_MPainter_goOverPixel_237 : decode zb_MPainter_goOverPixel 237 = .ok (.aload_n 0, 1) := by decide +kernel
theorem zd_MPainter_goOverPixel_238 : decode zb_MPainter_goOverPixel 238 = .ok (.getfield 40, 3) := by decide +kernel
theorem zd_MPainter_goOverPixel_241 : decode zb_MPainter_goOverPixel 241 = .ok (.bipush 6, 2) := by decide +kernel
theorem zd_MPainter_goOverPixel_243 : decode zb_MPainter_goOverPixel 243 = .ok (.iload 4, 2) := by decide +kernel
theorem zd_MPainter_goOverPixel_245 : decode zb_MPainter_goOverPixel 245 = .ok (.imul, 1) := by decide +kernel
theorem zd_MPainter_goOverPixel_246 : decode zb_MPainter_goOverPixel 246 = .ok (.iconst 3, 1) := by decide +kernel
theorem zd_MPainter_goOverPixel_247 : decode zb_MPainter_goOverPixel 247 = .ok (.iadd, 1) := by decide +kernel
theorem zd_MPainter_goOverPixel_248 : decode zb_MPainter_goOverPixel 248 = .ok (.laload, 1) := by decide +kernel
theorem zd_MPainter_goOverPixel_249 : decode zb_MPainter_goOverPixel 249 = .ok (.lmul, 1) := by decide +kernel
theorem zd_MPainter_goOverPixel_250 : decode zb_MPainter_goOverPixel 250 = .ok (.ladd, 1) := by decide +kernel
theorem zd_MPainter_goOverPixel_251 : decode zb_MPainter_goOverPixel 251 = .ok (.lload 19, 2) := by decide +kernel
theorem zd_MPainter_goOverPixel_253 : decode zb_MPainter_goOverPixel 253 = .ok (.invokestatic 103, 3) := by decide +kernel
theorem zd_MPainter_goOverPixel_256 : decode zb_MPainter_goOverPixel 256 = .ok (.lstore 24, 2) := by decide +kernel
theorem zd_MPainter_goOverPixel_258 : decode zb_MPainter_goOverPixel 258 = .ok (.lload 13, 2) := by decide +kernel
theorem zd_MPainter_goOverPixel_260 : decode zb_MPainter_goOverPixel 260 = .ok (.aload_n 0, 1) := by decide +kernel
theorem zd_MPainter_goOverPixel_261 : decode zb_MPainter_goOverPixel 261 = .ok (.getfield 40, 3) := by decide +kernel
theorem zd_MPainter_goOverPixel_264 : decode zb_MPainter_goOverPixel 264 = .ok (.iconst 4, 1) := by decide +kernel
theorem zd_MPainter_goOverPixel_265 : decode zb_MPainter_goOverPixel 265 = .ok (.laload, 1) := by decide +kernel
theorem zd_MPainter_goOverPixel_266 : decode zb_MPainter_goOverPixel 266 = .ok (.lmul, 1) := by decide +kernel
theorem zd_MPainter_goOverPixel_267 : decode zb_MPainter_goOverPixel 267 = .ok (.lload 15, 2) := by decide +kernel
theorem zd_MPainter_goOverPixel_269 : decode zb_MPainter_goOverPixel 269 = .ok (.aload_n 0, 1) := by decide +kernel
theorem zd_MPainter_goOverPixel_270 : decode zb_MPainter_goOverPixel 270 = .ok (.getfield 40, 3) := by decide +kernel
theorem zd_MPainter_goOverPixel_273 : decode zb_MPainter_goOverPixel 273 = .ok (.bipush 6, 2) := by decide +kernel
theorem zd_MPainter_goOverPixel_275 : decode zb_MPainter_goOverPixel 275 = .ok (.iload_n 3, 1) := by decide +kernel
theorem zd_MPainter_goOverPixel_276 : decode zb_MPainter_goOverPixel 276 = .ok (.imul, 1) := by decide +kernel
theorem zd_MPainter_goOverPixel_277 : decode zb_MPainter_goOverPixel 277 = .ok (.iconst 4, 1) := by decide +kernel
theorem zd_MPainter_goOverPixel_278 : decode zb_MPainter_goOverPixel 278 = .ok (.iadd, 1) := by decide +kernel
theorem zd_MPainter_goOverPixel_279 : decode zb_MPainter_goOverPixel 279 = .ok (.laload, 1) := by decide +kernel
theorem zd_MPainter_goOverPixel_280 : decode zb_MPainter_goOverPixel 280 = .ok (.lmul, 1) := by decide +kernel
theorem zd_MPainter_goOverPixel_281 : decode zb_MPainter_goOverPixel 281 = .ok (.ladd, 1) := by decide +kernel
theorem zd_MPainter_goOverPixel_282 : decode zb_MPainter_goOverPixel 282 = .ok (.lload 17, 2) := by decide +kernel
theorem zd_MPainter_goOverPixel_284 : decode zb_MPainter_goOverPixel 284 = .ok (.aload_n 0, 1) := by decide +kernel
theorem zd_MPainter_goOverPixel_285 : decode zb_MPainter_goOverPixel 285 = .ok (.getfield 40, 3) := by decide +kernel
theorem zd_MPainter_goOverPixel_288 : decode zb_MPainter_goOverPixel 288 = .ok (.bipush 6, 2) := by decide +kernel
theorem zd_MPainter_goOverPixel_290 : decode zb_MPainter_goOverPixel 290 = .ok (.iload 4, 2) := by decide +kernel
theorem zd_MPainter_goOverPixel_292 : decode zb_MPainter_goOverPixel 292 = .ok (.imul, 1) := by decide +kernel
theorem zd_MPainter_goOverPixel_293 : decode zb_MPainter_goOverPixel 293 = .ok (.iconst 4, 1) := by decide +kernel
theorem zd_MPainter_goOverPixel_294 : decode zb_MPainter_goOverPixel 294 = .ok (.iadd, 1) := by decide +kernel
theorem zd_MPainter_goOverPixel_295 : decode zb_MPainter_goOverPixel 295 = .ok (.laload, 1) := by decide +kernel
theorem zd_MPainter_goOverPixel_296 : decode zb_MPainter_goOverPixel 296 = .ok (.lmul, 1) := by decide +kernel
theorem zd_MPainter_goOverPixel_297 : decode zb_MPainter_goOverPixel 297 = .ok (.ladd, 1) := by decide +kernel
theorem zd_MPainter_goOverPixel_298 : decode zb_MPainter_goOverPixel 298 = .ok (.lload 19, 2) := by decide +kernel
theorem zd_MPainter_goOverPixel_300 : decode zb_MPainter_goOverPixel 300 = .ok (.invokestatic 103, 3) := by decide +kernel
theorem zd_MPainter_goOverPixel_303 : decode zb_MPainter_goOverPixel 303 = .ok (.lstore 26, 2) := by decide +kernel
theorem zd_MPainter_goOverPixel_305 : decode zb_MPainter_goOverPixel 305 = .ok (.lload 13, 2) := by decide +kernel
theorem zd_MPainter_goOverPixel_307 : decode zb_MPainter_goOverPixel 307 = .ok (.aload_n 0, 1) := by decide +kernel
theorem zd_MPainter_goOverPixel_308 : decode zb_MPainter_goOverPixel 308 = .ok (.getfield 40, 3) := by decide +kernel
theorem zd_MPainter_goOverPixel_311 : decode zb_MPainter_goOverPixel 311 = .ok (.iconst 5, 1) := by decide +kernel
theorem zd_MPainter_goOverPixel_312 : decode zb_MPainter_goOverPixel 312 = .ok (.laload, 1) := by decide +kernel
theorem zd_MPainter_goOverPixel_313 : decode zb_MPainter_goOverPixel 313 = .ok (.lmul, 1) := by decide +kernel
theorem zd_MPainter_goOverPixel_314 : decode zb_MPainter_goOverPixel 314 = .ok (.lload 15, 2) := by decide +kernel
theorem zd_MPainter_goOverPixel_316 : decode zb_MPainter_goOverPixel 316 = .ok (.aload_n 0, 1) := by decide +kernel
theorem zd_MPainter_goOverPixel_317 : decode zb_MPainter_goOverPixel 317 = .ok (.getfield 40, 3) := by decide +kernel
theorem zd_MPainter_goOverPixel_320 : decode zb_MPainter_goOverPixel 320 = .ok (.bipush 6, 2) := by decide +kernel
theorem zd_MPainter_goOverPixel_322 : decode zb_MPainter_goOverPixel 322 = .ok (.iload_n 3, 1) := by decide +kernel
theorem zd_MPainter_goOverPixel_323 : decode zb_MPainter_goOverPixel 323 = .ok (.imul, 1) := by decide +kernel
theorem zd_MPainter_goOverPixel_324 : decode zb_MPainter_goOverPixel 324 = .ok (.iconst 5, 1) := by decide +kernel
theorem zd_MPainter_goOverPixel_325 : decode zb_MPainter_goOverPixel 325 = .ok (.iadd, 1) := by decide +kernel
theorem zd_MPainter_goOverPixel_326 : decode zb_MPainter_goOverPixel 326 = .ok (.laload, 1) := by decide +kernel
theorem zd_MPainter_goOverPixel_327 : decode zb_MPainter_goOverPixel 327 = .ok (.lmul, 1) := by decide +kernel
theorem zd_MPainter_goOverPixel_328 : decode zb_MPainter_goOverPixel 328 = .ok (.ladd, 1) := by decide +kernel
theorem zd_MPainter_goOverPixel_329 : decode zb_MPainter_goOverPixel 329 = .ok (.lload 17, 2) := by decide +kernel
theorem zd_MPainter_goOverPixel_331 : decode zb_MPainter_goOverPixel 331 = .ok (.aload_n 0, 1) := by decide +kernel
theorem zd_MPainter_goOverPixel_332 : decode zb_MPainter_goOverPixel 332 = .ok (.getfield 40, 3) := by decide +kernel
theorem zd_MPainter_goOverPixel_335 : decode zb_MPainter_goOverPixel 335 = .ok (.bipush 6, 2) := by decide +kernel
theorem zd_MPainter_goOverPixel_337 : decode zb_MPainter_goOverPixel 337 = .ok (.iload 4, 2) := by decide +kernel
theorem zd_MPainter_goOverPixel_339 : decode zb_MPainter_goOverPixel 339 = .ok (.imul, 1) := by decide +kernel
theorem zd_MPainter_goOverPixel_340 : decode zb_MPainter_goOverPixel 340 = .ok (.iconst 5, 1) := by decide +kernel
theorem zd_MPainter_goOverPixel_341 : decode zb_MPainter_goOverPixel 341 = .ok (.iadd, 1) := by decide +kernel
theorem zd_MPainter_goOverPixel_342 : decode zb_MPainter_goOverPixel 342 = .ok (.laload, 1) := by decide +kernel
theorem zd_MPainter_goOverPixel_343 : decode zb_MPainter_goOverPixel 343 = .ok (.lmul, 1) := by decide +kernel
theorem zd_MPainter_goOverPixel_344 : decode zb_MPainter_goOverPixel 344 = .ok (.ladd, 1) := by decide +kernel
theorem zd_MPainter_goOverPixel_345 : decode zb_MPainter_goOverPixel 345 = .ok (.lload 19, 2) := by decide +kernel
theorem zd_MPainter_goOverPixel_347 : decode zb_MPainter_goOverPixel 347 = .ok (.invokestatic 103, 3) := by decide +kernel
theorem zd_MPainter_goOverPixel_350 : decode zb_MPainter_goOverPixel 350 = .ok (.lstore 28, 2) := by decide +kernel
theorem zd_MPainter_goOverPixel_352 : decode zb_MPainter_goOverPixel 352 = .ok (.aload_n 0, 1) := by decide +kernel
theorem zd_MPainter_goOverPixel_353 : decode zb_MPainter_goOverPixel 353 = .ok (.iload_n 1, 1) := by decide +kernel
theorem zd_MPainter_goOverPixel_354 : decode zb_MPainter_goOverPixel 354 = .ok (.invokevirtual 180, 3) := by decide +kernel
theorem zd_MPainter_goOverPixel_357 : decode zb_MPainter_goOverPixel 357 = .ok (.istore 30, 2) := by decide +kernel
theorem zd_MPainter_goOverPixel_359 : decode zb_MPainter_goOverPixel 359 = .ok (.aload_n 0, 1) := by decide +kernel
theorem zd_MPainter_goOverPixel_360 : decode zb_MPainter_goOverPixel 360 = .ok (.iload 30, 2) := by decide +kernel
theorem zd_MPainter_goOverPixel_362 : decode zb_MPainter_goOverPixel 362 = .ok (.iload_n 3, 1) := by decide +kernel
theorem zd_MPainter_goOverPixel_363 : decode zb_MPainter_goOverPixel 363 = .ok (.iload 4, 2) := by decide +kernel
theorem zd_MPainter_goOverPixel_365 : decode zb_MPainter_goOverPixel 365 = .ok (.lload 5, 2) := by decide +kernel
theorem zd_MPainter_goOverPixel_367 : decode zb_MPainter_goOverPixel 367 = .ok (.lload 24, 2) := by decide +kernel
theorem zd_MPainter_goOverPixel_369 : decode zb_MPainter_goOverPixel 369 = .ok (.lload 26, 2) := by decide +kernel
theorem zd_MPainter_goOverPixel_371 : decode zb_MPainter_goOverPixel 371 = .ok (.lload 28, 2) := by decide +kernel
theorem zd_MPainter_goOverPixel_373 : decode zb_MPainter_goOverPixel 373 = .ok (.invokevirtual 303, 3) := by decide +kernel
theorem zd_MPainter_goOverPixel_376 : decode zb_MPainter_goOverPixel 376 = .ok (.aload_n 0, 1) := by decide +kernel
theorem zd_MPainter_goOverPixel_377 : decode zb_MPainter_goOverPixel 377 = .ok (.getfield 129, 3) := by decide +kernel
theorem zd_MPainter_goOverPixel_380 : decode zb_MPainter_goOverPixel 380 = .ok (.getfield 177, 3) := by decide +kernel
theorem zd_MPainter_goOverPixel_383 : decode zb_MPainter_goOverPixel 383 = .ok (.iconst 4, 1) := by decide +kernel
theorem zd_MPainter_goOverPixel_384 : decode zb_MPainter_goOverPixel 384 = .ok (.iload 30, 2) := by decide +kernel
theorem zd_MPainter_goOverPixel_386 : decode zb_MPainter_goOverPixel 386 = .ok (.imul, 1) := by decide +kernel
theorem zd_MPainter_goOverPixel_387 : decode zb_MPainter_goOverPixel 387 = .ok (.iconst 3, 1) := by decide +kernel
theorem zd_MPainter_goOverPixel_388 : decode zb_MPainter_goOverPixel 388 = .ok (.iadd, 1) := by decide +kernel
theorem zd_MPainter_goOverPixel_389 : decode zb_MPainter_goOverPixel 389 = .ok (.iaload, 1) := by decide +kernel
theorem zd_MPainter_goOverPixel_390 : decode zb_MPainter_goOverPixel 390 = .ok (.i2l, 1) := by decide +kernel
theorem zd_MPainter_goOverPixel_391 : decode zb_MPainter_goOverPixel 391 = .ok (.lstore 31, 2) := by decide +kernel
theorem zd_MPainter_goOverPixel_393 : decode zb_MPainter_goOverPixel 393 = .ok (.iconst 0, 1) := by decide +kernel
theorem zd_MPainter_goOverPixel_394 : decode zb_MPainter_goOverPixel 394 = .ok (.istore 33, 2) := by decide +kernel
theorem zd_MPainter_goOverPixel_396 : decode zb_MPainter_goOverPixel 396 = .ok (.iload 33, 2) := by decide +kernel
theorem zd_MPainter_goOverPixel_398 : decode zb_MPainter_goOverPixel 398 = .ok (.iconst 3, 1) := by decide +kernel
theorem zd_MPainter_goOverPixel_399 : decode zb_MPainter_goOverPixel 399 = .ok (.if_icmp .ge 82, 3) := by decide +kernel
theorem zd_MPainter_goOverPixel_402 : decode zb_MPainter_goOverPixel 402 = .ok (.aload_n 0, 1) := by decide +kernel
theorem zd_MPainter_goOverPixel_403 : decode zb_MPainter_goOverPixel 403 = .ok (.getfield 68, 3) := by decide +kernel
theorem zd_MPainter_goOverPixel_406 : decode zb_MPainter_goOverPixel 406 = .ok (.iconst 3, 1) := by decide +kernel
theorem zd_MPainter_goOverPixel_407 : decode zb_MPainter_goOverPixel 407 = .ok (.iload 23, 2) := by decide +kernel
theorem zd_MPainter_goOverPixel_409 : decode zb_MPainter_goOverPixel 409 = .ok (.imul, 1) := by decide +kernel
theorem zd_MPainter_goOverPixel_410 : decode zb_MPainter_goOverPixel 410 = .ok (.iload 33, 2) := by decide +kernel
theorem zd_MPainter_goOverPixel_412 : decode zb_MPainter_goOverPixel 412 = .ok (.iadd, 1) := by decide +kernel
theorem zd_MPainter_goOverPixel_413 : decode zb_MPainter_goOverPixel 413 = .ok (.iaload, 1) := by decide +kernel
theorem zd_MPainter_goOverPixel_414 : decode zb_MPainter_goOverPixel 414 = .ok (.i2l, 1) := by decide +kernel
theorem zd_MPainter_goOverPixel_415 : decode zb_MPainter_goOverPixel 415 = .ok (.lstore 34, 2) := by decide +kernel
theorem zd_MPainter_goOverPixel_417 : decode zb_MPainter_goOverPixel 417 = .ok (.aload_n 0, 1) := by decide +kernel
theorem zd_MPainter_goOverPixel_418 : decode zb_MPainter_goOverPixel 418 = .ok (.getfield 68, 3) := by decide +kernel
theorem zd_MPainter_goOverPixel_421 : decode zb_MPainter_goOverPixel 421 = .ok (.iconst 3, 1) := by decide +kernel
theorem zd_MPainter_goOverPixel_422 : decode zb_MPainter_goOverPixel 422 = .ok (.iload 23, 2) := by decide +kernel
theorem zd_MPainter_goOverPixel_424 : decode zb_MPainter_goOverPixel 424 = .ok (.imul, 1) := by decide +kernel
theorem zd_MPainter_goOverPixel_425 : decode zb_MPainter_goOverPixel 425 = .ok (.iload 33, 2) := by decide +kernel
theorem zd_MPainter_goOverPixel_427 : decode zb_MPainter_goOverPixel 427 = .ok (.iadd, 1) := by decide +kernel
theorem zd_MPainter_goOverPixel_428 : decode zb_MPainter_goOverPixel 428 = .ok (.lload 31, 2) := by decide +kernel
theorem zd_MPainter_goOverPixel_430 : decode zb_MPainter_goOverPixel 430 = .ok (.ldc2_w 306, 3) := by decide +kernel
theorem zd_MPainter_goOverPixel_433 : decode zb_MPainter_goOverPixel 433 = .ok (.lcmp, 1) := by decide +kernel
theorem zd_MPainter_goOverPixel_434 : decode zb_MPainter_goOverPixel 434 = .ok (.ifCond .ne 13, 3) := by decide +kernel
theorem zd_MPainter_goOverPixel_437 : decode zb_MPainter_goOverPixel 437 = .ok (.aload_n 0, 1) := by decide +kernel
theorem zd_MPainter_goOverPixel_438 : decode zb_MPainter_goOverPixel 438 = .ok (.getfield 58, 3) := by decide +kernel
theorem zd_MPainter_goOverPixel_441 : decode zb_MPainter_goOverPixel 441 = .ok (.iload 33, 2) := by decide +kernel
theorem zd_MPainter_goOverPixel_443 : decode zb_MPainter_goOverPixel 443 = .ok (.laload, 1) := by decide +kernel
theorem zd_MPainter_goOverPixel_444 : decode zb_MPainter_goOverPixel 444 = .ok (.goto 29, 3) := by decide +kernel
theorem zd_MPainter_goOverPixel_447 : decode zb_MPainter_goOverPixel 447 = .ok (.aload_n 0, 1) := by decide +kernel
theorem zd_MPainter_goOverPixel_448 : decode zb_MPainter_goOverPixel 448 = .ok (.getfield 58, 3) := by decide +kernel
theorem zd_MPainter_goOverPixel_451 : decode zb_MPainter_goOverPixel 451 = .ok (.iload 33, 2) := by decide +kernel
theorem zd_MPainter_goOverPixel_453 : decode zb_MPainter_goOverPixel 453 = .ok (.laload, 1) := by decide +kernel
theorem zd_MPainter_goOverPixel_454 : decode zb_MPainter_goOverPixel 454 = .ok (.lload 31, 2) := by decide +kernel
theorem zd_MPainter_goOverPixel_456 : decode zb_MPainter_goOverPixel 456 = .ok (.lmul, 1) := by decide +kernel
theorem zd_MPainter_goOverPixel_457 : decode zb_MPainter_goOverPixel 457 = .ok (.lload 34, 2) := by decide +kernel
theorem zd_MPainter_goOverPixel_459 : decode zb_MPainter_goOverPixel 459 = .ok (.ldc2_w 306, 3) := by decide +kernel
theorem zd_MPainter_goOverPixel_462 : decode zb_MPainter_goOverPixel 462 = .ok (.lload 31, 2) := by decide +kernel
theorem zd_MPainter_goOverPixel_464 : decode zb_MPainter_goOverPixel 464 = .ok (.lsub, 1) := by decide +kernel
theorem zd_MPainter_goOverPixel_465 : decode zb_MPainter_goOverPixel 465 = .ok (.lmul, 1) := by decide +kernel
theorem zd_MPainter_goOverPixel_466 : decode zb_MPainter_goOverPixel 466 = .ok (.ladd, 1) := by decide +kernel
theorem zd_MPainter_goOverPixel_467 : decode zb_MPainter_goOverPixel 467 = .ok (.ldc2_w 306, 3) := by decide +kernel
theorem zd_MPainter_goOverPixel_470 : decode zb_MPainter_goOverPixel 470 = .ok (.invokestatic 103, 3) := by decide +kernel
theorem zd_MPainter_goOverPixel_473 : decode zb_MPainter_goOverPixel 473 = .ok (.l2i, 1) := by decide +kernel
theorem zd_MPainter_goOverPixel_474 : decode zb_MPainter_goOverPixel 474 = .ok (.iastore, 1) := by decide +kernel
theorem zd_MPainter_goOverPixel_475 : decode zb_MPainter_goOverPixel 475 = .ok (.iinc 33 1, 3) := by decide +kernel
theorem zd_MPainter_goOverPixel_478 : decode zb_MPainter_goOverPixel 478 = .ok (.goto (-82), 3) := by decide +kernel
theorem zd_MPainter_goOverPixel_481 : decode zb_MPainter_goOverPixel 481 = .ok (.lload 31, 2) := by decide +kernel
theorem zd_MPainter_goOverPixel_483 : decode zb_MPainter_goOverPixel 483 = .ok (.ldc2_w 306, 3) := by decide +kernel
theorem zd_MPainter_goOverPixel_486 : decode zb_MPainter_goOverPixel 486 = .ok (.lcmp, 1) := by decide +kernel
theorem zd_MPainter_goOverPixel_487 : decode zb_MPainter_goOverPixel 487 = .ok (.ifCond .ne 12, 3) := by decide +kernel
theorem zd_MPainter_goOverPixel_490 : decode zb_MPainter_goOverPixel 490 = .ok (.aload_n 0, 1) := by decide +kernel
theorem zd_MPainter_goOverPixel_491 : decode zb_MPainter_goOverPixel 491 = .ok (.getfield 71, 3) := by decide +kernel
theorem zd_MPainter_goOverPixel_494 : decode zb_MPainter_goOverPixel 494 = .ok (.iload 23, 2) := by decide +kernel
theorem zd_MPainter_goOverPixel_496 : decode zb_MPainter_goOverPixel 496 = .ok (.lload 21, 2) := by decide +kernel
theorem zd_MPainter_goOverPixel_498 : decode zb_MPainter_goOverPixel 498 = .ok (.lastore, 1) := by decide +kernel
theorem zd_MPainter_goOverPixel_499 : decode zb_MPainter_goOverPixel 499 = .ok (.return_, 1) := by decide +kernel
theorem zw_2122 : (Jvm.Cond.methodLink "OrreryBoxModel$Painter" (285 : Nat) ({ cls := "OrreryBoxModel$Painter", name := "inside", desc := "(IIJJ)Z" } : Jvm.MethodName)) ∈ gw := gw_t 2122 (by decide +kernel) rfl
theorem zw_2124 : (Jvm.Cond.instanceMethod ({ cls := "OrreryBoxModel$Painter", name := "inside", desc := "(IIJJ)Z" } : Jvm.MethodName)) ∈ gw := gw_t 2124 (by decide +kernel) rfl
theorem zv_110 : (Jvm.Cond.selects "OrreryBoxModel$Painter" (⟨"OrreryBoxModel$Painter", "inside", "(IIJJ)Z"⟩ : MethodName) ⟨"OrreryBoxModel$Painter", "inside", "(IIJJ)Z"⟩) ∈ gw := gw_s 110 (by decide +kernel) rfl
theorem zs_MPainter_285 : zwV "OrreryBoxModel$Painter" 285 "OrreryBoxModel$Painter" zy_MPainter_inside zb_MPainter_inside 9 (some .boolean) := ⟨zw_2122, zw_2124, zv_110, zw_17, zc_MPainter_inside⟩
theorem zw_2130 : (Jvm.Cond.methodLink "OrreryBoxModel$Painter" (303 : Nat) ({ cls := "OrreryBoxModel$Painter", name := "colour", desc := "(IIIJJJJ)V" } : Jvm.MethodName)) ∈ gw := gw_t 2130 (by decide +kernel) rfl
theorem zw_2132 : (Jvm.Cond.instanceMethod ({ cls := "OrreryBoxModel$Painter", name := "colour", desc := "(IIIJJJJ)V" } : Jvm.MethodName)) ∈ gw := gw_t 2132 (by decide +kernel) rfl
theorem zv_112 : (Jvm.Cond.selects "OrreryBoxModel$Painter" (⟨"OrreryBoxModel$Painter", "colour", "(IIIJJJJ)V"⟩ : MethodName) ⟨"OrreryBoxModel$Painter", "colour", "(IIIJJJJ)V"⟩) ∈ gw := gw_s 112 (by decide +kernel) rfl
theorem zs_MPainter_303 : zwV "OrreryBoxModel$Painter" 303 "OrreryBoxModel$Painter" zy_MPainter_colour zb_MPainter_colour 17 none := ⟨zw_2130, zw_2132, zv_112, zw_17, zc_MPainter_colour⟩
def L_MPainter_goOverPixel_396 (sh : zSh) (fuel : Nat) (v0 : Nat) (v21 : Int64) (v23 : Int32) (v31 : Int64) (v33 : Int32) (mm : zMem) : Option (Nat × Int64 × Int32 × Int64 × Int32 × zMem) := match fuel with
  | 0 => none
  | fu + 1 => (if 3 ≤ v33 then some (v0, v21, v23, v31, v33, mm) else zoS (sh v0) 13 (fun le145 => Option.bind (mm.2.2 v0 3) (fun a146 => zoL ((3 * v23) + v33) (fun i147 => zoS (sh a146) 100 (fun le149 => if (i147 : Int32) < 0 ∨ le149 ≤ (i147 : Int32).toNatClampNeg then none else zoL (((mm.1 a146 (i147 : Int32).toNatClampNeg) : Int32).toInt64) (fun x151 => zoS (sh v0) 13 (fun le153 => Option.bind (mm.2.2 v0 3) (fun a154 => (if (lg_cmp v31 255) = 0 then zoS (sh v0) 13 (fun le171 => Option.bind (mm.2.2 v0 30) (fun a172 => zoS (sh a172) 102 (fun le174 => if (v33 : Int32) < 0 ∨ le174 ≤ (v33 : Int32).toNatClampNeg then none else zoL (((mm.2.1 a172 (v33 : Int32).toNatClampNeg) : Int64).toInt32) (fun x176 => zoL ((3 * v23) + v33) (fun i177 => zoS (sh a154) 100 (fun le179 => if (i177 : Int32) < 0 ∨ le179 ≤ (i177 : Int32).toNatClampNeg then none else zoL (mI mm a154 (i177 : Int32).toNatClampNeg x176) (fun mm181 => L_MPainter_goOverPixel_396 sh fu v0 v21 v23 v31 (v33 + 1) mm181))))))) else zoS (sh v0) 13 (fun le157 => Option.bind (mm.2.2 v0 30) (fun a158 => zoS (sh a158) 102 (fun le160 => if (v33 : Int32) < 0 ∨ le160 ≤ (v33 : Int32).toNatClampNeg then none else zoL (((mm.2.1 a158 (v33 : Int32).toNatClampNeg) * v31) + (x151 * (255 - v31))) (fun x162 => Option.bind (F_MPainter_div sh mm x162 255) (fun p163 => zoL ((p163.1 : Int64).toInt32) (fun x164 => zoL ((3 * v23) + v33) (fun i165 => zoS (sh a154) 100 (fun le167 => if (i165 : Int32) < 0 ∨ le167 ≤ (i165 : Int32).toNatClampNeg then none else zoL (mI (p163.2) a154 (i165 : Int32).toNatClampNeg x164) (fun mm169 => L_MPainter_goOverPixel_396 sh fu v0 v21 v23 v31 (v33 + 1) mm169))))))))))))))))))
set_option maxHeartbeats 4000000 in
set_option maxRecDepth 100000 in
theorem lp_MPainter_goOverPixel_396 {p : Program} {l : Launch} {e : Env} {s : State} {m : MethodId} {args : Array Value} {below : List Frame} {meth : Method} {c : Code} {D : va_G} {tA : Nat → ClassId} {b n : Nat} {post : Option Value → zV → Nat → Prop} {sh : zSh} (F : zF p s m args meth c zb_MPainter_goOverPixel 36 "OrreryBoxModel$Painter" D tA b) : ∀ (fuel : Nat) (v0 : Nat) (v21 : Int64) (v23 : Int32) (v31 : Int64) (v33 : Int32) (mm : zMem) (r : Nat × Int64 × Int32 × Int64 × Int32 × zMem), L_MPainter_goOverPixel_396 sh fuel v0 v21 v23 v31 v33 mm = some r → (Z p l e { frames := 5, cells := 0, slots := 0, locals := 158 } s m args below meth c D b 36 (MQ below (zQ D b post) args s 0 0 (fun q => b ≤ q)) (zW tA b sh r.2.2.2.2.2) n 0 0 481 [(0, .ref (b + (r.1))), (21, .long (r.2.1)), (23, .int (r.2.2.1)), (31, .long (r.2.2.2.1)), (33, .int (r.2.2.2.2.1))] []) → Z p l e { frames := 5, cells := 0, slots := 0, locals := 158 } s m args below meth c D b 36 (MQ below (zQ D b post) args s 0 0 (fun q => b ≤ q)) (zW tA b sh mm) n 0 0 396 [(0, .ref (b + v0)), (21, .long v21), (23, .int v23), (31, .long v31), (33, .int v33)] [] := by
  intro fuel
  induction fuel with
  | zero =>
    intro v0 v21 v23 v31 v33 mm r h
    cases h
  | succ fu ih =>
    intro v0 v21 v23 v31 v33 mm r h hx0
    rw [L_MPainter_goOverPixel_396] at h
    refine zr_iload F zd_MPainter_goOverPixel_396 rfl ?_
    refine zr_iconstv (v := 3) F zd_MPainter_goOverPixel_398 (by decide) ?_
    refine zr_icmp_ge F 481 zd_MPainter_goOverPixel_399 (by decide) (fun hb143 => ?_) (fun hb143 => ?_)
    ·
      rw [if_pos hb143] at h
      obtain rfl := Option.some.inj h
      refine zr_loc (L' := [(0, .ref (b + v0)), (21, .long v21), (23, .int v23), (31, .long v31), (33, .int v33)]) ⟨rfl, rfl, rfl, rfl, rfl, trivial⟩ ?_
      exact hx0 
    ·
      rw [if_neg hb143] at h
      refine zr_aload_n F zd_MPainter_goOverPixel_402 rfl ?_
      refine zr_pcn 403 rfl ?_
      obtain ⟨le145, hs144, h⟩ := zoS_s h
      obtain ⟨a146, ea146, h⟩ := zoB_s h
      refine zr_get F 13 3 zd_MPainter_goOverPixel_403 (zW_o hs144 (by decide)) rfl (by decide) zw_1579 rfl (by rfl) ?_
      refine zr_tor ea146 ?_
      refine zr_iconstv (v := 3) F zd_MPainter_goOverPixel_406 (by decide) ?_
      refine zr_iload F zd_MPainter_goOverPixel_407 rfl ?_
      refine zr_imul F zd_MPainter_goOverPixel_409 ?_
      refine zr_iload F zd_MPainter_goOverPixel_410 rfl ?_
      refine zr_iadd F zd_MPainter_goOverPixel_412 ?_
      obtain ⟨i147, ei147, h⟩ := zoL_s h
      rw [← ei147]
      obtain ⟨le149, hs148, h⟩ := zoS_s h
      obtain ⟨hi150, h⟩ := zoI_s h
      refine zr_iald F zd_MPainter_goOverPixel_413 (zW_a0 hs148) hi150 ?_
      refine zr_i2l F zd_MPainter_goOverPixel_414 ?_
      refine zr_pcn 415 rfl ?_
      obtain ⟨x151, ex151, h⟩ := zoL_s h
      rw [← ex151]
      refine zr_lstore F zd_MPainter_goOverPixel_415 (by decide) ?_
      refine zr_aload_n F zd_MPainter_goOverPixel_417 rfl ?_
      obtain ⟨le153, hs152, h⟩ := zoS_s h
      obtain ⟨a154, ea154, h⟩ := zoB_s h
      refine zr_get F 13 3 zd_MPainter_goOverPixel_418 (zW_o hs152 (by decide)) rfl (by decide) zw_1579 rfl (by rfl) ?_
      refine zr_tor ea154 ?_
      refine zr_iconstv (v := 3) F zd_MPainter_goOverPixel_421 (by decide) ?_
      refine zr_iload F zd_MPainter_goOverPixel_422 rfl ?_
      refine zr_imul F zd_MPainter_goOverPixel_424 ?_
      refine zr_iload F zd_MPainter_goOverPixel_425 rfl ?_
      refine zr_iadd F zd_MPainter_goOverPixel_427 ?_
      refine zr_pcn 428 rfl ?_
      refine zr_lload F zd_MPainter_goOverPixel_428 rfl ?_
      refine zr_ldc2 F zd_MPainter_goOverPixel_430 zw_2138 ?_
      refine zr_lcmp F zd_MPainter_goOverPixel_433 ?_
      refine zr_if_ne F 447 zd_MPainter_goOverPixel_434 (by decide) (fun hb155 => ?_) (fun hb155 => ?_)
      ·
        rw [if_neg hb155] at h
        refine zr_aload_n F zd_MPainter_goOverPixel_447 rfl ?_
        obtain ⟨le157, hs156, h⟩ := zoS_s h
        obtain ⟨a158, ea158, h⟩ := zoB_s h
        refine zr_get F 13 30 zd_MPainter_goOverPixel_448 (zW_o hs156 (by decide)) rfl (by decide) zw_1610 rfl (by rfl) ?_
        refine zr_tor ea158 ?_
        refine zr_iload F zd_MPainter_goOverPixel_451 rfl ?_
        obtain ⟨le160, hs159, h⟩ := zoS_s h
        obtain ⟨hi161, h⟩ := zoI_s h
        refine zr_lald F zd_MPainter_goOverPixel_453 (zW_a2 hs159) hi161 ?_
        refine zr_pcn 454 rfl ?_
        refine zr_lload F zd_MPainter_goOverPixel_454 rfl ?_
        refine zr_lmul F zd_MPainter_goOverPixel_456 ?_
        refine zr_lload F zd_MPainter_goOverPixel_457 rfl ?_
        refine zr_ldc2 F zd_MPainter_goOverPixel_459 zw_2138 ?_
        refine zr_lload F zd_MPainter_goOverPixel_462 rfl ?_
        refine zr_lsub F zd_MPainter_goOverPixel_464 ?_
        refine zr_lmul F zd_MPainter_goOverPixel_465 ?_
        refine zr_ladd F zd_MPainter_goOverPixel_466 ?_
        refine zr_pcn 467 rfl ?_
        refine zr_ldc2 F zd_MPainter_goOverPixel_467 zw_2138 ?_
        obtain ⟨x162, ex162, h⟩ := zoL_s h
        rw [← ex162]
        obtain ⟨p163, ep163, h⟩ := zoB_s h
        refine zr_callS1 F (k_MPainter_div l D tA b sh _ ep163) zd_MPainter_goOverPixel_470 zs_MPainter_103 zq_MPainter_div rfl rfl ⟨(Nat.le_of_ble_eq_true rfl), (Nat.le_of_ble_eq_true rfl)⟩ (Nat.le_of_ble_eq_true rfl) ⟨(Nat.le_of_ble_eq_true rfl), (Nat.le_of_ble_eq_true rfl)⟩ ?_
        refine zr_l2i F zd_MPainter_goOverPixel_473 ?_
        obtain ⟨x164, ex164, h⟩ := zoL_s h
        rw [← ex164]
        obtain ⟨i165, ei165, h⟩ := zoL_s h
        rw [← ei165]
        obtain ⟨le167, hs166, h⟩ := zoS_s h
        obtain ⟨hi168, h⟩ := zoI_s h
        refine zr_iast F zd_MPainter_goOverPixel_474 (zW_a0 hs166) hi168 ?_
        obtain ⟨mm169, emm169, h⟩ := zoL_s h
        refine zr_norm (zW tA b sh mm169) _ (by rw [emm169]; exact zW_s0 hs166) rfl ?_
        refine zr_iinc (v := (v33 + 1)) F zd_MPainter_goOverPixel_475 rfl rfl (by decide) ?_
        refine zr_goto F 396 zd_MPainter_goOverPixel_478 (by decide) ?_
        refine zr_loc (L' := [(0, .ref (b + v0)), (21, .long v21), (23, .int v23), (31, .long v31), (33, .int (v33 + 1))]) ⟨rfl, rfl, rfl, rfl, rfl, trivial⟩ ?_
        exact ih _ _ _ _ _ _ _ h hx0
      ·
        rw [if_pos hb155] at h
        refine zr_aload_n F zd_MPainter_goOverPixel_437 rfl ?_
        obtain ⟨le171, hs170, h⟩ := zoS_s h
        obtain ⟨a172, ea172, h⟩ := zoB_s h
        refine zr_get F 13 30 zd_MPainter_goOverPixel_438 (zW_o hs170 (by decide)) rfl (by decide) zw_1610 rfl (by rfl) ?_
        refine zr_tor ea172 ?_
        refine zr_pcn 441 rfl ?_
        refine zr_iload F zd_MPainter_goOverPixel_441 rfl ?_
        obtain ⟨le174, hs173, h⟩ := zoS_s h
        obtain ⟨hi175, h⟩ := zoI_s h
        refine zr_lald F zd_MPainter_goOverPixel_443 (zW_a2 hs173) hi175 ?_
        refine zr_goto F 473 zd_MPainter_goOverPixel_444 (by decide) ?_
        refine zr_l2i F zd_MPainter_goOverPixel_473 ?_
        obtain ⟨x176, ex176, h⟩ := zoL_s h
        rw [← ex176]
        obtain ⟨i177, ei177, h⟩ := zoL_s h
        rw [← ei177]
        obtain ⟨le179, hs178, h⟩ := zoS_s h
        obtain ⟨hi180, h⟩ := zoI_s h
        refine zr_iast F zd_MPainter_goOverPixel_474 (zW_a0 hs178) hi180 ?_
        obtain ⟨mm181, emm181, h⟩ := zoL_s h
        refine zr_norm (zW tA b sh mm181) _ (by rw [emm181]; exact zW_s0 hs178) rfl ?_
        refine zr_iinc (v := (v33 + 1)) F zd_MPainter_goOverPixel_475 rfl rfl (by decide) ?_
        refine zr_goto F 396 zd_MPainter_goOverPixel_478 (by decide) ?_
        refine zr_loc (L' := [(0, .ref (b + v0)), (21, .long v21), (23, .int v23), (31, .long v31), (33, .int (v33 + 1))]) ⟨rfl, rfl, rfl, rfl, rfl, trivial⟩ ?_
        exact ih _ _ _ _ _ _ _ h hx0
theorem zf_I_13_11 (b : Nat) (m : zMem) (k : Nat) (v : Int32) : (zfl b 13 m k).set 11 (.int v) = zfl b 13 (mI m k 11 v) k := by simp [zfl, mI, upd, vp_updL]
theorem zf_I_13_12 (b : Nat) (m : zMem) (k : Nat) (v : Int32) : (zfl b 13 m k).set 12 (.int v) = zfl b 13 (mI m k 12 v) k := by simp [zfl, mI, upd, vp_updL]
theorem zf_L_13_13 (b : Nat) (m : zMem) (k : Nat) (v : Int64) : (zfl b 13 m k).set 13 (.long v) = zfl b 13 (mL m k 13 v) k := by simp [zfl, mL, upd, vp_updL]
def F_MPainter_goOverPixel (sh : zSh) (mm : zMem) (o : Nat) (x0_ : Int32) (x1_ : Int32) (x2_ : Int32) (x3_ : Int32) (x4_ : Int64) (x5_ : Int32) (x6_ : Int32) : Option zMem := zoL ((((16 * x5_) + 8) : Int32).toInt64) (fun x1 => zoL ((((16 * x6_) + 8) : Int32).toInt64) (fun x2 => zoS (sh o) 13 (fun le4 => Option.bind (F_MPainter_inside sh mm o x2_ x3_ x1 x2) (fun p5 => (if p5.1 = 0 then some (p5.2) else zoS (sh o) 13 (fun le8 => Option.bind (F_MPainter_inside sh (p5.2) o x3_ 0 x1 x2) (fun p9 => (if p9.1 = 0 then some (p9.2) else zoS (sh o) 13 (fun le12 => Option.bind (F_MPainter_inside sh (p9.2) o 0 x2_ x1 x2) (fun p13 => (if p13.1 = 0 then some (p13.2) else zoS (sh o) 13 (fun le16 => Option.bind (F_MPainter_edge sh (p13.2) o x2_ x3_ x1 x2) (fun p17 => zoS (sh o) 13 (fun le19 => Option.bind ((p17.2).2.2 o 29) (fun a20 => zoS (sh a20) 102 (fun le22 => if (0 : Int32) < 0 ∨ le22 ≤ (0 : Int32).toNatClampNeg then none else zoL (p17.1 * ((p17.2).2.1 a20 (0 : Int32).toNatClampNeg)) (fun x24 => zoS (sh o) 13 (fun le26 => Option.bind (F_MPainter_edge sh (p17.2) o x3_ 0 x1 x2) (fun p27 => zoS (sh o) 13 (fun le29 => Option.bind ((p27.2).2.2 o 29) (fun a30 => zoS (sh a30) 102 (fun le32 => if (x2_ : Int32) < 0 ∨ le32 ≤ (x2_ : Int32).toNatClampNeg then none else zoL (p27.1 * ((p27.2).2.1 a30 (x2_ : Int32).toNatClampNeg)) (fun x34 => zoS (sh o) 13 (fun le36 => Option.bind (F_MPainter_edge sh (p27.2) o 0 x2_ x1 x2) (fun p37 => zoS (sh o) 13 (fun le39 => Option.bind ((p37.2).2.2 o 29) (fun a40 => zoS (sh a40) 102 (fun le42 => if (x3_ : Int32) < 0 ∨ le42 ≤ (x3_ : Int32).toNatClampNeg then none else zoL (p37.1 * ((p37.2).2.1 a40 (x3_ : Int32).toNatClampNeg)) (fun x44 => zoL ((x24 + x34) + x44) (fun x45 => Option.bind (F_MPainter_div sh (p37.2) x45 x4_) (fun p46 => zoS (sh o) 13 (fun le48 => (if ((p46.2).1 o 10) = 0 then zoS (sh o) 13 (fun le192 => (if ((p46.2).1 o 11) = (-1) then zoS (sh o) 13 (fun le195 => zoL (mI (p46.2) o 11 x0_) (fun mm196 => zoS (sh o) 13 (fun le198 => zoL (mI mm196 o 12 x1_) (fun mm199 => zoS (sh o) 13 (fun le201 => zoL (mL mm199 o 13 (p46.1)) (fun mm202 => some mm202)))))) else zoS (sh o) 13 (fun le204 => (if (lg_cmp p46.1 ((p46.2).2.1 o 13)) ≤ 0 then some (p46.2) else zoS (sh o) 13 (fun le207 => zoL (mI (p46.2) o 11 x0_) (fun mm208 => zoS (sh o) 13 (fun le210 => zoL (mI mm208 o 12 x1_) (fun mm211 => zoS (sh o) 13 (fun le213 => zoL (mL mm211 o 13 (p46.1)) (fun mm214 => some mm214)))))))))) else zoS (sh o) 13 (fun le51 => zoL ((((p46.2).1 o 1) * x6_) + x5_) (fun x52 => zoS (sh o) 13 (fun le54 => Option.bind ((p46.2).2.2 o 4) (fun a55 => zoS (sh a55) 102 (fun le57 => if (x52 : Int32) < 0 ∨ le57 ≤ (x52 : Int32).toNatClampNeg then none else (if 0 < (lg_cmp p46.1 ((p46.2).2.1 a55 (x52 : Int32).toNatClampNeg)) then zoS (sh o) 13 (fun le61 => Option.bind ((p46.2).2.2 o 23) (fun a62 => zoS (sh a62) 102 (fun le64 => if (3 : Int32) < 0 ∨ le64 ≤ (3 : Int32).toNatClampNeg then none else zoS (sh o) 13 (fun le67 => Option.bind ((p46.2).2.2 o 23) (fun a68 => zoL ((6 * x2_) + 3) (fun i69 => zoS (sh a68) 102 (fun le71 => if (i69 : Int32) < 0 ∨ le71 ≤ (i69 : Int32).toNatClampNeg then none else zoS (sh o) 13 (fun le74 => Option.bind ((p46.2).2.2 o 23) (fun a75 => zoL ((6 * x3_) + 3) (fun i76 => zoS (sh a75) 102 (fun le78 => if (i76 : Int32) < 0 ∨ le78 ≤ (i76 : Int32).toNatClampNeg then none else zoL (((x24 * ((p46.2).2.1 a62 (3 : Int32).toNatClampNeg)) + (x34 * ((p46.2).2.1 a68 (i69 : Int32).toNatClampNeg))) + (x44 * ((p46.2).2.1 a75 (i76 : Int32).toNatClampNeg))) (fun x80 => Option.bind (F_MPainter_div sh (p46.2) x80 x45) (fun p81 => zoS (sh o) 13 (fun le83 => Option.bind ((p81.2).2.2 o 23) (fun a84 => zoS (sh a84) 102 (fun le86 => if (4 : Int32) < 0 ∨ le86 ≤ (4 : Int32).toNatClampNeg then none else zoS (sh o) 13 (fun le89 => Option.bind ((p81.2).2.2 o 23) (fun a90 => zoL ((6 * x2_) + 4) (fun i91 => zoS (sh a90) 102 (fun le93 => if (i91 : Int32) < 0 ∨ le93 ≤ (i91 : Int32).toNatClampNeg then none else zoS (sh o) 13 (fun le96 => Option.bind ((p81.2).2.2 o 23) (fun a97 => zoL ((6 * x3_) + 4) (fun i98 => zoS (sh a97) 102 (fun le100 => if (i98 : Int32) < 0 ∨ le100 ≤ (i98 : Int32).toNatClampNeg then none else zoL (((x24 * ((p81.2).2.1 a84 (4 : Int32).toNatClampNeg)) + (x34 * ((p81.2).2.1 a90 (i91 : Int32).toNatClampNeg))) + (x44 * ((p81.2).2.1 a97 (i98 : Int32).toNatClampNeg))) (fun x102 => Option.bind (F_MPainter_div sh (p81.2) x102 x45) (fun p103 => zoS (sh o) 13 (fun le105 => Option.bind ((p103.2).2.2 o 23) (fun a106 => zoS (sh a106) 102 (fun le108 => if (5 : Int32) < 0 ∨ le108 ≤ (5 : Int32).toNatClampNeg then none else zoS (sh o) 13 (fun le111 => Option.bind ((p103.2).2.2 o 23) (fun a112 => zoL ((6 * x2_) + 5) (fun i113 => zoS (sh a112) 102 (fun le115 => if (i113 : Int32) < 0 ∨ le115 ≤ (i113 : Int32).toNatClampNeg then none else zoS (sh o) 13 (fun le118 => Option.bind ((p103.2).2.2 o 23) (fun a119 => zoL ((6 * x3_) + 5) (fun i120 => zoS (sh a119) 102 (fun le122 => if (i120 : Int32) < 0 ∨ le122 ≤ (i120 : Int32).toNatClampNeg then none else zoL (((x24 * ((p103.2).2.1 a106 (5 : Int32).toNatClampNeg)) + (x34 * ((p103.2).2.1 a112 (i113 : Int32).toNatClampNeg))) + (x44 * ((p103.2).2.1 a119 (i120 : Int32).toNatClampNeg))) (fun x124 => Option.bind (F_MPainter_div sh (p103.2) x124 x45) (fun p125 => zoS (sh o) 13 (fun le127 => Option.bind (F_MPainter_materialOf sh (p125.2) o x0_) (fun p128 => zoS (sh o) 13 (fun le130 => Option.bind (F_MPainter_colour sh (p128.2) o (p128.1) x2_ x3_ x4_ (p81.1) (p103.1) (p125.1)) (fun p131 => zoS (sh o) 13 (fun le133 => Option.bind (p131.2.2 o 5) (fun a134 => zoS (sh a134) 15 (fun le136 => Option.bind (p131.2.2 a134 9) (fun a137 => zoL ((4 * p128.1) + 3) (fun i138 => zoS (sh a137) 100 (fun le140 => if (i138 : Int32) < 0 ∨ le140 ≤ (i138 : Int32).toNatClampNeg then none else zoL (((p131.1 a137 (i138 : Int32).toNatClampNeg) : Int32).toInt64) (fun x142 => Option.bind (L_MPainter_goOverPixel_396 sh zfuel o (p46.1) x52 x142 0 p131) (fun q182 => (if (lg_cmp q182.2.2.2.1 255) = 0 then zoS (sh (q182.1)) 13 (fun le185 => Option.bind ((q182.2.2.2.2.2).2.2 (q182.1) 4) (fun a186 => zoS (sh a186) 102 (fun le188 => if (q182.2.2.1 : Int32) < 0 ∨ le188 ≤ (q182.2.2.1 : Int32).toNatClampNeg then none else zoL (mL (q182.2.2.2.2.2) a186 (q182.2.2.1 : Int32).toNatClampNeg (q182.2.1)) (fun mm190 => some mm190)))) else some (q182.2.2.2.2.2))))))))))))))))))))))))))))))))))))))))))))))))))))) else some (p46.2))))))))))))))))))))))))))))))))))))))))
set_option maxHeartbeats 4000000 in
set_option maxRecDepth 100000 in
theorem k_MPainter_goOverPixel (l : Launch) (D : va_G) (tA : Nat → ClassId) (b : Nat) (sh : zSh) (n : Nat) {mm : zMem} {o : Nat} {x0_ : Int32} {x1_ : Int32} {x2_ : Int32} {x3_ : Int32} {x4_ : Int64} {x5_ : Int32} {x6_ : Int32} {r : zMem} (h : F_MPainter_goOverPixel sh mm o x0_ x1_ x2_ x3_ x4_ x5_ x6_ = some r) : zM l D tA b zy_MPainter_goOverPixel zb_MPainter_goOverPixel 36 none 5 158 0 0 [.ref (b + o), .int x0_, .int x1_, .int x2_, .int x3_, .long x4_, .int x5_, .int x6_] (zW tA b sh mm) n (zE none (zW tA b sh r) n) := by
  unfold F_MPainter_goOverPixel at h
  refine zM_of (own := "OrreryBoxModel$Painter") (plainFor_of_name (by decide)) rfl (Nat.le_of_ble_eq_true rfl) (fun p e s m below meth c F hr hin hH => ?_)
  refine zr_bipushv (v := 16) F zd_MPainter_goOverPixel_0 (by decide) ?_
  refine zr_iload F zd_MPainter_goOverPixel_2 rfl ?_
  refine zr_imul F zd_MPainter_goOverPixel_4 ?_
  refine zr_bipushv (v := 8) F zd_MPainter_goOverPixel_5 (by decide) ?_
  refine zr_iadd F zd_MPainter_goOverPixel_7 ?_
  refine zr_i2l F zd_MPainter_goOverPixel_8 ?_
  obtain ⟨x1, ex1, h⟩ := zoL_s h
  rw [← ex1]
  refine zr_lstore F zd_MPainter_goOverPixel_9 (by decide) ?_
  refine zr_pcn 11 rfl ?_
  refine zr_bipushv (v := 16) F zd_MPainter_goOverPixel_11 (by decide) ?_
  refine zr_iload F zd_MPainter_goOverPixel_13 rfl ?_
  refine zr_imul F zd_MPainter_goOverPixel_15 ?_
  refine zr_bipushv (v := 8) F zd_MPainter_goOverPixel_16 (by decide) ?_
  refine zr_iadd F zd_MPainter_goOverPixel_18 ?_
  refine zr_i2l F zd_MPainter_goOverPixel_19 ?_
  obtain ⟨x2, ex2, h⟩ := zoL_s h
  rw [← ex2]
  refine zr_lstore F zd_MPainter_goOverPixel_20 (by decide) ?_
  refine zr_aload_n F zd_MPainter_goOverPixel_22 rfl ?_
  refine zr_pcn 23 rfl ?_
  refine zr_iload_n F zd_MPainter_goOverPixel_23 rfl ?_
  refine zr_iload F zd_MPainter_goOverPixel_24 rfl ?_
  refine zr_lload F zd_MPainter_goOverPixel_26 rfl ?_
  refine zr_lload F zd_MPainter_goOverPixel_28 rfl ?_
  obtain ⟨le4, hs3, h⟩ := zoS_s h
  obtain ⟨p5, ep5, h⟩ := zoB_s h
  refine zr_callV1 F (k_MPainter_inside l D tA b sh _ ep5) zd_MPainter_goOverPixel_30 (zW_o hs3 (by decide)) rfl zs_MPainter_285 rfl zq_MPainter_inside rfl rfl ⟨(Nat.le_of_ble_eq_true rfl), (Nat.le_of_ble_eq_true rfl)⟩ (Nat.le_of_ble_eq_true rfl) ⟨(Nat.le_of_ble_eq_true rfl), (Nat.le_of_ble_eq_true rfl)⟩ ?_
  refine zr_if_eq F 63 zd_MPainter_goOverPixel_33 (by decide) (fun hb6 => ?_) (fun hb6 => ?_)
  ·
    rw [if_pos hb6] at h
    obtain rfl := Option.some.inj h
    exact zr_vret F hr zd_MPainter_goOverPixel_63 (Nat.le_of_ble_eq_true rfl) (Nat.le_of_ble_eq_true rfl) ⟨rfl, rfl, rfl⟩
  ·
    rw [if_neg hb6] at h
    refine zr_aload_n F zd_MPainter_goOverPixel_36 rfl ?_
    refine zr_pcn 37 rfl ?_
    refine zr_iload F zd_MPainter_goOverPixel_37 rfl ?_
    refine zr_iconstv (v := 0) F zd_MPainter_goOverPixel_39 (by decide) ?_
    refine zr_lload F zd_MPainter_goOverPixel_40 rfl ?_
    refine zr_lload F zd_MPainter_goOverPixel_42 rfl ?_
    obtain ⟨le8, hs7, h⟩ := zoS_s h
    obtain ⟨p9, ep9, h⟩ := zoB_s h
    refine zr_callV1 F (k_MPainter_inside l D tA b sh _ ep9) zd_MPainter_goOverPixel_44 (zW_o hs7 (by decide)) rfl zs_MPainter_285 rfl zq_MPainter_inside rfl rfl ⟨(Nat.le_of_ble_eq_true rfl), (Nat.le_of_ble_eq_true rfl)⟩ (Nat.le_of_ble_eq_true rfl) ⟨(Nat.le_of_ble_eq_true rfl), (Nat.le_of_ble_eq_true rfl)⟩ ?_
    refine zr_if_eq F 63 zd_MPainter_goOverPixel_47 (by decide) (fun hb10 => ?_) (fun hb10 => ?_)
    ·
      rw [if_pos hb10] at h
      obtain rfl := Option.some.inj h
      exact zr_vret F hr zd_MPainter_goOverPixel_63 (Nat.le_of_ble_eq_true rfl) (Nat.le_of_ble_eq_true rfl) ⟨rfl, rfl, rfl⟩
    ·
      rw [if_neg hb10] at h
      refine zr_aload_n F zd_MPainter_goOverPixel_50 rfl ?_
      refine zr_pcn 51 rfl ?_
      refine zr_iconstv (v := 0) F zd_MPainter_goOverPixel_51 (by decide) ?_
      refine zr_iload_n F zd_MPainter_goOverPixel_52 rfl ?_
      refine zr_lload F zd_MPainter_goOverPixel_53 rfl ?_
      refine zr_lload F zd_MPainter_goOverPixel_55 rfl ?_
      obtain ⟨le12, hs11, h⟩ := zoS_s h
      obtain ⟨p13, ep13, h⟩ := zoB_s h
      refine zr_callV1 F (k_MPainter_inside l D tA b sh _ ep13) zd_MPainter_goOverPixel_57 (zW_o hs11 (by decide)) rfl zs_MPainter_285 rfl zq_MPainter_inside rfl rfl ⟨(Nat.le_of_ble_eq_true rfl), (Nat.le_of_ble_eq_true rfl)⟩ (Nat.le_of_ble_eq_true rfl) ⟨(Nat.le_of_ble_eq_true rfl), (Nat.le_of_ble_eq_true rfl)⟩ ?_
      refine zr_if_ne F 64 zd_MPainter_goOverPixel_60 (by decide) (fun hb14 => ?_) (fun hb14 => ?_)
      ·
        rw [if_neg hb14] at h
        refine zr_aload_n F zd_MPainter_goOverPixel_64 rfl ?_
        refine zr_iload_n F zd_MPainter_goOverPixel_65 rfl ?_
        refine zr_pcn 66 rfl ?_
        refine zr_iload F zd_MPainter_goOverPixel_66 rfl ?_
        refine zr_lload F zd_MPainter_goOverPixel_68 rfl ?_
        refine zr_lload F zd_MPainter_goOverPixel_70 rfl ?_
        obtain ⟨le16, hs15, h⟩ := zoS_s h
        obtain ⟨p17, ep17, h⟩ := zoB_s h
        refine zr_callV1 F (k_MPainter_edge l D tA b sh _ ep17) zd_MPainter_goOverPixel_72 (zW_o hs15 (by decide)) rfl zs_MPainter_281 rfl zq_MPainter_edge rfl rfl ⟨(Nat.le_of_ble_eq_true rfl), (Nat.le_of_ble_eq_true rfl)⟩ (Nat.le_of_ble_eq_true rfl) ⟨(Nat.le_of_ble_eq_true rfl), (Nat.le_of_ble_eq_true rfl)⟩ ?_
        refine zr_aload_n F zd_MPainter_goOverPixel_75 rfl ?_
        obtain ⟨le19, hs18, h⟩ := zoS_s h
        obtain ⟨a20, ea20, h⟩ := zoB_s h
        refine zr_get F 13 29 zd_MPainter_goOverPixel_76 (zW_o hs18 (by decide)) rfl (by decide) zw_1609 rfl (by rfl) ?_
        refine zr_tor ea20 ?_
        refine zr_iconstv (v := 0) F zd_MPainter_goOverPixel_79 (by decide) ?_
        obtain ⟨le22, hs21, h⟩ := zoS_s h
        obtain ⟨hi23, h⟩ := zoI_s h
        refine zr_lald F zd_MPainter_goOverPixel_80 (zW_a2 hs21) hi23 ?_
        refine zr_pcn 81 rfl ?_
        refine zr_lmul F zd_MPainter_goOverPixel_81 ?_
        obtain ⟨x24, ex24, h⟩ := zoL_s h
        rw [← ex24]
        refine zr_lstore F zd_MPainter_goOverPixel_82 (by decide) ?_
        refine zr_aload_n F zd_MPainter_goOverPixel_84 rfl ?_
        refine zr_iload F zd_MPainter_goOverPixel_85 rfl ?_
        refine zr_iconstv (v := 0) F zd_MPainter_goOverPixel_87 (by decide) ?_
        refine zr_lload F zd_MPainter_goOverPixel_88 rfl ?_
        refine zr_lload F zd_MPainter_goOverPixel_90 rfl ?_
        obtain ⟨le26, hs25, h⟩ := zoS_s h
        obtain ⟨p27, ep27, h⟩ := zoB_s h
        refine zr_callV1 F (k_MPainter_edge l D tA b sh _ ep27) zd_MPainter_goOverPixel_92 (zW_o hs25 (by decide)) rfl zs_MPainter_281 rfl zq_MPainter_edge rfl rfl ⟨(Nat.le_of_ble_eq_true rfl), (Nat.le_of_ble_eq_true rfl)⟩ (Nat.le_of_ble_eq_true rfl) ⟨(Nat.le_of_ble_eq_true rfl), (Nat.le_of_ble_eq_true rfl)⟩ ?_
        refine zr_pcn 95 rfl ?_
        refine zr_aload_n F zd_MPainter_goOverPixel_95 rfl ?_
        obtain ⟨le29, hs28, h⟩ := zoS_s h
        obtain ⟨a30, ea30, h⟩ := zoB_s h
        refine zr_get F 13 29 zd_MPainter_goOverPixel_96 (zW_o hs28 (by decide)) rfl (by decide) zw_1609 rfl (by rfl) ?_
        refine zr_tor ea30 ?_
        refine zr_iload_n F zd_MPainter_goOverPixel_99 rfl ?_
        obtain ⟨le32, hs31, h⟩ := zoS_s h
        obtain ⟨hi33, h⟩ := zoI_s h
        refine zr_lald F zd_MPainter_goOverPixel_100 (zW_a2 hs31) hi33 ?_
        refine zr_lmul F zd_MPainter_goOverPixel_101 ?_
        obtain ⟨x34, ex34, h⟩ := zoL_s h
        rw [← ex34]
        refine zr_lstore F zd_MPainter_goOverPixel_102 (by decide) ?_
        refine zr_aload_n F zd_MPainter_goOverPixel_104 rfl ?_
        refine zr_iconstv (v := 0) F zd_MPainter_goOverPixel_105 (by decide) ?_
        refine zr_pcn 106 rfl ?_
        refine zr_iload_n F zd_MPainter_goOverPixel_106 rfl ?_
        refine zr_lload F zd_MPainter_goOverPixel_107 rfl ?_
        refine zr_lload F zd_MPainter_goOverPixel_109 rfl ?_
        obtain ⟨le36, hs35, h⟩ := zoS_s h
        obtain ⟨p37, ep37, h⟩ := zoB_s h
        refine zr_callV1 F (k_MPainter_edge l D tA b sh _ ep37) zd_MPainter_goOverPixel_111 (zW_o hs35 (by decide)) rfl zs_MPainter_281 rfl zq_MPainter_edge rfl rfl ⟨(Nat.le_of_ble_eq_true rfl), (Nat.le_of_ble_eq_true rfl)⟩ (Nat.le_of_ble_eq_true rfl) ⟨(Nat.le_of_ble_eq_true rfl), (Nat.le_of_ble_eq_true rfl)⟩ ?_
        refine zr_aload_n F zd_MPainter_goOverPixel_114 rfl ?_
        obtain ⟨le39, hs38, h⟩ := zoS_s h
        obtain ⟨a40, ea40, h⟩ := zoB_s h
        refine zr_get F 13 29 zd_MPainter_goOverPixel_115 (zW_o hs38 (by decide)) rfl (by decide) zw_1609 rfl (by rfl) ?_
        refine zr_tor ea40 ?_
        refine zr_iload F zd_MPainter_goOverPixel_118 rfl ?_
        obtain ⟨le42, hs41, h⟩ := zoS_s h
        obtain ⟨hi43, h⟩ := zoI_s h
        refine zr_lald F zd_MPainter_goOverPixel_120 (zW_a2 hs41) hi43 ?_
        refine zr_pcn 121 rfl ?_
        refine zr_lmul F zd_MPainter_goOverPixel_121 ?_
        obtain ⟨x44, ex44, h⟩ := zoL_s h
        rw [← ex44]
        refine zr_lstore F zd_MPainter_goOverPixel_122 (by decide) ?_
        refine zr_lload F zd_MPainter_goOverPixel_124 rfl ?_
        refine zr_lload F zd_MPainter_goOverPixel_126 rfl ?_
        refine zr_ladd F zd_MPainter_goOverPixel_128 ?_
        refine zr_lload F zd_MPainter_goOverPixel_129 rfl ?_
        refine zr_ladd F zd_MPainter_goOverPixel_131 ?_
        obtain ⟨x45, ex45, h⟩ := zoL_s h
        rw [← ex45]
        refine zr_lstore F zd_MPainter_goOverPixel_132 (by decide) ?_
        refine zr_pcn 134 rfl ?_
        refine zr_lload F zd_MPainter_goOverPixel_134 rfl ?_
        refine zr_lload F zd_MPainter_goOverPixel_136 rfl ?_
        obtain ⟨p46, ep46, h⟩ := zoB_s h
        refine zr_callS1 F (k_MPainter_div l D tA b sh _ ep46) zd_MPainter_goOverPixel_138 zs_MPainter_103 zq_MPainter_div rfl rfl ⟨(Nat.le_of_ble_eq_true rfl), (Nat.le_of_ble_eq_true rfl)⟩ (Nat.le_of_ble_eq_true rfl) ⟨(Nat.le_of_ble_eq_true rfl), (Nat.le_of_ble_eq_true rfl)⟩ ?_
        refine zr_lstore F zd_MPainter_goOverPixel_141 (by decide) ?_
        refine zr_aload_n F zd_MPainter_goOverPixel_143 rfl ?_
        obtain ⟨le48, hs47, h⟩ := zoS_s h
        refine zr_get F 13 10 zd_MPainter_goOverPixel_144 (zW_o hs47 (by decide)) rfl (by decide) zw_1587 rfl (by rfl) ?_
        refine zr_if_ne F 185 zd_MPainter_goOverPixel_147 (by decide) (fun hb49 => ?_) (fun hb49 => ?_)
        ·
          rw [if_neg hb49] at h
          refine zr_aload_n F zd_MPainter_goOverPixel_185 rfl ?_
          refine zr_pcn 186 rfl ?_
          obtain ⟨le51, hs50, h⟩ := zoS_s h
          refine zr_get F 13 1 zd_MPainter_goOverPixel_186 (zW_o hs50 (by decide)) rfl (by decide) zw_1577 rfl (by rfl) ?_
          refine zr_iload F zd_MPainter_goOverPixel_189 rfl ?_
          refine zr_imul F zd_MPainter_goOverPixel_191 ?_
          refine zr_iload F zd_MPainter_goOverPixel_192 rfl ?_
          refine zr_iadd F zd_MPainter_goOverPixel_194 ?_
          obtain ⟨x52, ex52, h⟩ := zoL_s h
          rw [← ex52]
          refine zr_istore F zd_MPainter_goOverPixel_195 (by decide) ?_
          refine zr_lload F zd_MPainter_goOverPixel_197 rfl ?_
          refine zr_aload_n F zd_MPainter_goOverPixel_199 rfl ?_
          refine zr_pcn 200 rfl ?_
          obtain ⟨le54, hs53, h⟩ := zoS_s h
          obtain ⟨a55, ea55, h⟩ := zoB_s h
          refine zr_get F 13 4 zd_MPainter_goOverPixel_200 (zW_o hs53 (by decide)) rfl (by decide) zw_1580 rfl (by rfl) ?_
          refine zr_tor ea55 ?_
          refine zr_iload F zd_MPainter_goOverPixel_203 rfl ?_
          obtain ⟨le57, hs56, h⟩ := zoS_s h
          obtain ⟨hi58, h⟩ := zoI_s h
          refine zr_lald F zd_MPainter_goOverPixel_205 (zW_a2 hs56) hi58 ?_
          refine zr_lcmp F zd_MPainter_goOverPixel_206 ?_
          refine zr_if_gt F 211 zd_MPainter_goOverPixel_207 (by decide) (fun hb59 => ?_) (fun hb59 => ?_)
          ·
            rw [if_pos hb59] at h
            refine zr_lload F zd_MPainter_goOverPixel_211 rfl ?_
            refine zr_aload_n F zd_MPainter_goOverPixel_213 rfl ?_
            obtain ⟨le61, hs60, h⟩ := zoS_s h
            obtain ⟨a62, ea62, h⟩ := zoB_s h
            refine zr_get F 13 23 zd_MPainter_goOverPixel_214 (zW_o hs60 (by decide)) rfl (by decide) zw_1603 rfl (by rfl) ?_
            refine zr_tor ea62 ?_
            refine zr_pcn 217 rfl ?_
            refine zr_iconstv (v := 3) F zd_MPainter_goOverPixel_217 (by decide) ?_
            obtain ⟨le64, hs63, h⟩ := zoS_s h
            obtain ⟨hi65, h⟩ := zoI_s h
            refine zr_lald F zd_MPainter_goOverPixel_218 (zW_a2 hs63) hi65 ?_
            refine zr_lmul F zd_MPainter_goOverPixel_219 ?_
            refine zr_lload F zd_MPainter_goOverPixel_220 rfl ?_
            refine zr_aload_n F zd_MPainter_goOverPixel_222 rfl ?_
            obtain ⟨le67, hs66, h⟩ := zoS_s h
            obtain ⟨a68, ea68, h⟩ := zoB_s h
            refine zr_get F 13 23 zd_MPainter_goOverPixel_223 (zW_o hs66 (by decide)) rfl (by decide) zw_1603 rfl (by rfl) ?_
            refine zr_tor ea68 ?_
            refine zr_bipushv (v := 6) F zd_MPainter_goOverPixel_226 (by decide) ?_
            refine zr_iload_n F zd_MPainter_goOverPixel_228 rfl ?_
            refine zr_pcn 229 rfl ?_
            refine zr_imul F zd_MPainter_goOverPixel_229 ?_
            refine zr_iconstv (v := 3) F zd_MPainter_goOverPixel_230 (by decide) ?_
            refine zr_iadd F zd_MPainter_goOverPixel_231 ?_
            obtain ⟨i69, ei69, h⟩ := zoL_s h
            rw [← ei69]
            obtain ⟨le71, hs70, h⟩ := zoS_s h
            obtain ⟨hi72, h⟩ := zoI_s h
            refine zr_lald F zd_MPainter_goOverPixel_232 (zW_a2 hs70) hi72 ?_
            refine zr_lmul F zd_MPainter_goOverPixel_233 ?_
            refine zr_ladd F zd_MPainter_goOverPixel_234 ?_
            refine zr_lload F zd_MPainter_goOverPixel_235 rfl ?_
            refine zr_aload_n F zd_MPainter_goOverPixel_237 rfl ?_
            refine zr_pcn 238 rfl ?_
            obtain ⟨le74, hs73, h⟩ := zoS_s h
            obtain ⟨a75, ea75, h⟩ := zoB_s h
            refine zr_get F 13 23 zd_MPainter_goOverPixel_238 (zW_o hs73 (by decide)) rfl (by decide) zw_1603 rfl (by rfl) ?_
            refine zr_tor ea75 ?_
            refine zr_bipushv (v := 6) F zd_MPainter_goOverPixel_241 (by decide) ?_
            refine zr_iload F zd_MPainter_goOverPixel_243 rfl ?_
            refine zr_imul F zd_MPainter_goOverPixel_245 ?_
            refine zr_iconstv (v := 3) F zd_MPainter_goOverPixel_246 (by decide) ?_
            refine zr_iadd F zd_MPainter_goOverPixel_247 ?_
            obtain ⟨i76, ei76, h⟩ := zoL_s h
            rw [← ei76]
            obtain ⟨le78, hs77, h⟩ := zoS_s h
            obtain ⟨hi79, h⟩ := zoI_s h
            refine zr_lald F zd_MPainter_goOverPixel_248 (zW_a2 hs77) hi79 ?_
            refine zr_lmul F zd_MPainter_goOverPixel_249 ?_
            refine zr_pcn 250 rfl ?_
            refine zr_ladd F zd_MPainter_goOverPixel_250 ?_
            refine zr_lload F zd_MPainter_goOverPixel_251 rfl ?_
            obtain ⟨x80, ex80, h⟩ := zoL_s h
            rw [← ex80]
            obtain ⟨p81, ep81, h⟩ := zoB_s h
            refine zr_callS1 F (k_MPainter_div l D tA b sh _ ep81) zd_MPainter_goOverPixel_253 zs_MPainter_103 zq_MPainter_div rfl rfl ⟨(Nat.le_of_ble_eq_true rfl), (Nat.le_of_ble_eq_true rfl)⟩ (Nat.le_of_ble_eq_true rfl) ⟨(Nat.le_of_ble_eq_true rfl), (Nat.le_of_ble_eq_true rfl)⟩ ?_
            refine zr_lstore F zd_MPainter_goOverPixel_256 (by decide) ?_
            refine zr_lload F zd_MPainter_goOverPixel_258 rfl ?_
            refine zr_aload_n F zd_MPainter_goOverPixel_260 rfl ?_
            obtain ⟨le83, hs82, h⟩ := zoS_s h
            obtain ⟨a84, ea84, h⟩ := zoB_s h
            refine zr_get F 13 23 zd_MPainter_goOverPixel_261 (zW_o hs82 (by decide)) rfl (by decide) zw_1603 rfl (by rfl) ?_
            refine zr_tor ea84 ?_
            refine zr_iconstv (v := 4) F zd_MPainter_goOverPixel_264 (by decide) ?_
            refine zr_pcn 265 rfl ?_
            obtain ⟨le86, hs85, h⟩ := zoS_s h
            obtain ⟨hi87, h⟩ := zoI_s h
            refine zr_lald F zd_MPainter_goOverPixel_265 (zW_a2 hs85) hi87 ?_
            refine zr_lmul F zd_MPainter_goOverPixel_266 ?_
            refine zr_lload F zd_MPainter_goOverPixel_267 rfl ?_
            refine zr_aload_n F zd_MPainter_goOverPixel_269 rfl ?_
            obtain ⟨le89, hs88, h⟩ := zoS_s h
            obtain ⟨a90, ea90, h⟩ := zoB_s h
            refine zr_get F 13 23 zd_MPainter_goOverPixel_270 (zW_o hs88 (by decide)) rfl (by decide) zw_1603 rfl (by rfl) ?_
            refine zr_tor ea90 ?_
            refine zr_bipushv (v := 6) F zd_MPainter_goOverPixel_273 (by decide) ?_
            refine zr_iload_n F zd_MPainter_goOverPixel_275 rfl ?_
            refine zr_imul F zd_MPainter_goOverPixel_276 ?_
            refine zr_pcn 277 rfl ?_
            refine zr_iconstv (v := 4) F zd_MPainter_goOverPixel_277 (by decide) ?_
            refine zr_iadd F zd_MPainter_goOverPixel_278 ?_
            obtain ⟨i91, ei91, h⟩ := zoL_s h
            rw [← ei91]
            obtain ⟨le93, hs92, h⟩ := zoS_s h
            obtain ⟨hi94, h⟩ := zoI_s h
            refine zr_lald F zd_MPainter_goOverPixel_279 (zW_a2 hs92) hi94 ?_
            refine zr_lmul F zd_MPainter_goOverPixel_280 ?_
            refine zr_ladd F zd_MPainter_goOverPixel_281 ?_
            refine zr_lload F zd_MPainter_goOverPixel_282 rfl ?_
            refine zr_aload_n F zd_MPainter_goOverPixel_284 rfl ?_
            obtain ⟨le96, hs95, h⟩ := zoS_s h
            obtain ⟨a97, ea97, h⟩ := zoB_s h
            refine zr_get F 13 23 zd_MPainter_goOverPixel_285 (zW_o hs95 (by decide)) rfl (by decide) zw_1603 rfl (by rfl) ?_
            refine zr_tor ea97 ?_
            refine zr_pcn 288 rfl ?_
            refine zr_bipushv (v := 6) F zd_MPainter_goOverPixel_288 (by decide) ?_
            refine zr_iload F zd_MPainter_goOverPixel_290 rfl ?_
            refine zr_imul F zd_MPainter_goOverPixel_292 ?_
            refine zr_iconstv (v := 4) F zd_MPainter_goOverPixel_293 (by decide) ?_
            refine zr_iadd F zd_MPainter_goOverPixel_294 ?_
            obtain ⟨i98, ei98, h⟩ := zoL_s h
            rw [← ei98]
            obtain ⟨le100, hs99, h⟩ := zoS_s h
            obtain ⟨hi101, h⟩ := zoI_s h
            refine zr_lald F zd_MPainter_goOverPixel_295 (zW_a2 hs99) hi101 ?_
            refine zr_lmul F zd_MPainter_goOverPixel_296 ?_
            refine zr_ladd F zd_MPainter_goOverPixel_297 ?_
            refine zr_pcn 298 rfl ?_
            refine zr_lload F zd_MPainter_goOverPixel_298 rfl ?_
            obtain ⟨x102, ex102, h⟩ := zoL_s h
            rw [← ex102]
            obtain ⟨p103, ep103, h⟩ := zoB_s h
            refine zr_callS1 F (k_MPainter_div l D tA b sh _ ep103) zd_MPainter_goOverPixel_300 zs_MPainter_103 zq_MPainter_div rfl rfl ⟨(Nat.le_of_ble_eq_true rfl), (Nat.le_of_ble_eq_true rfl)⟩ (Nat.le_of_ble_eq_true rfl) ⟨(Nat.le_of_ble_eq_true rfl), (Nat.le_of_ble_eq_true rfl)⟩ ?_
            refine zr_lstore F zd_MPainter_goOverPixel_303 (by decide) ?_
            refine zr_lload F zd_MPainter_goOverPixel_305 rfl ?_
            refine zr_aload_n F zd_MPainter_goOverPixel_307 rfl ?_
            obtain ⟨le105, hs104, h⟩ := zoS_s h
            obtain ⟨a106, ea106, h⟩ := zoB_s h
            refine zr_get F 13 23 zd_MPainter_goOverPixel_308 (zW_o hs104 (by decide)) rfl (by decide) zw_1603 rfl (by rfl) ?_
            refine zr_tor ea106 ?_
            refine zr_iconstv (v := 5) F zd_MPainter_goOverPixel_311 (by decide) ?_
            obtain ⟨le108, hs107, h⟩ := zoS_s h
            obtain ⟨hi109, h⟩ := zoI_s h
            refine zr_lald F zd_MPainter_goOverPixel_312 (zW_a2 hs107) hi109 ?_
            refine zr_pcn 313 rfl ?_
            refine zr_lmul F zd_MPainter_goOverPixel_313 ?_
            refine zr_lload F zd_MPainter_goOverPixel_314 rfl ?_
            refine zr_aload_n F zd_MPainter_goOverPixel_316 rfl ?_
            obtain ⟨le111, hs110, h⟩ := zoS_s h
            obtain ⟨a112, ea112, h⟩ := zoB_s h
            refine zr_get F 13 23 zd_MPainter_goOverPixel_317 (zW_o hs110 (by decide)) rfl (by decide) zw_1603 rfl (by rfl) ?_
            refine zr_tor ea112 ?_
            refine zr_bipushv (v := 6) F zd_MPainter_goOverPixel_320 (by decide) ?_
            refine zr_iload_n F zd_MPainter_goOverPixel_322 rfl ?_
            refine zr_imul F zd_MPainter_goOverPixel_323 ?_
            refine zr_iconstv (v := 5) F zd_MPainter_goOverPixel_324 (by decide) ?_
            refine zr_pcn 325 rfl ?_
            refine zr_iadd F zd_MPainter_goOverPixel_325 ?_
            obtain ⟨i113, ei113, h⟩ := zoL_s h
            rw [← ei113]
            obtain ⟨le115, hs114, h⟩ := zoS_s h
            obtain ⟨hi116, h⟩ := zoI_s h
            refine zr_lald F zd_MPainter_goOverPixel_326 (zW_a2 hs114) hi116 ?_
            refine zr_lmul F zd_MPainter_goOverPixel_327 ?_
            refine zr_ladd F zd_MPainter_goOverPixel_328 ?_
            refine zr_lload F zd_MPainter_goOverPixel_329 rfl ?_
            refine zr_aload_n F zd_MPainter_goOverPixel_331 rfl ?_
            obtain ⟨le118, hs117, h⟩ := zoS_s h
            obtain ⟨a119, ea119, h⟩ := zoB_s h
            refine zr_get F 13 23 zd_MPainter_goOverPixel_332 (zW_o hs117 (by decide)) rfl (by decide) zw_1603 rfl (by rfl) ?_
            refine zr_tor ea119 ?_
            refine zr_bipushv (v := 6) F zd_MPainter_goOverPixel_335 (by decide) ?_
            refine zr_pcn 337 rfl ?_
            refine zr_iload F zd_MPainter_goOverPixel_337 rfl ?_
            refine zr_imul F zd_MPainter_goOverPixel_339 ?_
            refine zr_iconstv (v := 5) F zd_MPainter_goOverPixel_340 (by decide) ?_
            refine zr_iadd F zd_MPainter_goOverPixel_341 ?_
            obtain ⟨i120, ei120, h⟩ := zoL_s h
            rw [← ei120]
            obtain ⟨le122, hs121, h⟩ := zoS_s h
            obtain ⟨hi123, h⟩ := zoI_s h
            refine zr_lald F zd_MPainter_goOverPixel_342 (zW_a2 hs121) hi123 ?_
            refine zr_lmul F zd_MPainter_goOverPixel_343 ?_
            refine zr_ladd F zd_MPainter_goOverPixel_344 ?_
            refine zr_lload F zd_MPainter_goOverPixel_345 rfl ?_
            refine zr_pcn 347 rfl ?_
            obtain ⟨x124, ex124, h⟩ := zoL_s h
            rw [← ex124]
            obtain ⟨p125, ep125, h⟩ := zoB_s h
            refine zr_callS1 F (k_MPainter_div l D tA b sh _ ep125) zd_MPainter_goOverPixel_347 zs_MPainter_103 zq_MPainter_div rfl rfl ⟨(Nat.le_of_ble_eq_true rfl), (Nat.le_of_ble_eq_true rfl)⟩ (Nat.le_of_ble_eq_true rfl) ⟨(Nat.le_of_ble_eq_true rfl), (Nat.le_of_ble_eq_true rfl)⟩ ?_
            refine zr_lstore F zd_MPainter_goOverPixel_350 (by decide) ?_
            refine zr_aload_n F zd_MPainter_goOverPixel_352 rfl ?_
            refine zr_iload_n F zd_MPainter_goOverPixel_353 rfl ?_
            obtain ⟨le127, hs126, h⟩ := zoS_s h
            obtain ⟨p128, ep128, h⟩ := zoB_s h
            refine zr_callV1 F (k_MPainter_materialOf l D tA b sh _ ep128) zd_MPainter_goOverPixel_354 (zW_o hs126 (by decide)) rfl zs_MPainter_180 rfl zq_MPainter_materialOf rfl rfl ⟨(Nat.le_of_ble_eq_true rfl), (Nat.le_of_ble_eq_true rfl)⟩ (Nat.le_of_ble_eq_true rfl) ⟨(Nat.le_of_ble_eq_true rfl), (Nat.le_of_ble_eq_true rfl)⟩ ?_
            refine zr_istore F zd_MPainter_goOverPixel_357 (by decide) ?_
            refine zr_aload_n F zd_MPainter_goOverPixel_359 rfl ?_
            refine zr_iload F zd_MPainter_goOverPixel_360 rfl ?_
            refine zr_pcn 362 rfl ?_
            refine zr_iload_n F zd_MPainter_goOverPixel_362 rfl ?_
            refine zr_iload F zd_MPainter_goOverPixel_363 rfl ?_
            refine zr_lload F zd_MPainter_goOverPixel_365 rfl ?_
            refine zr_lload F zd_MPainter_goOverPixel_367 rfl ?_
            refine zr_lload F zd_MPainter_goOverPixel_369 rfl ?_
            refine zr_lload F zd_MPainter_goOverPixel_371 rfl ?_
            obtain ⟨le130, hs129, h⟩ := zoS_s h
            obtain ⟨p131, ep131, h⟩ := zoB_s h
            refine zr_callV0 F (k_MPainter_colour l D tA b sh _ ep131) zd_MPainter_goOverPixel_373 (zW_o hs129 (by decide)) rfl zs_MPainter_303 rfl zq_MPainter_colour rfl rfl ⟨(Nat.le_of_ble_eq_true rfl), (Nat.le_of_ble_eq_true rfl)⟩ (Nat.le_of_ble_eq_true rfl) ⟨(Nat.le_of_ble_eq_true rfl), (Nat.le_of_ble_eq_true rfl)⟩ ?_
            refine zr_aload_n F zd_MPainter_goOverPixel_376 rfl ?_
            refine zr_pcn 377 rfl ?_
            obtain ⟨le133, hs132, h⟩ := zoS_s h
            obtain ⟨a134, ea134, h⟩ := zoB_s h
            refine zr_get F 13 5 zd_MPainter_goOverPixel_377 (zW_o hs132 (by decide)) rfl (by decide) zw_1581 rfl (by rfl) ?_
            refine zr_tor ea134 ?_
            obtain ⟨le136, hs135, h⟩ := zoS_s h
            obtain ⟨a137, ea137, h⟩ := zoB_s h
            refine zr_get F 15 9 zd_MPainter_goOverPixel_380 (zW_o hs135 (by decide)) rfl (by decide) zw_1345 rfl (by rfl) ?_
            refine zr_tor ea137 ?_
            refine zr_iconstv (v := 4) F zd_MPainter_goOverPixel_383 (by decide) ?_
            refine zr_iload F zd_MPainter_goOverPixel_384 rfl ?_
            refine zr_imul F zd_MPainter_goOverPixel_386 ?_
            refine zr_iconstv (v := 3) F zd_MPainter_goOverPixel_387 (by decide) ?_
            refine zr_iadd F zd_MPainter_goOverPixel_388 ?_
            obtain ⟨i138, ei138, h⟩ := zoL_s h
            rw [← ei138]
            obtain ⟨le140, hs139, h⟩ := zoS_s h
            obtain ⟨hi141, h⟩ := zoI_s h
            refine zr_iald F zd_MPainter_goOverPixel_389 (zW_a0 hs139) hi141 ?_
            refine zr_pcn 390 rfl ?_
            refine zr_i2l F zd_MPainter_goOverPixel_390 ?_
            obtain ⟨x142, ex142, h⟩ := zoL_s h
            rw [← ex142]
            refine zr_lstore F zd_MPainter_goOverPixel_391 (by decide) ?_
            refine zr_iconstv (v := 0) F zd_MPainter_goOverPixel_393 (by decide) ?_
            refine zr_istore F zd_MPainter_goOverPixel_394 (by decide) ?_
            obtain ⟨q182, eq182, h⟩ := zoB_s h
            refine zr_loc (L' := [(0, .ref (b + o)), (21, .long (p46.1)), (23, .int x52), (31, .long x142), (33, .int 0)]) ⟨rfl, rfl, rfl, rfl, rfl, trivial⟩ ?_
            refine lp_MPainter_goOverPixel_396 F _ _ _ _ _ _ _ _ eq182 ?_
            ·
              refine zr_lload F zd_MPainter_goOverPixel_481 rfl ?_
              refine zr_pcn 483 rfl ?_
              refine zr_ldc2 F zd_MPainter_goOverPixel_483 zw_2138 ?_
              refine zr_lcmp F zd_MPainter_goOverPixel_486 ?_
              refine zr_if_ne F 499 zd_MPainter_goOverPixel_487 (by decide) (fun hb183 => ?_) (fun hb183 => ?_)
              ·
                rw [if_neg hb183] at h
                obtain rfl := Option.some.inj h
                exact zr_vret F hr zd_MPainter_goOverPixel_499 (Nat.le_of_ble_eq_true rfl) (Nat.le_of_ble_eq_true rfl) ⟨rfl, rfl, rfl⟩
              ·
                rw [if_pos hb183] at h
                refine zr_aload_n F zd_MPainter_goOverPixel_490 rfl ?_
                obtain ⟨le185, hs184, h⟩ := zoS_s h
                obtain ⟨a186, ea186, h⟩ := zoB_s h
                refine zr_get F 13 4 zd_MPainter_goOverPixel_491 (zW_o hs184 (by decide)) rfl (by decide) zw_1580 rfl (by rfl) ?_
                refine zr_tor ea186 ?_
                refine zr_iload F zd_MPainter_goOverPixel_494 rfl ?_
                refine zr_lload F zd_MPainter_goOverPixel_496 rfl ?_
                refine zr_pcn 498 rfl ?_
                obtain ⟨le188, hs187, h⟩ := zoS_s h
                obtain ⟨hi189, h⟩ := zoI_s h
                refine zr_last F zd_MPainter_goOverPixel_498 (zW_a2 hs187) hi189 ?_
                obtain ⟨mm190, emm190, h⟩ := zoL_s h
                refine zr_norm (zW tA b sh mm190) _ (by rw [emm190]; exact zW_s2 hs187) rfl ?_
                obtain rfl := Option.some.inj h
                exact zr_vret F hr zd_MPainter_goOverPixel_499 (Nat.le_of_ble_eq_true rfl) (Nat.le_of_ble_eq_true rfl) ⟨rfl, rfl, rfl⟩
          ·
            rw [if_neg hb59] at h
            obtain rfl := Option.some.inj h
            exact zr_vret F hr zd_MPainter_goOverPixel_210 (Nat.le_of_ble_eq_true rfl) (Nat.le_of_ble_eq_true rfl) ⟨rfl, rfl, rfl⟩
        ·
          rw [if_pos hb49] at h
          refine zr_aload_n F zd_MPainter_goOverPixel_150 rfl ?_
          obtain ⟨le192, hs191, h⟩ := zoS_s h
          refine zr_get F 13 11 zd_MPainter_goOverPixel_151 (zW_o hs191 (by decide)) rfl (by decide) zw_1589 rfl (by rfl) ?_
          refine zr_iconstv (v := (-1)) F zd_MPainter_goOverPixel_154 (by decide) ?_
          refine zr_icmp_eq F 168 zd_MPainter_goOverPixel_155 (by decide) (fun hb193 => ?_) (fun hb193 => ?_)
          ·
            rw [if_pos hb193] at h
            refine zr_aload_n F zd_MPainter_goOverPixel_168 rfl ?_
            refine zr_pcn 169 rfl ?_
            refine zr_iload_n F zd_MPainter_goOverPixel_169 rfl ?_
            obtain ⟨le195, hs194, h⟩ := zoS_s h
            refine zr_put F 13 11 zd_MPainter_goOverPixel_170 (zW_o hs194 (by decide)) rfl (by decide) zw_1589 rfl rfl rfl rfl (by exact (Nat.le_of_ble_eq_true rfl)) ?_
            obtain ⟨mm196, emm196, h⟩ := zoL_s h
            refine zr_norm (zW tA b sh mm196) _ (by rw [emm196]; exact zW_pI (v := x0_) hs194 (by decide) (zf_I_13_11 b _ _ _)) rfl ?_
            refine zr_aload_n F zd_MPainter_goOverPixel_173 rfl ?_
            refine zr_iload_n F zd_MPainter_goOverPixel_174 rfl ?_
            obtain ⟨le198, hs197, h⟩ := zoS_s h
            refine zr_put F 13 12 zd_MPainter_goOverPixel_175 (zW_o hs197 (by decide)) rfl (by decide) zw_1591 rfl rfl rfl rfl (by exact (Nat.le_of_ble_eq_true rfl)) ?_
            obtain ⟨mm199, emm199, h⟩ := zoL_s h
            refine zr_norm (zW tA b sh mm199) _ (by rw [emm199]; exact zW_pI (v := x1_) hs197 (by decide) (zf_I_13_12 b _ _ _)) rfl ?_
            refine zr_aload_n F zd_MPainter_goOverPixel_178 rfl ?_
            refine zr_lload F zd_MPainter_goOverPixel_179 rfl ?_
            obtain ⟨le201, hs200, h⟩ := zoS_s h
            refine zr_put F 13 13 zd_MPainter_goOverPixel_181 (zW_o hs200 (by decide)) rfl (by decide) zw_1592 rfl rfl rfl rfl (by exact (Nat.le_of_ble_eq_true rfl)) ?_
            obtain ⟨mm202, emm202, h⟩ := zoL_s h
            refine zr_norm (zW tA b sh mm202) _ (by rw [emm202]; exact zW_pL (v := (p46.1)) hs200 (by decide) (zf_L_13_13 b _ _ _)) rfl ?_
            refine zr_pcn 184 rfl ?_
            obtain rfl := Option.some.inj h
            exact zr_vret F hr zd_MPainter_goOverPixel_184 (Nat.le_of_ble_eq_true rfl) (Nat.le_of_ble_eq_true rfl) ⟨rfl, rfl, rfl⟩
          ·
            rw [if_neg hb193] at h
            refine zr_lload F zd_MPainter_goOverPixel_158 rfl ?_
            refine zr_aload_n F zd_MPainter_goOverPixel_160 rfl ?_
            obtain ⟨le204, hs203, h⟩ := zoS_s h
            refine zr_get F 13 13 zd_MPainter_goOverPixel_161 (zW_o hs203 (by decide)) rfl (by decide) zw_1592 rfl (by rfl) ?_
            refine zr_lcmp F zd_MPainter_goOverPixel_164 ?_
            refine zr_if_le F 184 zd_MPainter_goOverPixel_165 (by decide) (fun hb205 => ?_) (fun hb205 => ?_)
            ·
              rw [if_pos hb205] at h
              obtain rfl := Option.some.inj h
              exact zr_vret F hr zd_MPainter_goOverPixel_184 (Nat.le_of_ble_eq_true rfl) (Nat.le_of_ble_eq_true rfl) ⟨rfl, rfl, rfl⟩
            ·
              rw [if_neg hb205] at h
              refine zr_aload_n F zd_MPainter_goOverPixel_168 rfl ?_
              refine zr_pcn 169 rfl ?_
              refine zr_iload_n F zd_MPainter_goOverPixel_169 rfl ?_
              obtain ⟨le207, hs206, h⟩ := zoS_s h
              refine zr_put F 13 11 zd_MPainter_goOverPixel_170 (zW_o hs206 (by decide)) rfl (by decide) zw_1589 rfl rfl rfl rfl (by exact (Nat.le_of_ble_eq_true rfl)) ?_
              obtain ⟨mm208, emm208, h⟩ := zoL_s h
              refine zr_norm (zW tA b sh mm208) _ (by rw [emm208]; exact zW_pI (v := x0_) hs206 (by decide) (zf_I_13_11 b _ _ _)) rfl ?_
              refine zr_aload_n F zd_MPainter_goOverPixel_173 rfl ?_
              refine zr_iload_n F zd_MPainter_goOverPixel_174 rfl ?_
              obtain ⟨le210, hs209, h⟩ := zoS_s h
              refine zr_put F 13 12 zd_MPainter_goOverPixel_175 (zW_o hs209 (by decide)) rfl (by decide) zw_1591 rfl rfl rfl rfl (by exact (Nat.le_of_ble_eq_true rfl)) ?_
              obtain ⟨mm211, emm211, h⟩ := zoL_s h
              refine zr_norm (zW tA b sh mm211) _ (by rw [emm211]; exact zW_pI (v := x1_) hs209 (by decide) (zf_I_13_12 b _ _ _)) rfl ?_
              refine zr_aload_n F zd_MPainter_goOverPixel_178 rfl ?_
              refine zr_lload F zd_MPainter_goOverPixel_179 rfl ?_
              obtain ⟨le213, hs212, h⟩ := zoS_s h
              refine zr_put F 13 13 zd_MPainter_goOverPixel_181 (zW_o hs212 (by decide)) rfl (by decide) zw_1592 rfl rfl rfl rfl (by exact (Nat.le_of_ble_eq_true rfl)) ?_
              obtain ⟨mm214, emm214, h⟩ := zoL_s h
              refine zr_norm (zW tA b sh mm214) _ (by rw [emm214]; exact zW_pL (v := (p46.1)) hs212 (by decide) (zf_L_13_13 b _ _ _)) rfl ?_
              refine zr_pcn 184 rfl ?_
              obtain rfl := Option.some.inj h
              exact zr_vret F hr zd_MPainter_goOverPixel_184 (Nat.le_of_ble_eq_true rfl) (Nat.le_of_ble_eq_true rfl) ⟨rfl, rfl, rfl⟩
      ·
        rw [if_pos hb14] at h
        obtain rfl := Option.some.inj h
        exact zr_vret F hr zd_MPainter_goOverPixel_63 (Nat.le_of_ble_eq_true rfl) (Nat.le_of_ble_eq_true rfl) ⟨rfl, rfl, rfl⟩
def F_OB_time (sh : zSh) (mm : zMem) (o : Nat) (x0_ : Int32) : Option (Int32 × zMem) := (if (sp_OB_within x0_ 0 1000000) = 0 then some (0, mm) else zoS (sh o) 0 (fun le4 => Option.bind (mm.2.2 o 5) (fun a5 => zoS (sh a5) 8 (fun le7 => Option.bind (F_XScene_moveTo sh mm a5 x0_) (fun p8 => some (1, p8))))))
set_option maxHeartbeats 4000000 in
set_option maxRecDepth 100000 in
theorem k_OB_time (l : Launch) (D : va_G) (tA : Nat → ClassId) (b : Nat) (sh : zSh) (n : Nat) {mm : zMem} {o : Nat} {x0_ : Int32} {r : (Int32 × zMem)} (h : F_OB_time sh mm o x0_ = some r) : zM l D tA b zy_OB_time zb_OB_time 2 (some .boolean) 5 128 0 0 [.ref (b + o), .int x0_] (zW tA b sh mm) n (zE (some (.int (r.1))) (zW tA b sh r.2) n) := by
  unfold F_OB_time at h
  refine zM_of (own := "OrreryBox") (plainFor_of_name (by decide)) rfl (Nat.le_of_ble_eq_true rfl) (fun p e s m below meth c F hr hin hH => ?_)
  refine zr_iload_n F zd_OB_time_0 rfl ?_
  refine zr_iconstv (v := 0) F zd_OB_time_1 (by decide) ?_
  refine zr_ldc F zd_OB_time_2 zw_552 ?_
  refine zr_callS1 F (c_OB_within l D tA b _ _ x0_ 0 1000000) zd_OB_time_4 zs_OB_97 zq_OB_within rfl rfl ⟨(Nat.le_of_ble_eq_true rfl), (Nat.le_of_ble_eq_true rfl)⟩ (Nat.le_of_ble_eq_true rfl) ⟨(Nat.le_of_ble_eq_true rfl), (Nat.le_of_ble_eq_true rfl)⟩ ?_
  refine zr_if_ne F 12 zd_OB_time_7 (by decide) (fun hb2 => ?_) (fun hb2 => ?_)
  ·
    rw [if_neg hb2] at h
    refine zr_aload_n F zd_OB_time_12 rfl ?_
    obtain ⟨le4, hs3, h⟩ := zoS_s h
    obtain ⟨a5, ea5, h⟩ := zoB_s h
    refine zr_get F 0 5 zd_OB_time_13 (zW_o hs3 (by decide)) rfl (by decide) zw_493 rfl (by rfl) ?_
    refine zr_tor ea5 ?_
    refine zr_pcn 16 rfl ?_
    refine zr_iload_n F zd_OB_time_16 rfl ?_
    obtain ⟨le7, hs6, h⟩ := zoS_s h
    obtain ⟨p8, ep8, h⟩ := zoB_s h
    refine zr_callV0 F (k_XScene_moveTo l D tA b sh _ ep8) zd_OB_time_17 (zW_o hs6 (by decide)) rfl zs_OB_102 rfl zq_XScene_moveTo rfl rfl ⟨(Nat.le_of_ble_eq_true rfl), (Nat.le_of_ble_eq_true rfl)⟩ (Nat.le_of_ble_eq_true rfl) ⟨(Nat.le_of_ble_eq_true rfl), (Nat.le_of_ble_eq_true rfl)⟩ ?_
    refine zr_iconstv (v := 1) F zd_OB_time_20 (by decide) ?_
    obtain rfl := Option.some.inj h
    exact zr_zret F hr rfl zd_OB_time_21 (Nat.le_of_ble_eq_true rfl) (Nat.le_of_ble_eq_true rfl) ⟨rfl, rfl, rfl⟩
  ·
    rw [if_pos hb2] at h
    refine zr_iconstv (v := 0) F zd_OB_time_10 (by decide) ?_
    obtain rfl := Option.some.inj h
    exact zr_zret F hr rfl zd_OB_time_11 (Nat.le_of_ble_eq_true rfl) (Nat.le_of_ble_eq_true rfl) ⟨rfl, rfl, rfl⟩
abbrev zb_XPacker_packRows : ByteArray := prog_5_method_15_code
def zy_XPacker_packRows : MethodName := ⟨"OrreryBox$Packer", "packRows", "()V"⟩
theorem zc_XPacker_packRows : Cond.code zy_XPacker_packRows zb_XPacker_packRows 3 none ∈ gw := gw_t 1011 (by decide +kernel) rfl
theorem zq_XPacker_packRows : zy_XPacker_packRows.cls ≠ "java/lang/invoke/MethodHandle" ∧ zy_XPacker_packRows.cls ≠ "java/lang/invoke/VarHandle" ∧ (parseMethodDescriptor zy_XPacker_packRows.desc).map (fun d => d.parameters.length) = some 0 := by decide +kernel
theorem zd_XPacker_packRows_0 : decode zb_XPacker_packRows 0 = .ok (.aload_n 0, 1) := by decide +kernel
theorem zd_XPacker_packRows_1 : decode zb_XPacker_packRows 1 = .ok (.iconst 0, 1) := by decide +kernel
theorem zd_XPacker_packRows_2 : decode zb_XPacker_packRows 2 = .ok (.putfield 112, 3) := by decide +kernel
theorem zd_XPacker_packRows_5 : decode zb_XPacker_packRows 5 = .ok (.aload_n 0, 1) := by decide +kernel
theorem zd_XPacker_packRows_6 : decode zb_XPacker_packRows 6 = .ok (.iconst 0, 1) := by decide +kernel
theorem zd_XPacker_packRows_7 : decode zb_XPacker_packRows 7 = .ok (.putfield 115, 3) := by decide +kernel
theorem zd_XPacker_packRows_10 : decode zb_XPacker_packRows 10 = .ok (.iconst 0, 1) := by decide +kernel
theorem zd_XPacker_packRows_11 : decode zb_XPacker_packRows 11 = .ok (.istore_n 1, 1) := by decide +kernel
theorem zd_XPacker_packRows_12 : decode zb_XPacker_packRows 12 = .ok (.iload_n 1, 1) := by decide +kernel
theorem zd_XPacker_packRows_13 : decode zb_XPacker_packRows 13 = .ok (.sipush 4096, 3) := by decide +kernel
theorem zd_XPacker_packRows_16 : decode zb_XPacker_packRows 16 = .ok (.if_icmp .ge 16, 3) := by decide +kernel
theorem zd_XPacker_packRows_19 : decode zb_XPacker_packRows 19 = .ok (.aload_n 0, 1) := by decide +kernel
theorem zd_XPacker_packRows_20 : decode zb_XPacker_packRows 20 = .ok (.getfield 22, 3) := by decide +kernel
theorem zd_XPacker_packRows_23 : decode zb_XPacker_packRows 23 = .ok (.iload_n 1, 1) := by decide +kernel
theorem zd_XPacker_packRows_24 : decode zb_XPacker_packRows 24 = .ok (.iconst (-1), 1) := by decide +kernel
theorem zd_XPacker_packRows_25 : decode zb_XPacker_packRows 25 = .ok (.iastore, 1) := by decide +kernel
theorem zd_XPacker_packRows_26 : decode zb_XPacker_packRows 26 = .ok (.iinc 1 1, 3) := by decide +kernel
theorem zd_XPacker_packRows_29 : decode zb_XPacker_packRows 29 = .ok (.goto (-17), 3) := by decide +kernel
theorem zd_XPacker_packRows_32 : decode zb_XPacker_packRows 32 = .ok (.aload_n 0, 1) := by decide +kernel
theorem zd_XPacker_packRows_33 : decode zb_XPacker_packRows 33 = .ok (.iconst 3, 1) := by decide +kernel
theorem zd_XPacker_packRows_34 : decode zb_XPacker_packRows 34 = .ok (.iconst 3, 1) := by decide +kernel
theorem zd_XPacker_packRows_35 : decode zb_XPacker_packRows 35 = .ok (.invokevirtual 118, 3) := by decide +kernel
theorem zd_XPacker_packRows_38 : decode zb_XPacker_packRows 38 = .ok (.iconst 0, 1) := by decide +kernel
theorem zd_XPacker_packRows_39 : decode zb_XPacker_packRows 39 = .ok (.istore_n 1, 1) := by decide +kernel
theorem zd_XPacker_packRows_40 : decode zb_XPacker_packRows 40 = .ok (.iload_n 1, 1) := by decide +kernel
theorem zd_XPacker_packRows_41 : decode zb_XPacker_packRows 41 = .ok (.aload_n 0, 1) := by decide +kernel
theorem zd_XPacker_packRows_42 : decode zb_XPacker_packRows 42 = .ok (.getfield 70, 3) := by decide +kernel
theorem zd_XPacker_packRows_45 : decode zb_XPacker_packRows 45 = .ok (.if_icmp .ge 75, 3) := by decide +kernel
theorem zd_XPacker_packRows_48 : decode zb_XPacker_packRows 48 = .ok (.aload_n 0, 1) := by decide +kernel
theorem zd_XPacker_packRows_49 : decode zb_XPacker_packRows 49 = .ok (.iload_n 1, 1) := by decide +kernel
theorem zd_XPacker_packRows_50 : decode zb_XPacker_packRows 50 = .ok (.invokevirtual 121, 3) := by decide +kernel
theorem zd_XPacker_packRows_53 : decode zb_XPacker_packRows 53 = .ok (.iload_n 1, 1) := by decide +kernel
theorem zd_XPacker_packRows_54 : decode zb_XPacker_packRows 54 = .ok (.iconst 1, 1) := by decide +kernel
theorem zd_XPacker_packRows_55 : decode zb_XPacker_packRows 55 = .ok (.iadd, 1) := by decide +kernel
theorem zd_XPacker_packRows_56 : decode zb_XPacker_packRows 56 = .ok (.istore_n 2, 1) := by decide +kernel
theorem zd_XPacker_packRows_57 : decode zb_XPacker_packRows 57 = .ok (.aload_n 0, 1) := by decide +kernel
theorem zd_XPacker_packRows_58 : decode zb_XPacker_packRows 58 = .ok (.getfield 124, 3) := by decide +kernel
theorem zd_XPacker_packRows_61 : decode zb_XPacker_packRows 61 = .ok (.iconst 3, 1) := by decide +kernel
theorem zd_XPacker_packRows_62 : decode zb_XPacker_packRows 62 = .ok (.if_icmp .lt 29, 3) := by decide +kernel
theorem zd_XPacker_packRows_65 : decode zb_XPacker_packRows 65 = .ok (.aload_n 0, 1) := by decide +kernel
theorem zd_XPacker_packRows_66 : decode zb_XPacker_packRows 66 = .ok (.aload_n 0, 1) := by decide +kernel
theorem zd_XPacker_packRows_67 : decode zb_XPacker_packRows 67 = .ok (.getfield 124, 3) := by decide +kernel
theorem zd_XPacker_packRows_70 : decode zb_XPacker_packRows 70 = .ok (.invokevirtual 127, 3) := by decide +kernel
theorem zd_XPacker_packRows_73 : decode zb_XPacker_packRows 73 = .ok (.aload_n 0, 1) := by decide +kernel
theorem zd_XPacker_packRows_74 : decode zb_XPacker_packRows 74 = .ok (.aload_n 0, 1) := by decide +kernel
theorem zd_XPacker_packRows_75 : decode zb_XPacker_packRows 75 = .ok (.getfield 130, 3) := by decide +kernel
theorem zd_XPacker_packRows_78 : decode zb_XPacker_packRows 78 = .ok (.invokevirtual 133, 3) := by decide +kernel
theorem zd_XPacker_packRows_81 : decode zb_XPacker_packRows 81 = .ok (.iload_n 1, 1) := by decide +kernel
theorem zd_XPacker_packRows_82 : decode zb_XPacker_packRows 82 = .ok (.aload_n 0, 1) := by decide +kernel
theorem zd_XPacker_packRows_83 : decode zb_XPacker_packRows 83 = .ok (.getfield 124, 3) := by decide +kernel
theorem zd_XPacker_packRows_86 : decode zb_XPacker_packRows 86 = .ok (.iadd, 1) := by decide +kernel
theorem zd_XPacker_packRows_87 : decode zb_XPacker_packRows 87 = .ok (.istore_n 2, 1) := by decide +kernel
theorem zd_XPacker_packRows_88 : decode zb_XPacker_packRows 88 = .ok (.goto 13, 3) := by decide +kernel
theorem zd_XPacker_packRows_91 : decode zb_XPacker_packRows 91 = .ok (.aload_n 0, 1) := by decide +kernel
theorem zd_XPacker_packRows_92 : decode zb_XPacker_packRows 92 = .ok (.aload_n 0, 1) := by decide +kernel
theorem zd_XPacker_packRows_93 : decode zb_XPacker_packRows 93 = .ok (.getfield 19, 3) := by decide +kernel
theorem zd_XPacker_packRows_96 : decode zb_XPacker_packRows 96 = .ok (.iload_n 1, 1) := by decide +kernel
theorem zd_XPacker_packRows_97 : decode zb_XPacker_packRows 97 = .ok (.iaload, 1) := by decide +kernel
theorem zd_XPacker_packRows_98 : decode zb_XPacker_packRows 98 = .ok (.invokevirtual 136, 3) := by decide +kernel
theorem zd_XPacker_packRows_101 : decode zb_XPacker_packRows 101 = .ok (.iload_n 1, 1) := by decide +kernel
theorem zd_XPacker_packRows_102 : decode zb_XPacker_packRows 102 = .ok (.iload_n 2, 1) := by decide +kernel
theorem zd_XPacker_packRows_103 : decode zb_XPacker_packRows 103 = .ok (.if_icmp .ge 14, 3) := by decide +kernel
theorem zd_XPacker_packRows_106 : decode zb_XPacker_packRows 106 = .ok (.aload_n 0, 1) := by decide +kernel
theorem zd_XPacker_packRows_107 : decode zb_XPacker_packRows 107 = .ok (.iload_n 1, 1) := by decide +kernel
theorem zd_XPacker_packRows_108 : decode zb_XPacker_packRows 108 = .ok (.invokevirtual 139, 3) := by decide +kernel
theorem zd_XPacker_packRows_111 : decode zb_XPacker_packRows 111 = .ok (.iinc 1 1, 3) := by decide +kernel
theorem zd_XPacker_packRows_114 : decode zb_XPacker_packRows 114 = .ok (.goto (-13), 3) := by decide +kernel
theorem zd_XPacker_packRows_117 : decode zb_XPacker_packRows 117 = .ok (.goto (-77), 3) := by decide +kernel
theorem zd_XPacker_packRows_120 : decode zb_XPacker_packRows 120 = .ok (.aload_n 0, 1) := by decide +kernel
theorem zd_XPacker_packRows_121 : decode zb_XPacker_packRows 121 = .ok (.sipush 256, 3) := by decide +kernel
theorem zd_XPacker_packRows_124 : decode zb_XPacker_packRows 124 = .ok (.invokevirtual 136, 3) := by decide +kernel
theorem zd_XPacker_packRows_127 : decode zb_XPacker_packRows 127 = .ok (.aload_n 0, 1) := by decide +kernel
theorem zd_XPacker_packRows_128 : decode zb_XPacker_packRows 128 = .ok (.iconst 0, 1) := by decide +kernel
theorem zd_XPacker_packRows_129 : decode zb_XPacker_packRows 129 = .ok (.bipush 8, 2) := by decide +kernel
theorem zd_XPacker_packRows_131 : decode zb_XPacker_packRows 131 = .ok (.aload_n 0, 1) := by decide +kernel
theorem zd_XPacker_packRows_132 : decode zb_XPacker_packRows 132 = .ok (.getfield 115, 3) := by decide +kernel
theorem zd_XPacker_packRows_135 : decode zb_XPacker_packRows 135 = .ok (.isub, 1) := by decide +kernel
theorem zd_XPacker_packRows_136 : decode zb_XPacker_packRows 136 = .ok (.bipush 7, 2) := by decide +kernel
theorem zd_XPacker_packRows_138 : decode zb_XPacker_packRows 138 = .ok (.iand, 1) := by decide +kernel
theorem zd_XPacker_packRows_139 : decode zb_XPacker_packRows 139 = .ok (.invokevirtual 118, 3) := by decide +kernel
theorem zd_XPacker_packRows_142 : decode zb_XPacker_packRows 142 = .ok (.return_, 1) := by decide +kernel
def L_XPacker_packRows_12 (sh : zSh) (fuel : Nat) (v0 : Nat) (v1 : Int32) (mm : zMem) : Option (Nat × Int32 × zMem) := match fuel with
  | 0 => none
  | fu + 1 => (if 4096 ≤ v1 then some (v0, v1, mm) else zoS (sh v0) 4 (fun le9 => Option.bind (mm.2.2 v0 5) (fun a10 => zoS (sh a10) 100 (fun le12 => if (v1 : Int32) < 0 ∨ le12 ≤ (v1 : Int32).toNatClampNeg then none else zoL (mI mm a10 (v1 : Int32).toNatClampNeg (-1)) (fun mm14 => L_XPacker_packRows_12 sh fu v0 (v1 + 1) mm14)))))
set_option maxHeartbeats 4000000 in
set_option maxRecDepth 100000 in
theorem lp_XPacker_packRows_12 {p : Program} {l : Launch} {e : Env} {s : State} {m : MethodId} {args : Array Value} {below : List Frame} {meth : Method} {c : Code} {D : va_G} {tA : Nat → ClassId} {b n : Nat} {post : Option Value → zV → Nat → Prop} {sh : zSh} (F : zF p s m args meth c zb_XPacker_packRows 3 "OrreryBox$Packer" D tA b) : ∀ (fuel : Nat) (v0 : Nat) (v1 : Int32) (mm : zMem) (r : Nat × Int32 × zMem), L_XPacker_packRows_12 sh fuel v0 v1 mm = some r → (Z p l e { frames := 4, cells := 0, slots := 0, locals := 88 } s m args below meth c D b 3 (MQ below (zQ D b post) args s 0 0 (fun q => b ≤ q)) (zW tA b sh r.2.2) n 0 0 32 [(0, .ref (b + (r.1))), (1, .int (r.2.1))] []) → Z p l e { frames := 4, cells := 0, slots := 0, locals := 88 } s m args below meth c D b 3 (MQ below (zQ D b post) args s 0 0 (fun q => b ≤ q)) (zW tA b sh mm) n 0 0 12 [(0, .ref (b + v0)), (1, .int v1)] [] := by
  intro fuel
  induction fuel with
  | zero =>
    intro v0 v1 mm r h
    cases h
  | succ fu ih =>
    intro v0 v1 mm r h hx0
    rw [L_XPacker_packRows_12] at h
    refine zr_iload_n F zd_XPacker_packRows_12 rfl ?_
    refine zr_sipushv (v := 4096) F zd_XPacker_packRows_13 (by decide) ?_
    refine zr_icmp_ge F 32 zd_XPacker_packRows_16 (by decide) (fun hb7 => ?_) (fun hb7 => ?_)
    ·
      rw [if_pos hb7] at h
      obtain rfl := Option.some.inj h
      refine zr_loc (L' := [(0, .ref (b + v0)), (1, .int v1)]) ⟨rfl, rfl, trivial⟩ ?_
      exact hx0 
    ·
      rw [if_neg hb7] at h
      refine zr_aload_n F zd_XPacker_packRows_19 rfl ?_
      obtain ⟨le9, hs8, h⟩ := zoS_s h
      obtain ⟨a10, ea10, h⟩ := zoB_s h
      refine zr_get F 4 5 zd_XPacker_packRows_20 (zW_o hs8 (by decide)) rfl (by decide) zw_88 rfl (by rfl) ?_
      refine zr_tor ea10 ?_
      refine zr_iload_n F zd_XPacker_packRows_23 rfl ?_
      refine zr_iconstv (v := (-1)) F zd_XPacker_packRows_24 (by decide) ?_
      refine zr_pcn 25 rfl ?_
      obtain ⟨le12, hs11, h⟩ := zoS_s h
      obtain ⟨hi13, h⟩ := zoI_s h
      refine zr_iast F zd_XPacker_packRows_25 (zW_a0 hs11) hi13 ?_
      obtain ⟨mm14, emm14, h⟩ := zoL_s h
      refine zr_norm (zW tA b sh mm14) _ (by rw [emm14]; exact zW_s0 hs11) rfl ?_
      refine zr_iinc (v := (v1 + 1)) F zd_XPacker_packRows_26 rfl rfl (by decide) ?_
      refine zr_goto F 12 zd_XPacker_packRows_29 (by decide) ?_
      refine zr_loc (L' := [(0, .ref (b + v0)), (1, .int (v1 + 1))]) ⟨rfl, rfl, trivial⟩ ?_
      exact ih _ _ _ _ h hx0
theorem zw_1020 : (Jvm.Cond.methodLink "OrreryBox$Packer" (121 : Nat) ({ cls := "OrreryBox$Packer", name := "findRun", desc := "(I)V" } : Jvm.MethodName)) ∈ gw := gw_t 1020 (by decide +kernel) rfl
theorem zw_1022 : (Jvm.Cond.instanceMethod ({ cls := "OrreryBox$Packer", name := "findRun", desc := "(I)V" } : Jvm.MethodName)) ∈ gw := gw_t 1022 (by decide +kernel) rfl
theorem zv_37 : (Jvm.Cond.selects "OrreryBox$Packer" (⟨"OrreryBox$Packer", "findRun", "(I)V"⟩ : MethodName) ⟨"OrreryBox$Packer", "findRun", "(I)V"⟩) ∈ gw := gw_s 37 (by decide +kernel) rfl
theorem zs_XPacker_121 : zwV "OrreryBox$Packer" 121 "OrreryBox$Packer" zy_XPacker_findRun zb_XPacker_findRun 6 none := ⟨zw_1020, zw_1022, zv_37, zw_3, zc_XPacker_findRun⟩
theorem zw_1048 : (Jvm.Cond.methodLink "OrreryBox$Packer" (139 : Nat) ({ cls := "OrreryBox$Packer", name := "remember", desc := "(I)V" } : Jvm.MethodName)) ∈ gw := gw_t 1048 (by decide +kernel) rfl
theorem zw_1050 : (Jvm.Cond.instanceMethod ({ cls := "OrreryBox$Packer", name := "remember", desc := "(I)V" } : Jvm.MethodName)) ∈ gw := gw_t 1050 (by decide +kernel) rfl
theorem zv_44 : (Jvm.Cond.selects "OrreryBox$Packer" (⟨"OrreryBox$Packer", "remember", "(I)V"⟩ : MethodName) ⟨"OrreryBox$Packer", "remember", "(I)V"⟩) ∈ gw := gw_s 44 (by decide +kernel) rfl
theorem zs_XPacker_139 : zwV "OrreryBox$Packer" 139 "OrreryBox$Packer" zy_XPacker_remember zb_XPacker_remember 3 none := ⟨zw_1048, zw_1050, zv_44, zw_3, zc_XPacker_remember⟩
def L_XPacker_packRows_101 (sh : zSh) (fuel : Nat) (v0 : Nat) (v1 : Int32) (v2 : Int32) (mm : zMem) : Option (Nat × Int32 × Int32 × zMem) := match fuel with
  | 0 => none
  | fu + 1 => (if v2 ≤ v1 then some (v0, v1, v2, mm) else zoS (sh v0) 4 (fun le41 => Option.bind (F_XPacker_remember sh mm v0 v1) (fun p42 => L_XPacker_packRows_101 sh fu v0 (v1 + 1) v2 p42)))
set_option maxHeartbeats 4000000 in
set_option maxRecDepth 100000 in
theorem lp_XPacker_packRows_101 {p : Program} {l : Launch} {e : Env} {s : State} {m : MethodId} {args : Array Value} {below : List Frame} {meth : Method} {c : Code} {D : va_G} {tA : Nat → ClassId} {b n : Nat} {post : Option Value → zV → Nat → Prop} {sh : zSh} (F : zF p s m args meth c zb_XPacker_packRows 3 "OrreryBox$Packer" D tA b) : ∀ (fuel : Nat) (v0 : Nat) (v1 : Int32) (v2 : Int32) (mm : zMem) (r : Nat × Int32 × Int32 × zMem), L_XPacker_packRows_101 sh fuel v0 v1 v2 mm = some r → (Z p l e { frames := 4, cells := 0, slots := 0, locals := 88 } s m args below meth c D b 3 (MQ below (zQ D b post) args s 0 0 (fun q => b ≤ q)) (zW tA b sh r.2.2.2) n 0 0 117 [(0, .ref (b + (r.1))), (1, .int (r.2.1)), (2, .int (r.2.2.1))] []) → Z p l e { frames := 4, cells := 0, slots := 0, locals := 88 } s m args below meth c D b 3 (MQ below (zQ D b post) args s 0 0 (fun q => b ≤ q)) (zW tA b sh mm) n 0 0 101 [(0, .ref (b + v0)), (1, .int v1), (2, .int v2)] [] := by
  intro fuel
  induction fuel with
  | zero =>
    intro v0 v1 v2 mm r h
    cases h
  | succ fu ih =>
    intro v0 v1 v2 mm r h hx0
    rw [L_XPacker_packRows_101] at h
    refine zr_iload_n F zd_XPacker_packRows_101 rfl ?_
    refine zr_iload_n F zd_XPacker_packRows_102 rfl ?_
    refine zr_pcn 103 rfl ?_
    refine zr_icmp_ge F 117 zd_XPacker_packRows_103 (by decide) (fun hb39 => ?_) (fun hb39 => ?_)
    ·
      rw [if_pos hb39] at h
      obtain rfl := Option.some.inj h
      refine zr_loc (L' := [(0, .ref (b + v0)), (1, .int v1), (2, .int v2)]) ⟨rfl, rfl, rfl, trivial⟩ ?_
      exact hx0 
    ·
      rw [if_neg hb39] at h
      refine zr_aload_n F zd_XPacker_packRows_106 rfl ?_
      refine zr_iload_n F zd_XPacker_packRows_107 rfl ?_
      obtain ⟨le41, hs40, h⟩ := zoS_s h
      obtain ⟨p42, ep42, h⟩ := zoB_s h
      refine zr_callV0 F (k_XPacker_remember l D tA b sh _ ep42) zd_XPacker_packRows_108 (zW_o hs40 (by decide)) rfl zs_XPacker_139 rfl zq_XPacker_remember rfl rfl ⟨(Nat.le_of_ble_eq_true rfl), (Nat.le_of_ble_eq_true rfl)⟩ (Nat.le_of_ble_eq_true rfl) ⟨(Nat.le_of_ble_eq_true rfl), (Nat.le_of_ble_eq_true rfl)⟩ ?_
      refine zr_iinc (v := (v1 + 1)) F zd_XPacker_packRows_111 rfl rfl (by decide) ?_
      refine zr_goto F 101 zd_XPacker_packRows_114 (by decide) ?_
      refine zr_loc (L' := [(0, .ref (b + v0)), (1, .int (v1 + 1)), (2, .int v2)]) ⟨rfl, rfl, rfl, trivial⟩ ?_
      exact ih _ _ _ _ _ h hx0
theorem zw_1032 : (Jvm.Cond.methodLink "OrreryBox$Packer" (127 : Nat) ({ cls := "OrreryBox$Packer", name := "putLength", desc := "(I)V" } : Jvm.MethodName)) ∈ gw := gw_t 1032 (by decide +kernel) rfl
theorem zw_1034 : (Jvm.Cond.instanceMethod ({ cls := "OrreryBox$Packer", name := "putLength", desc := "(I)V" } : Jvm.MethodName)) ∈ gw := gw_t 1034 (by decide +kernel) rfl
theorem zv_40 : (Jvm.Cond.selects "OrreryBox$Packer" (⟨"OrreryBox$Packer", "putLength", "(I)V"⟩ : MethodName) ⟨"OrreryBox$Packer", "putLength", "(I)V"⟩) ∈ gw := gw_s 40 (by decide +kernel) rfl
theorem zs_XPacker_127 : zwV "OrreryBox$Packer" 127 "OrreryBox$Packer" zy_XPacker_putLength zb_XPacker_putLength 4 none := ⟨zw_1032, zw_1034, zv_40, zw_3, zc_XPacker_putLength⟩
theorem zw_1044 : (Jvm.Cond.methodLink "OrreryBox$Packer" (133 : Nat) ({ cls := "OrreryBox$Packer", name := "putDistance", desc := "(I)V" } : Jvm.MethodName)) ∈ gw := gw_t 1044 (by decide +kernel) rfl
theorem zw_1046 : (Jvm.Cond.instanceMethod ({ cls := "OrreryBox$Packer", name := "putDistance", desc := "(I)V" } : Jvm.MethodName)) ∈ gw := gw_t 1046 (by decide +kernel) rfl
theorem zv_43 : (Jvm.Cond.selects "OrreryBox$Packer" (⟨"OrreryBox$Packer", "putDistance", "(I)V"⟩ : MethodName) ⟨"OrreryBox$Packer", "putDistance", "(I)V"⟩) ∈ gw := gw_s 43 (by decide +kernel) rfl
theorem zs_XPacker_133 : zwV "OrreryBox$Packer" 133 "OrreryBox$Packer" zy_XPacker_putDistance zb_XPacker_putDistance 4 none := ⟨zw_1044, zw_1046, zv_43, zw_3, zc_XPacker_putDistance⟩
def L_XPacker_packRows_40 (sh : zSh) (fuel : Nat) (v0 : Nat) (v1 : Int32) (mm : zMem) : Option (Nat × Int32 × zMem) := match fuel with
  | 0 => none
  | fu + 1 => zoS (sh v0) 4 (fun le20 => (if (mm.1 v0 4) ≤ v1 then some (v0, v1, mm) else zoS (sh v0) 4 (fun le23 => Option.bind (F_XPacker_findRun sh mm v0 v1) (fun p24 => zoL (v1 + 1) (fun x25 => zoS (sh v0) 4 (fun le27 => (if (p24.1 v0 7) < 3 then zoS (sh v0) 4 (fun le30 => Option.bind (p24.2.2 v0 3) (fun a31 => zoS (sh a31) 100 (fun le33 => if (v1 : Int32) < 0 ∨ le33 ≤ (v1 : Int32).toNatClampNeg then none else zoS (sh v0) 4 (fun le36 => zoL (p24.1 a31 (v1 : Int32).toNatClampNeg) (fun x37 => Option.bind (F_XPacker_putSign sh p24 v0 x37) (fun p38 => Option.bind (L_XPacker_packRows_101 sh zfuel v0 v1 x25 p38) (fun q43 => L_XPacker_packRows_40 sh fu (q43.1) (q43.2.1) (q43.2.2.2)))))))) else zoS (sh v0) 4 (fun le45 => zoS (sh v0) 4 (fun le47 => Option.bind (F_XPacker_putLength sh p24 v0 (p24.1 v0 7)) (fun p48 => zoS (sh v0) 4 (fun le50 => zoS (sh v0) 4 (fun le52 => Option.bind (F_XPacker_putDistance sh p48 v0 (p48.1 v0 8)) (fun p53 => zoS (sh v0) 4 (fun le55 => zoL (v1 + (p53.1 v0 7)) (fun x56 => Option.bind (L_XPacker_packRows_101 sh zfuel v0 v1 x56 p53) (fun q57 => L_XPacker_packRows_40 sh fu (q57.1) (q57.2.1) (q57.2.2.2)))))))))))))))))
set_option maxHeartbeats 4000000 in
set_option maxRecDepth 100000 in
theorem lp_XPacker_packRows_40 {p : Program} {l : Launch} {e : Env} {s : State} {m : MethodId} {args : Array Value} {below : List Frame} {meth : Method} {c : Code} {D : va_G} {tA : Nat → ClassId} {b n : Nat} {post : Option Value → zV → Nat → Prop} {sh : zSh} (F : zF p s m args meth c zb_XPacker_packRows 3 "OrreryBox$Packer" D tA b) : ∀ (fuel : Nat) (v0 : Nat) (v1 : Int32) (mm : zMem) (r : Nat × Int32 × zMem), L_XPacker_packRows_40 sh fuel v0 v1 mm = some r → (Z p l e { frames := 4, cells := 0, slots := 0, locals := 88 } s m args below meth c D b 3 (MQ below (zQ D b post) args s 0 0 (fun q => b ≤ q)) (zW tA b sh r.2.2) n 0 0 120 [(0, .ref (b + (r.1))), (1, .int (r.2.1))] []) → Z p l e { frames := 4, cells := 0, slots := 0, locals := 88 } s m args below meth c D b 3 (MQ below (zQ D b post) args s 0 0 (fun q => b ≤ q)) (zW tA b sh mm) n 0 0 40 [(0, .ref (b + v0)), (1, .int v1)] [] := by
  intro fuel
  induction fuel with
  | zero =>
    intro v0 v1 mm r h
    cases h
  | succ fu ih =>
    intro v0 v1 mm r h hx0
    rw [L_XPacker_packRows_40] at h
    refine zr_iload_n F zd_XPacker_packRows_40 rfl ?_
    refine zr_aload_n F zd_XPacker_packRows_41 rfl ?_
    obtain ⟨le20, hs19, h⟩ := zoS_s h
    refine zr_get F 4 4 zd_XPacker_packRows_42 (zW_o hs19 (by decide)) rfl (by decide) zw_87 rfl (by rfl) ?_
    refine zr_icmp_ge F 120 zd_XPacker_packRows_45 (by decide) (fun hb21 => ?_) (fun hb21 => ?_)
    ·
      rw [if_pos hb21] at h
      obtain rfl := Option.some.inj h
      refine zr_loc (L' := [(0, .ref (b + v0)), (1, .int v1)]) ⟨rfl, rfl, trivial⟩ ?_
      exact hx0 
    ·
      rw [if_neg hb21] at h
      refine zr_aload_n F zd_XPacker_packRows_48 rfl ?_
      refine zr_iload_n F zd_XPacker_packRows_49 rfl ?_
      obtain ⟨le23, hs22, h⟩ := zoS_s h
      obtain ⟨p24, ep24, h⟩ := zoB_s h
      refine zr_callV0 F (k_XPacker_findRun l D tA b sh _ ep24) zd_XPacker_packRows_50 (zW_o hs22 (by decide)) rfl zs_XPacker_121 rfl zq_XPacker_findRun rfl rfl ⟨(Nat.le_of_ble_eq_true rfl), (Nat.le_of_ble_eq_true rfl)⟩ (Nat.le_of_ble_eq_true rfl) ⟨(Nat.le_of_ble_eq_true rfl), (Nat.le_of_ble_eq_true rfl)⟩ ?_
      refine zr_pcn 53 rfl ?_
      refine zr_iload_n F zd_XPacker_packRows_53 rfl ?_
      refine zr_iconstv (v := 1) F zd_XPacker_packRows_54 (by decide) ?_
      refine zr_iadd F zd_XPacker_packRows_55 ?_
      obtain ⟨x25, ex25, h⟩ := zoL_s h
      rw [← ex25]
      refine zr_istore_n F zd_XPacker_packRows_56 (by decide) ?_
      refine zr_aload_n F zd_XPacker_packRows_57 rfl ?_
      obtain ⟨le27, hs26, h⟩ := zoS_s h
      refine zr_get F 4 7 zd_XPacker_packRows_58 (zW_o hs26 (by decide)) rfl (by decide) zw_90 rfl (by rfl) ?_
      refine zr_iconstv (v := 3) F zd_XPacker_packRows_61 (by decide) ?_
      refine zr_icmp_lt F 91 zd_XPacker_packRows_62 (by decide) (fun hb28 => ?_) (fun hb28 => ?_)
      ·
        rw [if_pos hb28] at h
        refine zr_pcn 91 rfl ?_
        refine zr_aload_n F zd_XPacker_packRows_91 rfl ?_
        refine zr_aload_n F zd_XPacker_packRows_92 rfl ?_
        obtain ⟨le30, hs29, h⟩ := zoS_s h
        obtain ⟨a31, ea31, h⟩ := zoB_s h
        refine zr_get F 4 3 zd_XPacker_packRows_93 (zW_o hs29 (by decide)) rfl (by decide) zw_86 rfl (by rfl) ?_
        refine zr_tor ea31 ?_
        refine zr_iload_n F zd_XPacker_packRows_96 rfl ?_
        obtain ⟨le33, hs32, h⟩ := zoS_s h
        obtain ⟨hi34, h⟩ := zoI_s h
        refine zr_iald F zd_XPacker_packRows_97 (zW_a0 hs32) hi34 ?_
        obtain ⟨le36, hs35, h⟩ := zoS_s h
        obtain ⟨x37, ex37, h⟩ := zoL_s h
        rw [← ex37]
        obtain ⟨p38, ep38, h⟩ := zoB_s h
        refine zr_callV0 F (k_XPacker_putSign l D tA b sh _ ep38) zd_XPacker_packRows_98 (zW_o hs35 (by decide)) rfl zs_XPacker_136 rfl zq_XPacker_putSign rfl rfl ⟨(Nat.le_of_ble_eq_true rfl), (Nat.le_of_ble_eq_true rfl)⟩ (Nat.le_of_ble_eq_true rfl) ⟨(Nat.le_of_ble_eq_true rfl), (Nat.le_of_ble_eq_true rfl)⟩ ?_
        obtain ⟨q43, eq43, h⟩ := zoB_s h
        refine zr_loc (L' := [(0, .ref (b + v0)), (1, .int v1), (2, .int x25)]) ⟨rfl, rfl, rfl, trivial⟩ ?_
        refine lp_XPacker_packRows_101 F _ _ _ _ _ _ eq43 ?_
        ·
          refine zr_goto F 40 zd_XPacker_packRows_117 (by decide) ?_
          refine zr_loc (L' := [(0, .ref (b + (q43.1))), (1, .int (q43.2.1))]) ⟨rfl, rfl, trivial⟩ ?_
          exact ih _ _ _ _ h hx0
      ·
        rw [if_neg hb28] at h
        refine zr_aload_n F zd_XPacker_packRows_65 rfl ?_
        refine zr_pcn 66 rfl ?_
        refine zr_aload_n F zd_XPacker_packRows_66 rfl ?_
        obtain ⟨le45, hs44, h⟩ := zoS_s h
        refine zr_get F 4 7 zd_XPacker_packRows_67 (zW_o hs44 (by decide)) rfl (by decide) zw_90 rfl (by rfl) ?_
        obtain ⟨le47, hs46, h⟩ := zoS_s h
        obtain ⟨p48, ep48, h⟩ := zoB_s h
        refine zr_callV0 F (k_XPacker_putLength l D tA b sh _ ep48) zd_XPacker_packRows_70 (zW_o hs46 (by decide)) rfl zs_XPacker_127 rfl zq_XPacker_putLength rfl rfl ⟨(Nat.le_of_ble_eq_true rfl), (Nat.le_of_ble_eq_true rfl)⟩ (Nat.le_of_ble_eq_true rfl) ⟨(Nat.le_of_ble_eq_true rfl), (Nat.le_of_ble_eq_true rfl)⟩ ?_
        refine zr_aload_n F zd_XPacker_packRows_73 rfl ?_
        refine zr_aload_n F zd_XPacker_packRows_74 rfl ?_
        obtain ⟨le50, hs49, h⟩ := zoS_s h
        refine zr_get F 4 8 zd_XPacker_packRows_75 (zW_o hs49 (by decide)) rfl (by decide) zw_91 rfl (by rfl) ?_
        obtain ⟨le52, hs51, h⟩ := zoS_s h
        obtain ⟨p53, ep53, h⟩ := zoB_s h
        refine zr_callV0 F (k_XPacker_putDistance l D tA b sh _ ep53) zd_XPacker_packRows_78 (zW_o hs51 (by decide)) rfl zs_XPacker_133 rfl zq_XPacker_putDistance rfl rfl ⟨(Nat.le_of_ble_eq_true rfl), (Nat.le_of_ble_eq_true rfl)⟩ (Nat.le_of_ble_eq_true rfl) ⟨(Nat.le_of_ble_eq_true rfl), (Nat.le_of_ble_eq_true rfl)⟩ ?_
        refine zr_iload_n F zd_XPacker_packRows_81 rfl ?_
        refine zr_pcn 82 rfl ?_
        refine zr_aload_n F zd_XPacker_packRows_82 rfl ?_
        obtain ⟨le55, hs54, h⟩ := zoS_s h
        refine zr_get F 4 7 zd_XPacker_packRows_83 (zW_o hs54 (by decide)) rfl (by decide) zw_90 rfl (by rfl) ?_
        refine zr_iadd F zd_XPacker_packRows_86 ?_
        obtain ⟨x56, ex56, h⟩ := zoL_s h
        rw [← ex56]
        refine zr_istore_n F zd_XPacker_packRows_87 (by decide) ?_
        refine zr_goto F 101 zd_XPacker_packRows_88 (by decide) ?_
        obtain ⟨q57, eq57, h⟩ := zoB_s h
        refine zr_loc (L' := [(0, .ref (b + v0)), (1, .int v1), (2, .int x56)]) ⟨rfl, rfl, rfl, trivial⟩ ?_
        refine lp_XPacker_packRows_101 F _ _ _ _ _ _ eq57 ?_
        ·
          refine zr_goto F 40 zd_XPacker_packRows_117 (by decide) ?_
          refine zr_loc (L' := [(0, .ref (b + (q57.1))), (1, .int (q57.2.1))]) ⟨rfl, rfl, trivial⟩ ?_
          exact ih _ _ _ _ h hx0
def F_XPacker_packRows (sh : zSh) (mm : zMem) (o : Nat) : Option zMem := zoS (sh o) 4 (fun le2 => zoL (mI mm o 9 0) (fun mm3 => zoS (sh o) 4 (fun le5 => zoL (mI mm3 o 10 0) (fun mm6 => Option.bind (L_XPacker_packRows_12 sh zfuel o 0 mm6) (fun q15 => zoS (sh (q15.1)) 4 (fun le17 => Option.bind (F_XPacker_putLowFirst sh (q15.2.2) (q15.1) 3 3) (fun p18 => Option.bind (L_XPacker_packRows_40 sh zfuel (q15.1) 0 p18) (fun q58 => zoS (sh (q58.1)) 4 (fun le60 => Option.bind (F_XPacker_putSign sh (q58.2.2) (q58.1) 256) (fun p61 => zoS (sh (q58.1)) 4 (fun le63 => zoS (sh (q58.1)) 4 (fun le65 => zoL ((8 - (p61.1 (q58.1) 10)) &&& 7) (fun x66 => Option.bind (F_XPacker_putLowFirst sh p61 (q58.1) 0 x66) (fun p67 => some p67))))))))))))))
set_option maxHeartbeats 4000000 in
set_option maxRecDepth 100000 in
theorem k_XPacker_packRows (l : Launch) (D : va_G) (tA : Nat → ClassId) (b : Nat) (sh : zSh) (n : Nat) {mm : zMem} {o : Nat} {r : zMem} (h : F_XPacker_packRows sh mm o = some r) : zM l D tA b zy_XPacker_packRows zb_XPacker_packRows 3 none 4 88 0 0 [.ref (b + o)] (zW tA b sh mm) n (zE none (zW tA b sh r) n) := by
  unfold F_XPacker_packRows at h
  refine zM_of (own := "OrreryBox$Packer") (plainFor_of_name (by decide)) rfl (Nat.le_of_ble_eq_true rfl) (fun p e s m below meth c F hr hin hH => ?_)
  refine zr_aload_n F zd_XPacker_packRows_0 rfl ?_
  refine zr_iconstv (v := 0) F zd_XPacker_packRows_1 (by decide) ?_
  obtain ⟨le2, hs1, h⟩ := zoS_s h
  refine zr_put F 4 9 zd_XPacker_packRows_2 (zW_o hs1 (by decide)) rfl (by decide) zw_92 rfl rfl rfl rfl (by exact (Nat.le_of_ble_eq_true rfl)) ?_
  obtain ⟨mm3, emm3, h⟩ := zoL_s h
  refine zr_norm (zW tA b sh mm3) _ (by rw [emm3]; exact zW_pI (v := 0) hs1 (by decide) (zf_I_4_9 b _ _ _)) rfl ?_
  refine zr_aload_n F zd_XPacker_packRows_5 rfl ?_
  refine zr_iconstv (v := 0) F zd_XPacker_packRows_6 (by decide) ?_
  obtain ⟨le5, hs4, h⟩ := zoS_s h
  refine zr_put F 4 10 zd_XPacker_packRows_7 (zW_o hs4 (by decide)) rfl (by decide) zw_93 rfl rfl rfl rfl (by exact (Nat.le_of_ble_eq_true rfl)) ?_
  obtain ⟨mm6, emm6, h⟩ := zoL_s h
  refine zr_norm (zW tA b sh mm6) _ (by rw [emm6]; exact zW_pI (v := 0) hs4 (by decide) (zf_I_4_10 b _ _ _)) rfl ?_
  refine zr_iconstv (v := 0) F zd_XPacker_packRows_10 (by decide) ?_
  refine zr_pcn 11 rfl ?_
  refine zr_istore_n F zd_XPacker_packRows_11 (by decide) ?_
  obtain ⟨q15, eq15, h⟩ := zoB_s h
  refine zr_loc (L' := [(0, .ref (b + o)), (1, .int 0)]) ⟨rfl, rfl, trivial⟩ ?_
  refine lp_XPacker_packRows_12 F _ _ _ _ _ eq15 ?_
  ·
    refine zr_aload_n F zd_XPacker_packRows_32 rfl ?_
    refine zr_iconstv (v := 3) F zd_XPacker_packRows_33 (by decide) ?_
    refine zr_iconstv (v := 3) F zd_XPacker_packRows_34 (by decide) ?_
    obtain ⟨le17, hs16, h⟩ := zoS_s h
    obtain ⟨p18, ep18, h⟩ := zoB_s h
    refine zr_callV0 F (k_XPacker_putLowFirst l D tA b sh _ ep18) zd_XPacker_packRows_35 (zW_o hs16 (by decide)) rfl zs_XPacker_118 rfl zq_XPacker_putLowFirst rfl rfl ⟨(Nat.le_of_ble_eq_true rfl), (Nat.le_of_ble_eq_true rfl)⟩ (Nat.le_of_ble_eq_true rfl) ⟨(Nat.le_of_ble_eq_true rfl), (Nat.le_of_ble_eq_true rfl)⟩ ?_
    refine zr_iconstv (v := 0) F zd_XPacker_packRows_38 (by decide) ?_
    refine zr_pcn 39 rfl ?_
    refine zr_istore_n F zd_XPacker_packRows_39 (by decide) ?_
    obtain ⟨q58, eq58, h⟩ := zoB_s h
    refine zr_loc (L' := [(0, .ref (b + (q15.1))), (1, .int 0)]) ⟨rfl, rfl, trivial⟩ ?_
    refine lp_XPacker_packRows_40 F _ _ _ _ _ eq58 ?_
    ·
      refine zr_aload_n F zd_XPacker_packRows_120 rfl ?_
      refine zr_sipushv (v := 256) F zd_XPacker_packRows_121 (by decide) ?_
      refine zr_pcn 124 rfl ?_
      obtain ⟨le60, hs59, h⟩ := zoS_s h
      obtain ⟨p61, ep61, h⟩ := zoB_s h
      refine zr_callV0 F (k_XPacker_putSign l D tA b sh _ ep61) zd_XPacker_packRows_124 (zW_o hs59 (by decide)) rfl zs_XPacker_136 rfl zq_XPacker_putSign rfl rfl ⟨(Nat.le_of_ble_eq_true rfl), (Nat.le_of_ble_eq_true rfl)⟩ (Nat.le_of_ble_eq_true rfl) ⟨(Nat.le_of_ble_eq_true rfl), (Nat.le_of_ble_eq_true rfl)⟩ ?_
      refine zr_aload_n F zd_XPacker_packRows_127 rfl ?_
      refine zr_iconstv (v := 0) F zd_XPacker_packRows_128 (by decide) ?_
      refine zr_bipushv (v := 8) F zd_XPacker_packRows_129 (by decide) ?_
      refine zr_aload_n F zd_XPacker_packRows_131 rfl ?_
      obtain ⟨le63, hs62, h⟩ := zoS_s h
      refine zr_get F 4 10 zd_XPacker_packRows_132 (zW_o hs62 (by decide)) rfl (by decide) zw_93 rfl (by rfl) ?_
      refine zr_isub F zd_XPacker_packRows_135 ?_
      refine zr_bipushv (v := 7) F zd_XPacker_packRows_136 (by decide) ?_
      refine zr_pcn 138 rfl ?_
      refine zr_iand F zd_XPacker_packRows_138 ?_
      obtain ⟨le65, hs64, h⟩ := zoS_s h
      obtain ⟨x66, ex66, h⟩ := zoL_s h
      rw [← ex66]
      obtain ⟨p67, ep67, h⟩ := zoB_s h
      refine zr_callV0 F (k_XPacker_putLowFirst l D tA b sh _ ep67) zd_XPacker_packRows_139 (zW_o hs64 (by decide)) rfl zs_XPacker_118 rfl zq_XPacker_putLowFirst rfl rfl ⟨(Nat.le_of_ble_eq_true rfl), (Nat.le_of_ble_eq_true rfl)⟩ (Nat.le_of_ble_eq_true rfl) ⟨(Nat.le_of_ble_eq_true rfl), (Nat.le_of_ble_eq_true rfl)⟩ ?_
      obtain rfl := Option.some.inj h
      exact zr_vret F hr zd_XPacker_packRows_142 (Nat.le_of_ble_eq_true rfl) (Nat.le_of_ble_eq_true rfl) ⟨rfl, rfl, rfl⟩
abbrev zb_XReader_readTexture : ByteArray := prog_8_method_5_code
def zy_XReader_readTexture : MethodName := ⟨"OrreryBox$Reader", "readTexture", "(LOrreryBox$Texture;)V"⟩
theorem zc_XReader_readTexture : Cond.code zy_XReader_readTexture zb_XReader_readTexture 3 none ∈ gw := gw_t 1227 (by decide +kernel) rfl
theorem zq_XReader_readTexture : zy_XReader_readTexture.cls ≠ "java/lang/invoke/MethodHandle" ∧ zy_XReader_readTexture.cls ≠ "java/lang/invoke/VarHandle" ∧ (parseMethodDescriptor zy_XReader_readTexture.desc).map (fun d => d.parameters.length) = some 1 := by decide +kernel
theorem zd_XReader_readTexture_0 : decode zb_XReader_readTexture 0 = .ok (.aload_n 1, 1) := by decide +kernel
theorem zd_XReader_readTexture_1 : decode zb_XReader_readTexture 1 = .ok (.aload_n 0, 1) := by decide +kernel
theorem zd_XReader_readTexture_2 : decode zb_XReader_readTexture 2 = .ok (.ldc 136, 2) := by decide +kernel
theorem zd_XReader_readTexture_4 : decode zb_XReader_readTexture 4 = .ok (.iconst 1, 1) := by decide +kernel
theorem zd_XReader_readTexture_5 : decode zb_XReader_readTexture 5 = .ok (.bipush 32, 2) := by decide +kernel
theorem zd_XReader_readTexture_7 : decode zb_XReader_readTexture 7 = .ok (.invokevirtual 138, 3) := by decide +kernel
theorem zd_XReader_readTexture_10 : decode zb_XReader_readTexture 10 = .ok (.putfield 142, 3) := by decide +kernel
theorem zd_XReader_readTexture_13 : decode zb_XReader_readTexture 13 = .ok (.aload_n 1, 1) := by decide +kernel
theorem zd_XReader_readTexture_14 : decode zb_XReader_readTexture 14 = .ok (.getfield 142, 3) := by decide +kernel
theorem zd_XReader_readTexture_17 : decode zb_XReader_readTexture 17 = .ok (.aload_n 1, 1) := by decide +kernel
theorem zd_XReader_readTexture_18 : decode zb_XReader_readTexture 18 = .ok (.getfield 142, 3) := by decide +kernel
theorem zd_XReader_readTexture_21 : decode zb_XReader_readTexture 21 = .ok (.iconst 1, 1) := by decide +kernel
theorem zd_XReader_readTexture_22 : decode zb_XReader_readTexture 22 = .ok (.isub, 1) := by decide +kernel
theorem zd_XReader_readTexture_23 : decode zb_XReader_readTexture 23 = .ok (.iand, 1) := by decide +kernel
theorem zd_XReader_readTexture_24 : decode zb_XReader_readTexture 24 = .ok (.ifCond .eq 12, 3) := by decide +kernel
theorem zd_XReader_readTexture_27 : decode zb_XReader_readTexture 27 = .ok (.aload_n 0, 1) := by decide +kernel
theorem zd_XReader_readTexture_28 : decode zb_XReader_readTexture 28 = .ok (.iconst 2, 1) := by decide +kernel
theorem zd_XReader_readTexture_29 : decode zb_XReader_readTexture 29 = .ok (.aload_n 0, 1) := by decide +kernel
theorem zd_XReader_readTexture_30 : decode zb_XReader_readTexture 30 = .ok (.getfield 146, 3) := by decide +kernel
theorem zd_XReader_readTexture_33 : decode zb_XReader_readTexture 33 = .ok (.invokevirtual 77, 3) := by decide +kernel
theorem zd_XReader_readTexture_36 : decode zb_XReader_readTexture 36 = .ok (.aload_n 0, 1) := by decide +kernel
theorem zd_XReader_readTexture_37 : decode zb_XReader_readTexture 37 = .ok (.bipush 44, 2) := by decide +kernel
theorem zd_XReader_readTexture_39 : decode zb_XReader_readTexture 39 = .ok (.invokevirtual 45, 3) := by decide +kernel
theorem zd_XReader_readTexture_42 : decode zb_XReader_readTexture 42 = .ok (.aload_n 1, 1) := by decide +kernel
theorem zd_XReader_readTexture_43 : decode zb_XReader_readTexture 43 = .ok (.aload_n 0, 1) := by decide +kernel
theorem zd_XReader_readTexture_44 : decode zb_XReader_readTexture 44 = .ok (.ldc 149, 2) := by decide +kernel
theorem zd_XReader_readTexture_46 : decode zb_XReader_readTexture 46 = .ok (.iconst 0, 1) := by decide +kernel
theorem zd_XReader_readTexture_47 : decode zb_XReader_readTexture 47 = .ok (.iconst 2, 1) := by decide +kernel
theorem zd_XReader_readTexture_48 : decode zb_XReader_readTexture 48 = .ok (.invokevirtual 138, 3) := by decide +kernel
theorem zd_XReader_readTexture_51 : decode zb_XReader_readTexture 51 = .ok (.putfield 151, 3) := by decide +kernel
theorem zd_XReader_readTexture_54 : decode zb_XReader_readTexture 54 = .ok (.aload_n 0, 1) := by decide +kernel
theorem zd_XReader_readTexture_55 : decode zb_XReader_readTexture 55 = .ok (.bipush 44, 2) := by decide +kernel
theorem zd_XReader_readTexture_57 : decode zb_XReader_readTexture 57 = .ok (.invokevirtual 45, 3) := by decide +kernel
theorem zd_XReader_readTexture_60 : decode zb_XReader_readTexture 60 = .ok (.aload_n 1, 1) := by decide +kernel
theorem zd_XReader_readTexture_61 : decode zb_XReader_readTexture 61 = .ok (.aload_n 0, 1) := by decide +kernel
theorem zd_XReader_readTexture_62 : decode zb_XReader_readTexture 62 = .ok (.ldc 153, 2) := by decide +kernel
theorem zd_XReader_readTexture_64 : decode zb_XReader_readTexture 64 = .ok (.iconst 0, 1) := by decide +kernel
theorem zd_XReader_readTexture_65 : decode zb_XReader_readTexture 65 = .ok (.iconst 1, 1) := by decide +kernel
theorem zd_XReader_readTexture_66 : decode zb_XReader_readTexture 66 = .ok (.invokevirtual 138, 3) := by decide +kernel
theorem zd_XReader_readTexture_69 : decode zb_XReader_readTexture 69 = .ok (.iconst 1, 1) := by decide +kernel
theorem zd_XReader_readTexture_70 : decode zb_XReader_readTexture 70 = .ok (.if_icmp .ne 7, 3) := by decide +kernel
theorem zd_XReader_readTexture_73 : decode zb_XReader_readTexture 73 = .ok (.iconst 1, 1) := by decide +kernel
theorem zd_XReader_readTexture_74 : decode zb_XReader_readTexture 74 = .ok (.goto 4, 3) := by decide +kernel
theorem zd_XReader_readTexture_77 : decode zb_XReader_readTexture 77 = .ok (.iconst 0, 1) := by decide +kernel
theorem zd_XReader_readTexture_78 : decode zb_XReader_readTexture 78 = .ok (.putfield 155, 3) := by decide +kernel
theorem zd_XReader_readTexture_81 : decode zb_XReader_readTexture 81 = .ok (.aload_n 0, 1) := by decide +kernel
theorem zd_XReader_readTexture_82 : decode zb_XReader_readTexture 82 = .ok (.bipush 44, 2) := by decide +kernel
theorem zd_XReader_readTexture_84 : decode zb_XReader_readTexture 84 = .ok (.invokevirtual 45, 3) := by decide +kernel
theorem zd_XReader_readTexture_87 : decode zb_XReader_readTexture 87 = .ok (.iconst 3, 1) := by decide +kernel
theorem zd_XReader_readTexture_88 : decode zb_XReader_readTexture 88 = .ok (.aload_n 1, 1) := by decide +kernel
theorem zd_XReader_readTexture_89 : decode zb_XReader_readTexture 89 = .ok (.getfield 142, 3) := by decide +kernel
theorem zd_XReader_readTexture_92 : decode zb_XReader_readTexture 92 = .ok (.imul, 1) := by decide +kernel
theorem zd_XReader_readTexture_93 : decode zb_XReader_readTexture 93 = .ok (.aload_n 1, 1) := by decide +kernel
theorem zd_XReader_readTexture_94 : decode zb_XReader_readTexture 94 = .ok (.getfield 142, 3) := by decide +kernel
theorem zd_XReader_readTexture_97 : decode zb_XReader_readTexture 97 = .ok (.imul, 1) := by decide +kernel
theorem zd_XReader_readTexture_98 : decode zb_XReader_readTexture 98 = .ok (.istore_n 2, 1) := by decide +kernel
theorem zd_XReader_readTexture_99 : decode zb_XReader_readTexture 99 = .ok (.aload_n 0, 1) := by decide +kernel
theorem zd_XReader_readTexture_100 : decode zb_XReader_readTexture 100 = .ok (.ldc 158, 2) := by decide +kernel
theorem zd_XReader_readTexture_102 : decode zb_XReader_readTexture 102 = .ok (.iload_n 2, 1) := by decide +kernel
theorem zd_XReader_readTexture_103 : decode zb_XReader_readTexture 103 = .ok (.iload_n 2, 1) := by decide +kernel
theorem zd_XReader_readTexture_104 : decode zb_XReader_readTexture 104 = .ok (.iconst 0, 1) := by decide +kernel
theorem zd_XReader_readTexture_105 : decode zb_XReader_readTexture 105 = .ok (.sipush 255, 3) := by decide +kernel
theorem zd_XReader_readTexture_108 : decode zb_XReader_readTexture 108 = .ok (.iconst 0, 1) := by decide +kernel
theorem zd_XReader_readTexture_109 : decode zb_XReader_readTexture 109 = .ok (.invokevirtual 160, 3) := by decide +kernel
theorem zd_XReader_readTexture_112 : decode zb_XReader_readTexture 112 = .ok (.pop, 1) := by decide +kernel
theorem zd_XReader_readTexture_113 : decode zb_XReader_readTexture 113 = .ok (.aload_n 1, 1) := by decide +kernel
theorem zd_XReader_readTexture_114 : decode zb_XReader_readTexture 114 = .ok (.aload_n 0, 1) := by decide +kernel
theorem zd_XReader_readTexture_115 : decode zb_XReader_readTexture 115 = .ok (.getfield 9, 3) := by decide +kernel
theorem zd_XReader_readTexture_118 : decode zb_XReader_readTexture 118 = .ok (.invokevirtual 164, 3) := by decide +kernel
theorem zd_XReader_readTexture_121 : decode zb_XReader_readTexture 121 = .ok (.return_, 1) := by decide +kernel
theorem zw_1207 : (Jvm.Cond.methodLink "OrreryBox$Reader" (138 : Nat) ({ cls := "OrreryBox$Reader", name := "number", desc := "(Ljava/lang/String;II)I" } : Jvm.MethodName)) ∈ gw := gw_t 1207 (by decide +kernel) rfl
theorem zw_1209 : (Jvm.Cond.instanceMethod ({ cls := "OrreryBox$Reader", name := "number", desc := "(Ljava/lang/String;II)I" } : Jvm.MethodName)) ∈ gw := gw_t 1209 (by decide +kernel) rfl
theorem zv_58 : (Jvm.Cond.selects "OrreryBox$Reader" (⟨"OrreryBox$Reader", "number", "(Ljava/lang/String;II)I"⟩ : MethodName) ⟨"OrreryBox$Reader", "number", "(Ljava/lang/String;II)I"⟩) ∈ gw := gw_s 58 (by decide +kernel) rfl
theorem zs_XReader_138 : zwV "OrreryBox$Reader" 138 "OrreryBox$Reader" zy_XReader_number zb_XReader_number 4 (some .int) := ⟨zw_1207, zw_1209, zv_58, zw_2, zc_XReader_number⟩
theorem zw_149 : (Jvm.Cond.fieldLink "OrreryBox$Reader" (142 : Nat) "OrreryBox$Texture" "side" "I") ∈ gw := gw_t 149 (by decide +kernel) rfl
theorem zf_I_10_0 (b : Nat) (m : zMem) (k : Nat) (v : Int32) : (zfl b 10 m k).set 0 (.int v) = zfl b 10 (mI m k 0 v) k := by simp [zfl, mI, upd, vp_updL]
theorem zw_150 : (Jvm.Cond.fieldLink "OrreryBox$Reader" (151 : Nat) "OrreryBox$Texture" "wrap" "I") ∈ gw := gw_t 150 (by decide +kernel) rfl
theorem zf_I_10_1 (b : Nat) (m : zMem) (k : Nat) (v : Int32) : (zfl b 10 m k).set 1 (.int v) = zfl b 10 (mI m k 1 v) k := by simp [zfl, mI, upd, vp_updL]
theorem zw_152 : (Jvm.Cond.fieldLink "OrreryBox$Reader" (155 : Nat) "OrreryBox$Texture" "soft" "Z") ∈ gw := gw_t 152 (by decide +kernel) rfl
theorem zf_I_10_2 (b : Nat) (m : zMem) (k : Nat) (v : Int32) : (zfl b 10 m k).set 2 (.int v) = zfl b 10 (mI m k 2 v) k := by simp [zfl, mI, upd, vp_updL]
theorem zw_1187 : (Jvm.Cond.methodLink "OrreryBox$Reader" (160 : Nat) ({ cls := "OrreryBox$Reader", name := "numbers", desc := "(Ljava/lang/String;IIIIZ)I" } : Jvm.MethodName)) ∈ gw := gw_t 1187 (by decide +kernel) rfl
theorem zw_1189 : (Jvm.Cond.instanceMethod ({ cls := "OrreryBox$Reader", name := "numbers", desc := "(Ljava/lang/String;IIIIZ)I" } : Jvm.MethodName)) ∈ gw := gw_t 1189 (by decide +kernel) rfl
theorem zv_55 : (Jvm.Cond.selects "OrreryBox$Reader" (⟨"OrreryBox$Reader", "numbers", "(Ljava/lang/String;IIIIZ)I"⟩ : MethodName) ⟨"OrreryBox$Reader", "numbers", "(Ljava/lang/String;IIIIZ)I"⟩) ∈ gw := gw_s 55 (by decide +kernel) rfl
theorem zs_XReader_160 : zwV "OrreryBox$Reader" 160 "OrreryBox$Reader" zy_XReader_numbers zb_XReader_numbers 10 (some .int) := ⟨zw_1187, zw_1189, zv_55, zw_2, zc_XReader_numbers⟩
theorem zw_1232 : (Jvm.Cond.methodLink "OrreryBox$Reader" (164 : Nat) ({ cls := "OrreryBox$Texture", name := "fill", desc := "([I)V" } : Jvm.MethodName)) ∈ gw := gw_t 1232 (by decide +kernel) rfl
theorem zw_1233 : (Jvm.Cond.instanceMethod ({ cls := "OrreryBox$Texture", name := "fill", desc := "([I)V" } : Jvm.MethodName)) ∈ gw := gw_t 1233 (by decide +kernel) rfl
theorem zw_1234 : (Jvm.Cond.selects "OrreryBox$Texture" ({ cls := "OrreryBox$Texture", name := "fill", desc := "([I)V" } : Jvm.MethodName) ({ cls := "OrreryBox$Texture", name := "fill", desc := "([I)V" } : Jvm.MethodName)) ∈ gw := gw_t 1234 (by decide +kernel) rfl
theorem zs_XReader_164 : zwV "OrreryBox$Reader" 164 "OrreryBox$Texture" zy_XTexture_fill zb_XTexture_fill 3 none := ⟨zw_1232, zw_1233, zw_1234, zw_6, zc_XTexture_fill⟩
def F_XReader_readTexture (sh : zSh) (mm : zMem) (o : Nat) (x0_ : Nat) : Option zMem := zoS (sh o) 7 (fun le2 => Option.bind (F_XReader_number sh mm o 15 1 32) (fun p3 => zoS (sh x0_) 10 (fun le5 => zoL (mI (p3.2) x0_ 0 (p3.1)) (fun mm6 => zoS (sh x0_) 10 (fun le8 => zoS (sh x0_) 10 (fun le10 => (if ((mm6.1 x0_ 0) &&& ((mm6.1 x0_ 0) - 1)) = 0 then zoS (sh o) 7 (fun le13 => Option.bind (F_XReader_need sh mm6 o 44) (fun p14 => zoS (sh o) 7 (fun le16 => Option.bind (F_XReader_number sh p14 o 16 0 2) (fun p17 => zoS (sh x0_) 10 (fun le19 => zoL (mI (p17.2) x0_ 1 (p17.1)) (fun mm20 => zoS (sh o) 7 (fun le22 => Option.bind (F_XReader_need sh mm20 o 44) (fun p23 => zoS (sh o) 7 (fun le25 => Option.bind (F_XReader_number sh p23 o 17 0 1) (fun p26 => (if p26.1 = 1 then zoS (sh x0_) 10 (fun le49 => zoL (mI (p26.2) x0_ 2 1) (fun mm50 => zoS (sh o) 7 (fun le52 => Option.bind (F_XReader_need sh mm50 o 44) (fun p53 => zoS (sh x0_) 10 (fun le55 => zoS (sh x0_) 10 (fun le57 => zoL ((3 * (p53.1 x0_ 0)) * (p53.1 x0_ 0)) (fun x58 => zoS (sh o) 7 (fun le60 => Option.bind (F_XReader_numbers sh p53 o 18 x58 x58 0 255 0) (fun p61 => zoS (sh o) 7 (fun le63 => Option.bind ((p61.2).2.2 o 2) (fun a64 => zoS (sh x0_) 10 (fun le66 => Option.bind (F_XTexture_fill sh (p61.2) x0_ a64) (fun p67 => some p67))))))))))))) else zoS (sh x0_) 10 (fun le29 => zoL (mI (p26.2) x0_ 2 0) (fun mm30 => zoS (sh o) 7 (fun le32 => Option.bind (F_XReader_need sh mm30 o 44) (fun p33 => zoS (sh x0_) 10 (fun le35 => zoS (sh x0_) 10 (fun le37 => zoL ((3 * (p33.1 x0_ 0)) * (p33.1 x0_ 0)) (fun x38 => zoS (sh o) 7 (fun le40 => Option.bind (F_XReader_numbers sh p33 o 18 x38 x38 0 255 0) (fun p41 => zoS (sh o) 7 (fun le43 => Option.bind ((p41.2).2.2 o 2) (fun a44 => zoS (sh x0_) 10 (fun le46 => Option.bind (F_XTexture_fill sh (p41.2) x0_ a44) (fun p47 => some p47)))))))))))))))))))))))) else zoS (sh o) 7 (fun le69 => zoS (sh o) 7 (fun le71 => none)))))))))
set_option maxHeartbeats 4000000 in
set_option maxRecDepth 100000 in
theorem k_XReader_readTexture (l : Launch) (D : va_G) (tA : Nat → ClassId) (b : Nat) (sh : zSh) (n : Nat) {mm : zMem} {o : Nat} {x0_ : Nat} {r : zMem} (h : F_XReader_readTexture sh mm o x0_ = some r) : zM l D tA b zy_XReader_readTexture zb_XReader_readTexture 3 none 7 158 0 0 [.ref (b + o), .ref (b + x0_)] (zW tA b sh mm) n (zE none (zW tA b sh r) n) := by
  unfold F_XReader_readTexture at h
  refine zM_of (own := "OrreryBox$Reader") (plainFor_of_name (by decide)) rfl (Nat.le_of_ble_eq_true rfl) (fun p e s m below meth c F hr hin hH => ?_)
  refine zr_aload_n F zd_XReader_readTexture_0 rfl ?_
  refine zr_aload_n F zd_XReader_readTexture_1 rfl ?_
  refine zr_ldcS F 15 "side" zd_XReader_readTexture_2 (by decide +kernel) ?_
  refine zr_iconstv (v := 1) F zd_XReader_readTexture_4 (by decide) ?_
  refine zr_bipushv (v := 32) F zd_XReader_readTexture_5 (by decide) ?_
  obtain ⟨le2, hs1, h⟩ := zoS_s h
  obtain ⟨p3, ep3, h⟩ := zoB_s h
  refine zr_callV1 F (k_XReader_number l D tA b sh _ ep3) zd_XReader_readTexture_7 (zW_o hs1 (by decide)) rfl zs_XReader_138 rfl zq_XReader_number rfl rfl ⟨(Nat.le_of_ble_eq_true rfl), (Nat.le_of_ble_eq_true rfl)⟩ (Nat.le_of_ble_eq_true rfl) ⟨(Nat.le_of_ble_eq_true rfl), (Nat.le_of_ble_eq_true rfl)⟩ ?_
  obtain ⟨le5, hs4, h⟩ := zoS_s h
  refine zr_put F 10 0 zd_XReader_readTexture_10 (zW_o hs4 (by decide)) rfl (by decide) zw_149 rfl rfl rfl rfl (by exact (Nat.le_of_ble_eq_true rfl)) ?_
  obtain ⟨mm6, emm6, h⟩ := zoL_s h
  refine zr_norm (zW tA b sh mm6) _ (by rw [emm6]; exact zW_pI (v := (p3.1)) hs4 (by decide) (zf_I_10_0 b _ _ _)) rfl ?_
  refine zr_pcn 13 rfl ?_
  refine zr_aload_n F zd_XReader_readTexture_13 rfl ?_
  obtain ⟨le8, hs7, h⟩ := zoS_s h
  refine zr_get F 10 0 zd_XReader_readTexture_14 (zW_o hs7 (by decide)) rfl (by decide) zw_149 rfl (by rfl) ?_
  refine zr_aload_n F zd_XReader_readTexture_17 rfl ?_
  obtain ⟨le10, hs9, h⟩ := zoS_s h
  refine zr_get F 10 0 zd_XReader_readTexture_18 (zW_o hs9 (by decide)) rfl (by decide) zw_149 rfl (by rfl) ?_
  refine zr_iconstv (v := 1) F zd_XReader_readTexture_21 (by decide) ?_
  refine zr_isub F zd_XReader_readTexture_22 ?_
  refine zr_iand F zd_XReader_readTexture_23 ?_
  refine zr_if_eq F 36 zd_XReader_readTexture_24 (by decide) (fun hb11 => ?_) (fun hb11 => ?_)
  ·
    rw [if_pos hb11] at h
    refine zr_pcn 36 rfl ?_
    refine zr_aload_n F zd_XReader_readTexture_36 rfl ?_
    refine zr_bipushv (v := 44) F zd_XReader_readTexture_37 (by decide) ?_
    obtain ⟨le13, hs12, h⟩ := zoS_s h
    obtain ⟨p14, ep14, h⟩ := zoB_s h
    refine zr_callV0 F (k_XReader_need l D tA b sh _ ep14) zd_XReader_readTexture_39 (zW_o hs12 (by decide)) rfl zs_XReader_45 rfl zq_XReader_need rfl rfl ⟨(Nat.le_of_ble_eq_true rfl), (Nat.le_of_ble_eq_true rfl)⟩ (Nat.le_of_ble_eq_true rfl) ⟨(Nat.le_of_ble_eq_true rfl), (Nat.le_of_ble_eq_true rfl)⟩ ?_
    refine zr_aload_n F zd_XReader_readTexture_42 rfl ?_
    refine zr_aload_n F zd_XReader_readTexture_43 rfl ?_
    refine zr_ldcS F 16 "wrap" zd_XReader_readTexture_44 (by decide +kernel) ?_
    refine zr_iconstv (v := 0) F zd_XReader_readTexture_46 (by decide) ?_
    refine zr_iconstv (v := 2) F zd_XReader_readTexture_47 (by decide) ?_
    refine zr_pcn 48 rfl ?_
    obtain ⟨le16, hs15, h⟩ := zoS_s h
    obtain ⟨p17, ep17, h⟩ := zoB_s h
    refine zr_callV1 F (k_XReader_number l D tA b sh _ ep17) zd_XReader_readTexture_48 (zW_o hs15 (by decide)) rfl zs_XReader_138 rfl zq_XReader_number rfl rfl ⟨(Nat.le_of_ble_eq_true rfl), (Nat.le_of_ble_eq_true rfl)⟩ (Nat.le_of_ble_eq_true rfl) ⟨(Nat.le_of_ble_eq_true rfl), (Nat.le_of_ble_eq_true rfl)⟩ ?_
    obtain ⟨le19, hs18, h⟩ := zoS_s h
    refine zr_put F 10 1 zd_XReader_readTexture_51 (zW_o hs18 (by decide)) rfl (by decide) zw_150 rfl rfl rfl rfl (by exact (Nat.le_of_ble_eq_true rfl)) ?_
    obtain ⟨mm20, emm20, h⟩ := zoL_s h
    refine zr_norm (zW tA b sh mm20) _ (by rw [emm20]; exact zW_pI (v := (p17.1)) hs18 (by decide) (zf_I_10_1 b _ _ _)) rfl ?_
    refine zr_aload_n F zd_XReader_readTexture_54 rfl ?_
    refine zr_bipushv (v := 44) F zd_XReader_readTexture_55 (by decide) ?_
    obtain ⟨le22, hs21, h⟩ := zoS_s h
    obtain ⟨p23, ep23, h⟩ := zoB_s h
    refine zr_callV0 F (k_XReader_need l D tA b sh _ ep23) zd_XReader_readTexture_57 (zW_o hs21 (by decide)) rfl zs_XReader_45 rfl zq_XReader_need rfl rfl ⟨(Nat.le_of_ble_eq_true rfl), (Nat.le_of_ble_eq_true rfl)⟩ (Nat.le_of_ble_eq_true rfl) ⟨(Nat.le_of_ble_eq_true rfl), (Nat.le_of_ble_eq_true rfl)⟩ ?_
    refine zr_aload_n F zd_XReader_readTexture_60 rfl ?_
    refine zr_aload_n F zd_XReader_readTexture_61 rfl ?_
    refine zr_ldcS F 17 "soft" zd_XReader_readTexture_62 (by decide +kernel) ?_
    refine zr_pcn 64 rfl ?_
    refine zr_iconstv (v := 0) F zd_XReader_readTexture_64 (by decide) ?_
    refine zr_iconstv (v := 1) F zd_XReader_readTexture_65 (by decide) ?_
    obtain ⟨le25, hs24, h⟩ := zoS_s h
    obtain ⟨p26, ep26, h⟩ := zoB_s h
    refine zr_callV1 F (k_XReader_number l D tA b sh _ ep26) zd_XReader_readTexture_66 (zW_o hs24 (by decide)) rfl zs_XReader_138 rfl zq_XReader_number rfl rfl ⟨(Nat.le_of_ble_eq_true rfl), (Nat.le_of_ble_eq_true rfl)⟩ (Nat.le_of_ble_eq_true rfl) ⟨(Nat.le_of_ble_eq_true rfl), (Nat.le_of_ble_eq_true rfl)⟩ ?_
    refine zr_iconstv (v := 1) F zd_XReader_readTexture_69 (by decide) ?_
    refine zr_icmp_ne F 77 zd_XReader_readTexture_70 (by decide) (fun hb27 => ?_) (fun hb27 => ?_)
    ·
      rw [if_neg hb27] at h
      refine zr_iconstv (v := 0) F zd_XReader_readTexture_77 (by decide) ?_
      obtain ⟨le29, hs28, h⟩ := zoS_s h
      refine zr_put F 10 2 zd_XReader_readTexture_78 (zW_o hs28 (by decide)) rfl (by decide) zw_152 rfl rfl rfl rfl (by exact (Nat.le_of_ble_eq_true rfl)) ?_
      obtain ⟨mm30, emm30, h⟩ := zoL_s h
      refine zr_norm (zW tA b sh mm30) _ (by rw [emm30]; exact zW_pI (v := 0) hs28 (by decide) (zf_I_10_2 b _ _ _)) rfl ?_
      refine zr_aload_n F zd_XReader_readTexture_81 rfl ?_
      refine zr_pcn 82 rfl ?_
      refine zr_bipushv (v := 44) F zd_XReader_readTexture_82 (by decide) ?_
      obtain ⟨le32, hs31, h⟩ := zoS_s h
      obtain ⟨p33, ep33, h⟩ := zoB_s h
      refine zr_callV0 F (k_XReader_need l D tA b sh _ ep33) zd_XReader_readTexture_84 (zW_o hs31 (by decide)) rfl zs_XReader_45 rfl zq_XReader_need rfl rfl ⟨(Nat.le_of_ble_eq_true rfl), (Nat.le_of_ble_eq_true rfl)⟩ (Nat.le_of_ble_eq_true rfl) ⟨(Nat.le_of_ble_eq_true rfl), (Nat.le_of_ble_eq_true rfl)⟩ ?_
      refine zr_iconstv (v := 3) F zd_XReader_readTexture_87 (by decide) ?_
      refine zr_aload_n F zd_XReader_readTexture_88 rfl ?_
      obtain ⟨le35, hs34, h⟩ := zoS_s h
      refine zr_get F 10 0 zd_XReader_readTexture_89 (zW_o hs34 (by decide)) rfl (by decide) zw_149 rfl (by rfl) ?_
      refine zr_imul F zd_XReader_readTexture_92 ?_
      refine zr_aload_n F zd_XReader_readTexture_93 rfl ?_
      obtain ⟨le37, hs36, h⟩ := zoS_s h
      refine zr_get F 10 0 zd_XReader_readTexture_94 (zW_o hs36 (by decide)) rfl (by decide) zw_149 rfl (by rfl) ?_
      refine zr_pcn 97 rfl ?_
      refine zr_imul F zd_XReader_readTexture_97 ?_
      obtain ⟨x38, ex38, h⟩ := zoL_s h
      rw [← ex38]
      refine zr_istore_n F zd_XReader_readTexture_98 (by decide) ?_
      refine zr_aload_n F zd_XReader_readTexture_99 rfl ?_
      refine zr_ldcS F 18 "texels" zd_XReader_readTexture_100 (by decide +kernel) ?_
      refine zr_iload_n F zd_XReader_readTexture_102 rfl ?_
      refine zr_iload_n F zd_XReader_readTexture_103 rfl ?_
      refine zr_iconstv (v := 0) F zd_XReader_readTexture_104 (by decide) ?_
      refine zr_sipushv (v := 255) F zd_XReader_readTexture_105 (by decide) ?_
      refine zr_pcn 108 rfl ?_
      refine zr_iconstv (v := 0) F zd_XReader_readTexture_108 (by decide) ?_
      obtain ⟨le40, hs39, h⟩ := zoS_s h
      obtain ⟨p41, ep41, h⟩ := zoB_s h
      refine zr_callV1 F (k_XReader_numbers l D tA b sh _ ep41) zd_XReader_readTexture_109 (zW_o hs39 (by decide)) rfl zs_XReader_160 rfl zq_XReader_numbers rfl rfl ⟨(Nat.le_of_ble_eq_true rfl), (Nat.le_of_ble_eq_true rfl)⟩ (Nat.le_of_ble_eq_true rfl) ⟨(Nat.le_of_ble_eq_true rfl), (Nat.le_of_ble_eq_true rfl)⟩ ?_
      refine zr_pop F zd_XReader_readTexture_112 rfl ?_
      refine zr_aload_n F zd_XReader_readTexture_113 rfl ?_
      refine zr_aload_n F zd_XReader_readTexture_114 rfl ?_
      obtain ⟨le43, hs42, h⟩ := zoS_s h
      obtain ⟨a44, ea44, h⟩ := zoB_s h
      refine zr_get F 7 2 zd_XReader_readTexture_115 (zW_o hs42 (by decide)) rfl (by decide) zw_50 rfl (by rfl) ?_
      refine zr_tor ea44 ?_
      obtain ⟨le46, hs45, h⟩ := zoS_s h
      obtain ⟨p47, ep47, h⟩ := zoB_s h
      refine zr_callV0 F (k_XTexture_fill l D tA b sh _ ep47) zd_XReader_readTexture_118 (zW_o hs45 (by decide)) rfl zs_XReader_164 rfl zq_XTexture_fill rfl rfl ⟨(Nat.le_of_ble_eq_true rfl), (Nat.le_of_ble_eq_true rfl)⟩ (Nat.le_of_ble_eq_true rfl) ⟨(Nat.le_of_ble_eq_true rfl), (Nat.le_of_ble_eq_true rfl)⟩ ?_
      obtain rfl := Option.some.inj h
      exact zr_vret F hr zd_XReader_readTexture_121 (Nat.le_of_ble_eq_true rfl) (Nat.le_of_ble_eq_true rfl) ⟨rfl, rfl, rfl⟩
    ·
      rw [if_pos hb27] at h
      refine zr_pcn 73 rfl ?_
      refine zr_iconstv (v := 1) F zd_XReader_readTexture_73 (by decide) ?_
      refine zr_goto F 78 zd_XReader_readTexture_74 (by decide) ?_
      obtain ⟨le49, hs48, h⟩ := zoS_s h
      refine zr_put F 10 2 zd_XReader_readTexture_78 (zW_o hs48 (by decide)) rfl (by decide) zw_152 rfl rfl rfl rfl (by exact (Nat.le_of_ble_eq_true rfl)) ?_
      obtain ⟨mm50, emm50, h⟩ := zoL_s h
      refine zr_norm (zW tA b sh mm50) _ (by rw [emm50]; exact zW_pI (v := 1) hs48 (by decide) (zf_I_10_2 b _ _ _)) rfl ?_
      refine zr_aload_n F zd_XReader_readTexture_81 rfl ?_
      refine zr_bipushv (v := 44) F zd_XReader_readTexture_82 (by decide) ?_
      obtain ⟨le52, hs51, h⟩ := zoS_s h
      obtain ⟨p53, ep53, h⟩ := zoB_s h
      refine zr_callV0 F (k_XReader_need l D tA b sh _ ep53) zd_XReader_readTexture_84 (zW_o hs51 (by decide)) rfl zs_XReader_45 rfl zq_XReader_need rfl rfl ⟨(Nat.le_of_ble_eq_true rfl), (Nat.le_of_ble_eq_true rfl)⟩ (Nat.le_of_ble_eq_true rfl) ⟨(Nat.le_of_ble_eq_true rfl), (Nat.le_of_ble_eq_true rfl)⟩ ?_
      refine zr_iconstv (v := 3) F zd_XReader_readTexture_87 (by decide) ?_
      refine zr_aload_n F zd_XReader_readTexture_88 rfl ?_
      refine zr_pcn 89 rfl ?_
      obtain ⟨le55, hs54, h⟩ := zoS_s h
      refine zr_get F 10 0 zd_XReader_readTexture_89 (zW_o hs54 (by decide)) rfl (by decide) zw_149 rfl (by rfl) ?_
      refine zr_imul F zd_XReader_readTexture_92 ?_
      refine zr_aload_n F zd_XReader_readTexture_93 rfl ?_
      obtain ⟨le57, hs56, h⟩ := zoS_s h
      refine zr_get F 10 0 zd_XReader_readTexture_94 (zW_o hs56 (by decide)) rfl (by decide) zw_149 rfl (by rfl) ?_
      refine zr_imul F zd_XReader_readTexture_97 ?_
      obtain ⟨x58, ex58, h⟩ := zoL_s h
      rw [← ex58]
      refine zr_istore_n F zd_XReader_readTexture_98 (by decide) ?_
      refine zr_aload_n F zd_XReader_readTexture_99 rfl ?_
      refine zr_ldcS F 18 "texels" zd_XReader_readTexture_100 (by decide +kernel) ?_
      refine zr_pcn 102 rfl ?_
      refine zr_iload_n F zd_XReader_readTexture_102 rfl ?_
      refine zr_iload_n F zd_XReader_readTexture_103 rfl ?_
      refine zr_iconstv (v := 0) F zd_XReader_readTexture_104 (by decide) ?_
      refine zr_sipushv (v := 255) F zd_XReader_readTexture_105 (by decide) ?_
      refine zr_iconstv (v := 0) F zd_XReader_readTexture_108 (by decide) ?_
      obtain ⟨le60, hs59, h⟩ := zoS_s h
      obtain ⟨p61, ep61, h⟩ := zoB_s h
      refine zr_callV1 F (k_XReader_numbers l D tA b sh _ ep61) zd_XReader_readTexture_109 (zW_o hs59 (by decide)) rfl zs_XReader_160 rfl zq_XReader_numbers rfl rfl ⟨(Nat.le_of_ble_eq_true rfl), (Nat.le_of_ble_eq_true rfl)⟩ (Nat.le_of_ble_eq_true rfl) ⟨(Nat.le_of_ble_eq_true rfl), (Nat.le_of_ble_eq_true rfl)⟩ ?_
      refine zr_pop F zd_XReader_readTexture_112 rfl ?_
      refine zr_aload_n F zd_XReader_readTexture_113 rfl ?_
      refine zr_pcn 114 rfl ?_
      refine zr_aload_n F zd_XReader_readTexture_114 rfl ?_
      obtain ⟨le63, hs62, h⟩ := zoS_s h
      obtain ⟨a64, ea64, h⟩ := zoB_s h
      refine zr_get F 7 2 zd_XReader_readTexture_115 (zW_o hs62 (by decide)) rfl (by decide) zw_50 rfl (by rfl) ?_
      refine zr_tor ea64 ?_
      obtain ⟨le66, hs65, h⟩ := zoS_s h
      obtain ⟨p67, ep67, h⟩ := zoB_s h
      refine zr_callV0 F (k_XTexture_fill l D tA b sh _ ep67) zd_XReader_readTexture_118 (zW_o hs65 (by decide)) rfl zs_XReader_164 rfl zq_XTexture_fill rfl rfl ⟨(Nat.le_of_ble_eq_true rfl), (Nat.le_of_ble_eq_true rfl)⟩ (Nat.le_of_ble_eq_true rfl) ⟨(Nat.le_of_ble_eq_true rfl), (Nat.le_of_ble_eq_true rfl)⟩ ?_
      obtain rfl := Option.some.inj h
      exact zr_vret F hr zd_XReader_readTexture_121 (Nat.le_of_ble_eq_true rfl) (Nat.le_of_ble_eq_true rfl) ⟨rfl, rfl, rfl⟩
  ·
    rw [if_neg hb11] at h
    refine zr_aload_n F zd_XReader_readTexture_27 rfl ?_
    refine zr_iconstv (v := 2) F zd_XReader_readTexture_28 (by decide) ?_
    refine zr_aload_n F zd_XReader_readTexture_29 rfl ?_
    obtain ⟨le69, hs68, h⟩ := zoS_s h
    refine zr_get F 7 6 zd_XReader_readTexture_30 (zW_o hs68 (by decide)) rfl (by decide) zw_54 rfl (by rfl) ?_
    refine zr_pcn 33 rfl ?_
    obtain ⟨le71, hs70, h⟩ := zoS_s h
    cases h
def T_XReader_readTexture (sh : zSh) (mm : zMem) (o : Nat) (x0_ : Nat) : Option zMem := zoS (sh o) 7 (fun le2 => zoX (F_XReader_number sh mm o 15 1 32) (T_XReader_number sh mm o 15 1 32) (fun p3 => zoS (sh x0_) 10 (fun le5 => zoL (mI (p3.2) x0_ 0 (p3.1)) (fun mm6 => zoS (sh x0_) 10 (fun le8 => zoS (sh x0_) 10 (fun le10 => (if ((mm6.1 x0_ 0) &&& ((mm6.1 x0_ 0) - 1)) = 0 then zoS (sh o) 7 (fun le13 => zoX (F_XReader_need sh mm6 o 44) (T_XReader_need sh mm6 o 44) (fun p14 => zoS (sh o) 7 (fun le16 => zoX (F_XReader_number sh p14 o 16 0 2) (T_XReader_number sh p14 o 16 0 2) (fun p17 => zoS (sh x0_) 10 (fun le19 => zoL (mI (p17.2) x0_ 1 (p17.1)) (fun mm20 => zoS (sh o) 7 (fun le22 => zoX (F_XReader_need sh mm20 o 44) (T_XReader_need sh mm20 o 44) (fun p23 => zoS (sh o) 7 (fun le25 => zoX (F_XReader_number sh p23 o 17 0 1) (T_XReader_number sh p23 o 17 0 1) (fun p26 => (if p26.1 = 1 then zoS (sh x0_) 10 (fun le49 => zoL (mI (p26.2) x0_ 2 1) (fun mm50 => zoS (sh o) 7 (fun le52 => zoX (F_XReader_need sh mm50 o 44) (T_XReader_need sh mm50 o 44) (fun p53 => zoS (sh x0_) 10 (fun le55 => zoS (sh x0_) 10 (fun le57 => zoL ((3 * (p53.1 x0_ 0)) * (p53.1 x0_ 0)) (fun x58 => zoS (sh o) 7 (fun le60 => zoX (F_XReader_numbers sh p53 o 18 x58 x58 0 255 0) (T_XReader_numbers sh p53 o 18 x58 x58 0 255 0) (fun p61 => zoS (sh o) 7 (fun le63 => Option.bind ((p61.2).2.2 o 2) (fun a64 => zoS (sh x0_) 10 (fun le66 => Option.bind (F_XTexture_fill sh (p61.2) x0_ a64) (fun p67 => none))))))))))))) else zoS (sh x0_) 10 (fun le29 => zoL (mI (p26.2) x0_ 2 0) (fun mm30 => zoS (sh o) 7 (fun le32 => zoX (F_XReader_need sh mm30 o 44) (T_XReader_need sh mm30 o 44) (fun p33 => zoS (sh x0_) 10 (fun le35 => zoS (sh x0_) 10 (fun le37 => zoL ((3 * (p33.1 x0_ 0)) * (p33.1 x0_ 0)) (fun x38 => zoS (sh o) 7 (fun le40 => zoX (F_XReader_numbers sh p33 o 18 x38 x38 0 255 0) (T_XReader_numbers sh p33 o 18 x38 x38 0 255 0) (fun p41 => zoS (sh o) 7 (fun le43 => Option.bind ((p41.2).2.2 o 2) (fun a44 => zoS (sh x0_) 10 (fun le46 => Option.bind (F_XTexture_fill sh (p41.2) x0_ a44) (fun p47 => none)))))))))))))))))))))))) else zoS (sh o) 7 (fun le69 => zoS (sh o) 7 (fun le71 => T_XReader_refuse sh mm6 o 2 (mm6.1 o 6))))))))))
set_option maxHeartbeats 4000000 in
set_option maxRecDepth 100000 in
theorem kT_XReader_readTexture (l : Launch) (D : va_G) (tA : Nat → ClassId) (b : Nat) (sh : zSh) (n : Nat) (hl : l.stackTraces = false) {mm : zMem} {o : Nat} {x0_ : Nat} {r : zMem} (h : T_XReader_readTexture sh mm o x0_ = some r) : zMT l D tA b zy_XReader_readTexture zb_XReader_readTexture 3 none 9 166 1 6 [.ref (b + o), .ref (b + x0_)] (zW tA b sh mm) n "java/lang/IllegalArgumentException" (zW tA b sh r) (n + 1) := by
  unfold T_XReader_readTexture at h
  refine zMT_of (own := "OrreryBox$Reader") (plainFor_of_name (by decide)) rfl (Nat.le_of_ble_eq_true rfl) (fun p e s m below meth c F hno hH => ?_)
  refine zr_aload_n F zd_XReader_readTexture_0 rfl ?_
  refine zr_aload_n F zd_XReader_readTexture_1 rfl ?_
  refine zr_ldcS F 15 "side" zd_XReader_readTexture_2 (by decide +kernel) ?_
  refine zr_iconstv (v := 1) F zd_XReader_readTexture_4 (by decide) ?_
  refine zr_bipushv (v := 32) F zd_XReader_readTexture_5 (by decide) ?_
  obtain ⟨le2, hs1, h⟩ := zoS_s h
  cases ep3 : F_XReader_number sh mm o 15 1 32 with
  | none =>
    rw [ep3] at h
    dsimp only [zoX] at h
    exact zr_thrV F hno (kT_XReader_number l D tA b sh _ hl h) zd_XReader_readTexture_7 (zW_o hs1 (by decide)) rfl zs_XReader_138 rfl zq_XReader_number rfl rfl ⟨(Nat.le_of_ble_eq_true rfl), (Nat.le_of_ble_eq_true rfl)⟩ (Nat.le_of_ble_eq_true rfl) ⟨(Nat.le_of_ble_eq_true rfl), (Nat.le_of_ble_eq_true rfl)⟩ ⟨(Nat.le_of_ble_eq_true rfl), (Nat.le_of_ble_eq_true rfl)⟩
  | some p3 =>
    rw [ep3] at h
    dsimp only [zoX] at h
    refine zr_callV1 F (k_XReader_number l D tA b sh _ ep3) zd_XReader_readTexture_7 (zW_o hs1 (by decide)) rfl zs_XReader_138 rfl zq_XReader_number rfl rfl ⟨(Nat.le_of_ble_eq_true rfl), (Nat.le_of_ble_eq_true rfl)⟩ (Nat.le_of_ble_eq_true rfl) ⟨(Nat.le_of_ble_eq_true rfl), (Nat.le_of_ble_eq_true rfl)⟩ ?_
    obtain ⟨le5, hs4, h⟩ := zoS_s h
    refine zr_put F 10 0 zd_XReader_readTexture_10 (zW_o hs4 (by decide)) rfl (by decide) zw_149 rfl rfl rfl rfl (by exact (Nat.le_of_ble_eq_true rfl)) ?_
    obtain ⟨mm6, emm6, h⟩ := zoL_s h
    refine zr_norm (zW tA b sh mm6) _ (by rw [emm6]; exact zW_pI (v := (p3.1)) hs4 (by decide) (zf_I_10_0 b _ _ _)) rfl ?_
    refine zr_pcn 13 rfl ?_
    refine zr_aload_n F zd_XReader_readTexture_13 rfl ?_
    obtain ⟨le8, hs7, h⟩ := zoS_s h
    refine zr_get F 10 0 zd_XReader_readTexture_14 (zW_o hs7 (by decide)) rfl (by decide) zw_149 rfl (by rfl) ?_
    refine zr_aload_n F zd_XReader_readTexture_17 rfl ?_
    obtain ⟨le10, hs9, h⟩ := zoS_s h
    refine zr_get F 10 0 zd_XReader_readTexture_18 (zW_o hs9 (by decide)) rfl (by decide) zw_149 rfl (by rfl) ?_
    refine zr_iconstv (v := 1) F zd_XReader_readTexture_21 (by decide) ?_
    refine zr_isub F zd_XReader_readTexture_22 ?_
    refine zr_iand F zd_XReader_readTexture_23 ?_
    refine zr_if_eq F 36 zd_XReader_readTexture_24 (by decide) (fun hb11 => ?_) (fun hb11 => ?_)
    ·
      rw [if_pos hb11] at h
      refine zr_pcn 36 rfl ?_
      refine zr_aload_n F zd_XReader_readTexture_36 rfl ?_
      refine zr_bipushv (v := 44) F zd_XReader_readTexture_37 (by decide) ?_
      obtain ⟨le13, hs12, h⟩ := zoS_s h
      cases ep14 : F_XReader_need sh mm6 o 44 with
      | none =>
        rw [ep14] at h
        dsimp only [zoX] at h
        exact zr_thrV F hno (kT_XReader_need l D tA b sh _ hl h) zd_XReader_readTexture_39 (zW_o hs12 (by decide)) rfl zs_XReader_45 rfl zq_XReader_need rfl rfl ⟨(Nat.le_of_ble_eq_true rfl), (Nat.le_of_ble_eq_true rfl)⟩ (Nat.le_of_ble_eq_true rfl) ⟨(Nat.le_of_ble_eq_true rfl), (Nat.le_of_ble_eq_true rfl)⟩ ⟨(Nat.le_of_ble_eq_true rfl), (Nat.le_of_ble_eq_true rfl)⟩
      | some p14 =>
        rw [ep14] at h
        dsimp only [zoX] at h
        refine zr_callV0 F (k_XReader_need l D tA b sh _ ep14) zd_XReader_readTexture_39 (zW_o hs12 (by decide)) rfl zs_XReader_45 rfl zq_XReader_need rfl rfl ⟨(Nat.le_of_ble_eq_true rfl), (Nat.le_of_ble_eq_true rfl)⟩ (Nat.le_of_ble_eq_true rfl) ⟨(Nat.le_of_ble_eq_true rfl), (Nat.le_of_ble_eq_true rfl)⟩ ?_
        refine zr_aload_n F zd_XReader_readTexture_42 rfl ?_
        refine zr_aload_n F zd_XReader_readTexture_43 rfl ?_
        refine zr_ldcS F 16 "wrap" zd_XReader_readTexture_44 (by decide +kernel) ?_
        refine zr_iconstv (v := 0) F zd_XReader_readTexture_46 (by decide) ?_
        refine zr_iconstv (v := 2) F zd_XReader_readTexture_47 (by decide) ?_
        refine zr_pcn 48 rfl ?_
        obtain ⟨le16, hs15, h⟩ := zoS_s h
        cases ep17 : F_XReader_number sh p14 o 16 0 2 with
        | none =>
          rw [ep17] at h
          dsimp only [zoX] at h
          exact zr_thrV F hno (kT_XReader_number l D tA b sh _ hl h) zd_XReader_readTexture_48 (zW_o hs15 (by decide)) rfl zs_XReader_138 rfl zq_XReader_number rfl rfl ⟨(Nat.le_of_ble_eq_true rfl), (Nat.le_of_ble_eq_true rfl)⟩ (Nat.le_of_ble_eq_true rfl) ⟨(Nat.le_of_ble_eq_true rfl), (Nat.le_of_ble_eq_true rfl)⟩ ⟨(Nat.le_of_ble_eq_true rfl), (Nat.le_of_ble_eq_true rfl)⟩
        | some p17 =>
          rw [ep17] at h
          dsimp only [zoX] at h
          refine zr_callV1 F (k_XReader_number l D tA b sh _ ep17) zd_XReader_readTexture_48 (zW_o hs15 (by decide)) rfl zs_XReader_138 rfl zq_XReader_number rfl rfl ⟨(Nat.le_of_ble_eq_true rfl), (Nat.le_of_ble_eq_true rfl)⟩ (Nat.le_of_ble_eq_true rfl) ⟨(Nat.le_of_ble_eq_true rfl), (Nat.le_of_ble_eq_true rfl)⟩ ?_
          obtain ⟨le19, hs18, h⟩ := zoS_s h
          refine zr_put F 10 1 zd_XReader_readTexture_51 (zW_o hs18 (by decide)) rfl (by decide) zw_150 rfl rfl rfl rfl (by exact (Nat.le_of_ble_eq_true rfl)) ?_
          obtain ⟨mm20, emm20, h⟩ := zoL_s h
          refine zr_norm (zW tA b sh mm20) _ (by rw [emm20]; exact zW_pI (v := (p17.1)) hs18 (by decide) (zf_I_10_1 b _ _ _)) rfl ?_
          refine zr_aload_n F zd_XReader_readTexture_54 rfl ?_
          refine zr_bipushv (v := 44) F zd_XReader_readTexture_55 (by decide) ?_
          obtain ⟨le22, hs21, h⟩ := zoS_s h
          cases ep23 : F_XReader_need sh mm20 o 44 with
          | none =>
            rw [ep23] at h
            dsimp only [zoX] at h
            exact zr_thrV F hno (kT_XReader_need l D tA b sh _ hl h) zd_XReader_readTexture_57 (zW_o hs21 (by decide)) rfl zs_XReader_45 rfl zq_XReader_need rfl rfl ⟨(Nat.le_of_ble_eq_true rfl), (Nat.le_of_ble_eq_true rfl)⟩ (Nat.le_of_ble_eq_true rfl) ⟨(Nat.le_of_ble_eq_true rfl), (Nat.le_of_ble_eq_true rfl)⟩ ⟨(Nat.le_of_ble_eq_true rfl), (Nat.le_of_ble_eq_true rfl)⟩
          | some p23 =>
            rw [ep23] at h
            dsimp only [zoX] at h
            refine zr_callV0 F (k_XReader_need l D tA b sh _ ep23) zd_XReader_readTexture_57 (zW_o hs21 (by decide)) rfl zs_XReader_45 rfl zq_XReader_need rfl rfl ⟨(Nat.le_of_ble_eq_true rfl), (Nat.le_of_ble_eq_true rfl)⟩ (Nat.le_of_ble_eq_true rfl) ⟨(Nat.le_of_ble_eq_true rfl), (Nat.le_of_ble_eq_true rfl)⟩ ?_
            refine zr_aload_n F zd_XReader_readTexture_60 rfl ?_
            refine zr_aload_n F zd_XReader_readTexture_61 rfl ?_
            refine zr_ldcS F 17 "soft" zd_XReader_readTexture_62 (by decide +kernel) ?_
            refine zr_pcn 64 rfl ?_
            refine zr_iconstv (v := 0) F zd_XReader_readTexture_64 (by decide) ?_
            refine zr_iconstv (v := 1) F zd_XReader_readTexture_65 (by decide) ?_
            obtain ⟨le25, hs24, h⟩ := zoS_s h
            cases ep26 : F_XReader_number sh p23 o 17 0 1 with
            | none =>
              rw [ep26] at h
              dsimp only [zoX] at h
              exact zr_thrV F hno (kT_XReader_number l D tA b sh _ hl h) zd_XReader_readTexture_66 (zW_o hs24 (by decide)) rfl zs_XReader_138 rfl zq_XReader_number rfl rfl ⟨(Nat.le_of_ble_eq_true rfl), (Nat.le_of_ble_eq_true rfl)⟩ (Nat.le_of_ble_eq_true rfl) ⟨(Nat.le_of_ble_eq_true rfl), (Nat.le_of_ble_eq_true rfl)⟩ ⟨(Nat.le_of_ble_eq_true rfl), (Nat.le_of_ble_eq_true rfl)⟩
            | some p26 =>
              rw [ep26] at h
              dsimp only [zoX] at h
              refine zr_callV1 F (k_XReader_number l D tA b sh _ ep26) zd_XReader_readTexture_66 (zW_o hs24 (by decide)) rfl zs_XReader_138 rfl zq_XReader_number rfl rfl ⟨(Nat.le_of_ble_eq_true rfl), (Nat.le_of_ble_eq_true rfl)⟩ (Nat.le_of_ble_eq_true rfl) ⟨(Nat.le_of_ble_eq_true rfl), (Nat.le_of_ble_eq_true rfl)⟩ ?_
              refine zr_iconstv (v := 1) F zd_XReader_readTexture_69 (by decide) ?_
              refine zr_icmp_ne F 77 zd_XReader_readTexture_70 (by decide) (fun hb27 => ?_) (fun hb27 => ?_)
              ·
                rw [if_neg hb27] at h
                refine zr_iconstv (v := 0) F zd_XReader_readTexture_77 (by decide) ?_
                obtain ⟨le29, hs28, h⟩ := zoS_s h
                refine zr_put F 10 2 zd_XReader_readTexture_78 (zW_o hs28 (by decide)) rfl (by decide) zw_152 rfl rfl rfl rfl (by exact (Nat.le_of_ble_eq_true rfl)) ?_
                obtain ⟨mm30, emm30, h⟩ := zoL_s h
                refine zr_norm (zW tA b sh mm30) _ (by rw [emm30]; exact zW_pI (v := 0) hs28 (by decide) (zf_I_10_2 b _ _ _)) rfl ?_
                refine zr_aload_n F zd_XReader_readTexture_81 rfl ?_
                refine zr_pcn 82 rfl ?_
                refine zr_bipushv (v := 44) F zd_XReader_readTexture_82 (by decide) ?_
                obtain ⟨le32, hs31, h⟩ := zoS_s h
                cases ep33 : F_XReader_need sh mm30 o 44 with
                | none =>
                  rw [ep33] at h
                  dsimp only [zoX] at h
                  exact zr_thrV F hno (kT_XReader_need l D tA b sh _ hl h) zd_XReader_readTexture_84 (zW_o hs31 (by decide)) rfl zs_XReader_45 rfl zq_XReader_need rfl rfl ⟨(Nat.le_of_ble_eq_true rfl), (Nat.le_of_ble_eq_true rfl)⟩ (Nat.le_of_ble_eq_true rfl) ⟨(Nat.le_of_ble_eq_true rfl), (Nat.le_of_ble_eq_true rfl)⟩ ⟨(Nat.le_of_ble_eq_true rfl), (Nat.le_of_ble_eq_true rfl)⟩
                | some p33 =>
                  rw [ep33] at h
                  dsimp only [zoX] at h
                  refine zr_callV0 F (k_XReader_need l D tA b sh _ ep33) zd_XReader_readTexture_84 (zW_o hs31 (by decide)) rfl zs_XReader_45 rfl zq_XReader_need rfl rfl ⟨(Nat.le_of_ble_eq_true rfl), (Nat.le_of_ble_eq_true rfl)⟩ (Nat.le_of_ble_eq_true rfl) ⟨(Nat.le_of_ble_eq_true rfl), (Nat.le_of_ble_eq_true rfl)⟩ ?_
                  refine zr_iconstv (v := 3) F zd_XReader_readTexture_87 (by decide) ?_
                  refine zr_aload_n F zd_XReader_readTexture_88 rfl ?_
                  obtain ⟨le35, hs34, h⟩ := zoS_s h
                  refine zr_get F 10 0 zd_XReader_readTexture_89 (zW_o hs34 (by decide)) rfl (by decide) zw_149 rfl (by rfl) ?_
                  refine zr_imul F zd_XReader_readTexture_92 ?_
                  refine zr_aload_n F zd_XReader_readTexture_93 rfl ?_
                  obtain ⟨le37, hs36, h⟩ := zoS_s h
                  refine zr_get F 10 0 zd_XReader_readTexture_94 (zW_o hs36 (by decide)) rfl (by decide) zw_149 rfl (by rfl) ?_
                  refine zr_pcn 97 rfl ?_
                  refine zr_imul F zd_XReader_readTexture_97 ?_
                  obtain ⟨x38, ex38, h⟩ := zoL_s h
                  rw [← ex38]
                  refine zr_istore_n F zd_XReader_readTexture_98 (by decide) ?_
                  refine zr_aload_n F zd_XReader_readTexture_99 rfl ?_
                  refine zr_ldcS F 18 "texels" zd_XReader_readTexture_100 (by decide +kernel) ?_
                  refine zr_iload_n F zd_XReader_readTexture_102 rfl ?_
                  refine zr_iload_n F zd_XReader_readTexture_103 rfl ?_
                  refine zr_iconstv (v := 0) F zd_XReader_readTexture_104 (by decide) ?_
                  refine zr_sipushv (v := 255) F zd_XReader_readTexture_105 (by decide) ?_
                  refine zr_pcn 108 rfl ?_
                  refine zr_iconstv (v := 0) F zd_XReader_readTexture_108 (by decide) ?_
                  obtain ⟨le40, hs39, h⟩ := zoS_s h
                  cases ep41 : F_XReader_numbers sh p33 o 18 x38 x38 0 255 0 with
                  | none =>
                    rw [ep41] at h
                    dsimp only [zoX] at h
                    exact zr_thrV F hno (kT_XReader_numbers l D tA b sh _ hl h) zd_XReader_readTexture_109 (zW_o hs39 (by decide)) rfl zs_XReader_160 rfl zq_XReader_numbers rfl rfl ⟨(Nat.le_of_ble_eq_true rfl), (Nat.le_of_ble_eq_true rfl)⟩ (Nat.le_of_ble_eq_true rfl) ⟨(Nat.le_of_ble_eq_true rfl), (Nat.le_of_ble_eq_true rfl)⟩ ⟨(Nat.le_of_ble_eq_true rfl), (Nat.le_of_ble_eq_true rfl)⟩
                  | some p41 =>
                    rw [ep41] at h
                    dsimp only [zoX] at h
                    refine zr_callV1 F (k_XReader_numbers l D tA b sh _ ep41) zd_XReader_readTexture_109 (zW_o hs39 (by decide)) rfl zs_XReader_160 rfl zq_XReader_numbers rfl rfl ⟨(Nat.le_of_ble_eq_true rfl), (Nat.le_of_ble_eq_true rfl)⟩ (Nat.le_of_ble_eq_true rfl) ⟨(Nat.le_of_ble_eq_true rfl), (Nat.le_of_ble_eq_true rfl)⟩ ?_
                    refine zr_pop F zd_XReader_readTexture_112 rfl ?_
                    refine zr_aload_n F zd_XReader_readTexture_113 rfl ?_
                    refine zr_aload_n F zd_XReader_readTexture_114 rfl ?_
                    obtain ⟨le43, hs42, h⟩ := zoS_s h
                    obtain ⟨a44, ea44, h⟩ := zoB_s h
                    refine zr_get F 7 2 zd_XReader_readTexture_115 (zW_o hs42 (by decide)) rfl (by decide) zw_50 rfl (by rfl) ?_
                    refine zr_tor ea44 ?_
                    obtain ⟨le46, hs45, h⟩ := zoS_s h
                    obtain ⟨p47, ep47, h⟩ := zoB_s h
                    refine zr_callV0 F (k_XTexture_fill l D tA b sh _ ep47) zd_XReader_readTexture_118 (zW_o hs45 (by decide)) rfl zs_XReader_164 rfl zq_XTexture_fill rfl rfl ⟨(Nat.le_of_ble_eq_true rfl), (Nat.le_of_ble_eq_true rfl)⟩ (Nat.le_of_ble_eq_true rfl) ⟨(Nat.le_of_ble_eq_true rfl), (Nat.le_of_ble_eq_true rfl)⟩ ?_
                    cases h
              ·
                rw [if_pos hb27] at h
                refine zr_pcn 73 rfl ?_
                refine zr_iconstv (v := 1) F zd_XReader_readTexture_73 (by decide) ?_
                refine zr_goto F 78 zd_XReader_readTexture_74 (by decide) ?_
                obtain ⟨le49, hs48, h⟩ := zoS_s h
                refine zr_put F 10 2 zd_XReader_readTexture_78 (zW_o hs48 (by decide)) rfl (by decide) zw_152 rfl rfl rfl rfl (by exact (Nat.le_of_ble_eq_true rfl)) ?_
                obtain ⟨mm50, emm50, h⟩ := zoL_s h
                refine zr_norm (zW tA b sh mm50) _ (by rw [emm50]; exact zW_pI (v := 1) hs48 (by decide) (zf_I_10_2 b _ _ _)) rfl ?_
                refine zr_aload_n F zd_XReader_readTexture_81 rfl ?_
                refine zr_bipushv (v := 44) F zd_XReader_readTexture_82 (by decide) ?_
                obtain ⟨le52, hs51, h⟩ := zoS_s h
                cases ep53 : F_XReader_need sh mm50 o 44 with
                | none =>
                  rw [ep53] at h
                  dsimp only [zoX] at h
                  exact zr_thrV F hno (kT_XReader_need l D tA b sh _ hl h) zd_XReader_readTexture_84 (zW_o hs51 (by decide)) rfl zs_XReader_45 rfl zq_XReader_need rfl rfl ⟨(Nat.le_of_ble_eq_true rfl), (Nat.le_of_ble_eq_true rfl)⟩ (Nat.le_of_ble_eq_true rfl) ⟨(Nat.le_of_ble_eq_true rfl), (Nat.le_of_ble_eq_true rfl)⟩ ⟨(Nat.le_of_ble_eq_true rfl), (Nat.le_of_ble_eq_true rfl)⟩
                | some p53 =>
                  rw [ep53] at h
                  dsimp only [zoX] at h
                  refine zr_callV0 F (k_XReader_need l D tA b sh _ ep53) zd_XReader_readTexture_84 (zW_o hs51 (by decide)) rfl zs_XReader_45 rfl zq_XReader_need rfl rfl ⟨(Nat.le_of_ble_eq_true rfl), (Nat.le_of_ble_eq_true rfl)⟩ (Nat.le_of_ble_eq_true rfl) ⟨(Nat.le_of_ble_eq_true rfl), (Nat.le_of_ble_eq_true rfl)⟩ ?_
                  refine zr_iconstv (v := 3) F zd_XReader_readTexture_87 (by decide) ?_
                  refine zr_aload_n F zd_XReader_readTexture_88 rfl ?_
                  refine zr_pcn 89 rfl ?_
                  obtain ⟨le55, hs54, h⟩ := zoS_s h
                  refine zr_get F 10 0 zd_XReader_readTexture_89 (zW_o hs54 (by decide)) rfl (by decide) zw_149 rfl (by rfl) ?_
                  refine zr_imul F zd_XReader_readTexture_92 ?_
                  refine zr_aload_n F zd_XReader_readTexture_93 rfl ?_
                  obtain ⟨le57, hs56, h⟩ := zoS_s h
                  refine zr_get F 10 0 zd_XReader_readTexture_94 (zW_o hs56 (by decide)) rfl (by decide) zw_149 rfl (by rfl) ?_
                  refine zr_imul F zd_XReader_readTexture_97 ?_
                  obtain ⟨x58, ex58, h⟩ := zoL_s h
                  rw [← ex58]
                  refine zr_istore_n F zd_XReader_readTexture_98 (by decide) ?_
                  refine zr_aload_n F zd_XReader_readTexture_99 rfl ?_
                  refine zr_ldcS F 18 "texels" zd_XReader_readTexture_100 (by decide +kernel) ?_
                  refine zr_pcn 102 rfl ?_
                  refine zr_iload_n F zd_XReader_readTexture_102 rfl ?_
                  refine zr_iload_n F zd_XReader_readTexture_103 rfl ?_
                  refine zr_iconstv (v := 0) F zd_XReader_readTexture_104 (by decide) ?_
                  refine zr_sipushv (v := 255) F zd_XReader_readTexture_105 (by decide) ?_
                  refine zr_iconstv (v := 0) F zd_XReader_readTexture_108 (by decide) ?_
                  obtain ⟨le60, hs59, h⟩ := zoS_s h
                  cases ep61 : F_XReader_numbers sh p53 o 18 x58 x58 0 255 0 with
                  | none =>
                    rw [ep61] at h
                    dsimp only [zoX] at h
                    exact zr_thrV F hno (kT_XReader_numbers l D tA b sh _ hl h) zd_XReader_readTexture_109 (zW_o hs59 (by decide)) rfl zs_XReader_160 rfl zq_XReader_numbers rfl rfl ⟨(Nat.le_of_ble_eq_true rfl), (Nat.le_of_ble_eq_true rfl)⟩ (Nat.le_of_ble_eq_true rfl) ⟨(Nat.le_of_ble_eq_true rfl), (Nat.le_of_ble_eq_true rfl)⟩ ⟨(Nat.le_of_ble_eq_true rfl), (Nat.le_of_ble_eq_true rfl)⟩
                  | some p61 =>
                    rw [ep61] at h
                    dsimp only [zoX] at h
                    refine zr_callV1 F (k_XReader_numbers l D tA b sh _ ep61) zd_XReader_readTexture_109 (zW_o hs59 (by decide)) rfl zs_XReader_160 rfl zq_XReader_numbers rfl rfl ⟨(Nat.le_of_ble_eq_true rfl), (Nat.le_of_ble_eq_true rfl)⟩ (Nat.le_of_ble_eq_true rfl) ⟨(Nat.le_of_ble_eq_true rfl), (Nat.le_of_ble_eq_true rfl)⟩ ?_
                    refine zr_pop F zd_XReader_readTexture_112 rfl ?_
                    refine zr_aload_n F zd_XReader_readTexture_113 rfl ?_
                    refine zr_pcn 114 rfl ?_
                    refine zr_aload_n F zd_XReader_readTexture_114 rfl ?_
                    obtain ⟨le63, hs62, h⟩ := zoS_s h
                    obtain ⟨a64, ea64, h⟩ := zoB_s h
                    refine zr_get F 7 2 zd_XReader_readTexture_115 (zW_o hs62 (by decide)) rfl (by decide) zw_50 rfl (by rfl) ?_
                    refine zr_tor ea64 ?_
                    obtain ⟨le66, hs65, h⟩ := zoS_s h
                    obtain ⟨p67, ep67, h⟩ := zoB_s h
                    refine zr_callV0 F (k_XTexture_fill l D tA b sh _ ep67) zd_XReader_readTexture_118 (zW_o hs65 (by decide)) rfl zs_XReader_164 rfl zq_XTexture_fill rfl rfl ⟨(Nat.le_of_ble_eq_true rfl), (Nat.le_of_ble_eq_true rfl)⟩ (Nat.le_of_ble_eq_true rfl) ⟨(Nat.le_of_ble_eq_true rfl), (Nat.le_of_ble_eq_true rfl)⟩ ?_
                    cases h
    ·
      rw [if_neg hb11] at h
      refine zr_aload_n F zd_XReader_readTexture_27 rfl ?_
      refine zr_iconstv (v := 2) F zd_XReader_readTexture_28 (by decide) ?_
      refine zr_aload_n F zd_XReader_readTexture_29 rfl ?_
      obtain ⟨le69, hs68, h⟩ := zoS_s h
      refine zr_get F 7 6 zd_XReader_readTexture_30 (zW_o hs68 (by decide)) rfl (by decide) zw_54 rfl (by rfl) ?_
      refine zr_pcn 33 rfl ?_
      obtain ⟨le71, hs70, h⟩ := zoS_s h
      exact zr_thrV F hno (kT_XReader_refuse l D tA b sh _ hl h) zd_XReader_readTexture_33 (zW_o hs70 (by decide)) rfl zs_XReader_77 rfl zq_XReader_refuse rfl rfl ⟨(Nat.le_of_ble_eq_true rfl), (Nat.le_of_ble_eq_true rfl)⟩ (Nat.le_of_ble_eq_true rfl) ⟨(Nat.le_of_ble_eq_true rfl), (Nat.le_of_ble_eq_true rfl)⟩ ⟨(Nat.le_of_ble_eq_true rfl), (Nat.le_of_ble_eq_true rfl)⟩
