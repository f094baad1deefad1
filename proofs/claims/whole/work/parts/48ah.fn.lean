abbrev zb_XPacker_putDistance : ByteArray := prog_5_method_22_code
def zy_XPacker_putDistance : MethodName := ⟨"OrreryBox$Packer", "putDistance", "(I)V"⟩
theorem zc_XPacker_putDistance : Cond.code zy_XPacker_putDistance zb_XPacker_putDistance 4 none ∈ gw := gw_t 1047 (by decide +kernel) rfl
theorem zq_XPacker_putDistance : zy_XPacker_putDistance.cls ≠ "java/lang/invoke/MethodHandle" ∧ zy_XPacker_putDistance.cls ≠ "java/lang/invoke/VarHandle" ∧ (parseMethodDescriptor zy_XPacker_putDistance.desc).map (fun d => d.parameters.length) = some 1 := by decide +kernel
theorem zd_XPacker_putDistance_0 : decode zb_XPacker_putDistance 0 = .ok (.iload_n 1, 1) := by decide +kernel
theorem zd_XPacker_putDistance_1 : decode zb_XPacker_putDistance 1 = .ok (.iconst 5, 1) := by decide +kernel
theorem zd_XPacker_putDistance_2 : decode zb_XPacker_putDistance 2 = .ok (.if_icmp .ge 12, 3) := by decide +kernel
theorem zd_XPacker_putDistance_5 : decode zb_XPacker_putDistance 5 = .ok (.aload_n 0, 1) := by decide +kernel
theorem zd_XPacker_putDistance_6 : decode zb_XPacker_putDistance 6 = .ok (.iload_n 1, 1) := by decide +kernel
theorem zd_XPacker_putDistance_7 : decode zb_XPacker_putDistance 7 = .ok (.iconst 1, 1) := by decide +kernel
theorem zd_XPacker_putDistance_8 : decode zb_XPacker_putDistance 8 = .ok (.isub, 1) := by decide +kernel
theorem zd_XPacker_putDistance_9 : decode zb_XPacker_putDistance 9 = .ok (.iconst 5, 1) := by decide +kernel
theorem zd_XPacker_putDistance_10 : decode zb_XPacker_putDistance 10 = .ok (.invokevirtual 148, 3) := by decide +kernel
theorem zd_XPacker_putDistance_13 : decode zb_XPacker_putDistance 13 = .ok (.return_, 1) := by decide +kernel
theorem zd_XPacker_putDistance_14 : decode zb_XPacker_putDistance 14 = .ok (.iconst 1, 1) := by decide +kernel
theorem zd_XPacker_putDistance_15 : decode zb_XPacker_putDistance 15 = .ok (.istore_n 2, 1) := by decide +kernel
theorem zd_XPacker_putDistance_16 : decode zb_XPacker_putDistance 16 = .ok (.iconst 5, 1) := by decide +kernel
theorem zd_XPacker_putDistance_17 : decode zb_XPacker_putDistance 17 = .ok (.istore_n 3, 1) := by decide +kernel
theorem zd_XPacker_putDistance_18 : decode zb_XPacker_putDistance 18 = .ok (.iload_n 2, 1) := by decide +kernel
theorem zd_XPacker_putDistance_19 : decode zb_XPacker_putDistance 19 = .ok (.bipush 13, 2) := by decide +kernel
theorem zd_XPacker_putDistance_21 : decode zb_XPacker_putDistance 21 = .ok (.if_icmp .ge 24, 3) := by decide +kernel
theorem zd_XPacker_putDistance_24 : decode zb_XPacker_putDistance 24 = .ok (.iload_n 1, 1) := by decide +kernel
theorem zd_XPacker_putDistance_25 : decode zb_XPacker_putDistance 25 = .ok (.iload_n 3, 1) := by decide +kernel
theorem zd_XPacker_putDistance_26 : decode zb_XPacker_putDistance 26 = .ok (.iconst 2, 1) := by decide +kernel
theorem zd_XPacker_putDistance_27 : decode zb_XPacker_putDistance 27 = .ok (.iload_n 2, 1) := by decide +kernel
theorem zd_XPacker_putDistance_28 : decode zb_XPacker_putDistance 28 = .ok (.ishl, 1) := by decide +kernel
theorem zd_XPacker_putDistance_29 : decode zb_XPacker_putDistance 29 = .ok (.iadd, 1) := by decide +kernel
theorem zd_XPacker_putDistance_30 : decode zb_XPacker_putDistance 30 = .ok (.if_icmp .lt 15, 3) := by decide +kernel
theorem zd_XPacker_putDistance_33 : decode zb_XPacker_putDistance 33 = .ok (.iload_n 3, 1) := by decide +kernel
theorem zd_XPacker_putDistance_34 : decode zb_XPacker_putDistance 34 = .ok (.iconst 2, 1) := by decide +kernel
theorem zd_XPacker_putDistance_35 : decode zb_XPacker_putDistance 35 = .ok (.iload_n 2, 1) := by decide +kernel
theorem zd_XPacker_putDistance_36 : decode zb_XPacker_putDistance 36 = .ok (.ishl, 1) := by decide +kernel
theorem zd_XPacker_putDistance_37 : decode zb_XPacker_putDistance 37 = .ok (.iadd, 1) := by decide +kernel
theorem zd_XPacker_putDistance_38 : decode zb_XPacker_putDistance 38 = .ok (.istore_n 3, 1) := by decide +kernel
theorem zd_XPacker_putDistance_39 : decode zb_XPacker_putDistance 39 = .ok (.iinc 2 1, 3) := by decide +kernel
theorem zd_XPacker_putDistance_42 : decode zb_XPacker_putDistance 42 = .ok (.goto (-24), 3) := by decide +kernel
theorem zd_XPacker_putDistance_45 : decode zb_XPacker_putDistance 45 = .ok (.aload_n 0, 1) := by decide +kernel
theorem zd_XPacker_putDistance_46 : decode zb_XPacker_putDistance 46 = .ok (.iconst 2, 1) := by decide +kernel
theorem zd_XPacker_putDistance_47 : decode zb_XPacker_putDistance 47 = .ok (.iconst 2, 1) := by decide +kernel
theorem zd_XPacker_putDistance_48 : decode zb_XPacker_putDistance 48 = .ok (.iload_n 2, 1) := by decide +kernel
theorem zd_XPacker_putDistance_49 : decode zb_XPacker_putDistance 49 = .ok (.imul, 1) := by decide +kernel
theorem zd_XPacker_putDistance_50 : decode zb_XPacker_putDistance 50 = .ok (.iadd, 1) := by decide +kernel
theorem zd_XPacker_putDistance_51 : decode zb_XPacker_putDistance 51 = .ok (.iload_n 1, 1) := by decide +kernel
theorem zd_XPacker_putDistance_52 : decode zb_XPacker_putDistance 52 = .ok (.iload_n 3, 1) := by decide +kernel
theorem zd_XPacker_putDistance_53 : decode zb_XPacker_putDistance 53 = .ok (.isub, 1) := by decide +kernel
theorem zd_XPacker_putDistance_54 : decode zb_XPacker_putDistance 54 = .ok (.iload_n 2, 1) := by decide +kernel
theorem zd_XPacker_putDistance_55 : decode zb_XPacker_putDistance 55 = .ok (.ishr, 1) := by decide +kernel
theorem zd_XPacker_putDistance_56 : decode zb_XPacker_putDistance 56 = .ok (.iadd, 1) := by decide +kernel
theorem zd_XPacker_putDistance_57 : decode zb_XPacker_putDistance 57 = .ok (.iconst 5, 1) := by decide +kernel
theorem zd_XPacker_putDistance_58 : decode zb_XPacker_putDistance 58 = .ok (.invokevirtual 148, 3) := by decide +kernel
theorem zd_XPacker_putDistance_61 : decode zb_XPacker_putDistance 61 = .ok (.aload_n 0, 1) := by decide +kernel
theorem zd_XPacker_putDistance_62 : decode zb_XPacker_putDistance 62 = .ok (.iload_n 1, 1) := by decide +kernel
theorem zd_XPacker_putDistance_63 : decode zb_XPacker_putDistance 63 = .ok (.iload_n 3, 1) := by decide +kernel
theorem zd_XPacker_putDistance_64 : decode zb_XPacker_putDistance 64 = .ok (.isub, 1) := by decide +kernel
theorem zd_XPacker_putDistance_65 : decode zb_XPacker_putDistance 65 = .ok (.iload_n 2, 1) := by decide +kernel
theorem zd_XPacker_putDistance_66 : decode zb_XPacker_putDistance 66 = .ok (.invokevirtual 118, 3) := by decide +kernel
theorem zd_XPacker_putDistance_69 : decode zb_XPacker_putDistance 69 = .ok (.return_, 1) := by decide +kernel
def L_XPacker_putDistance_18 (sh : zSh) (fuel : Nat) (v0 : Nat) (v1 : Int32) (v2 : Int32) (v3 : Int32) (mm : zMem) : Option (Nat × Int32 × Int32 × Int32 × zMem) := match fuel with
  | 0 => none
  | fu + 1 => (if 13 ≤ v2 then some (v0, v1, v2, v3, mm) else (if v1 < (v3 + (2 <<< (v2 &&& 31))) then some (v0, v1, v2, v3, mm) else zoL (v3 + (2 <<< (v2 &&& 31))) (fun x4 => L_XPacker_putDistance_18 sh fu v0 v1 (v2 + 1) x4 mm)))
set_option maxHeartbeats 4000000 in
set_option maxRecDepth 100000 in
theorem lp_XPacker_putDistance_18 {p : Program} {l : Launch} {e : Env} {s : State} {m : MethodId} {args : Array Value} {below : List Frame} {meth : Method} {c : Code} {D : va_G} {tA : Nat → ClassId} {b n : Nat} {post : Option Value → zV → Nat → Prop} {sh : zSh} (F : zF p s m args meth c zb_XPacker_putDistance 4 "OrreryBox$Packer" D tA b) : ∀ (fuel : Nat) (v0 : Nat) (v1 : Int32) (v2 : Int32) (v3 : Int32) (mm : zMem) (r : Nat × Int32 × Int32 × Int32 × zMem), L_XPacker_putDistance_18 sh fuel v0 v1 v2 v3 mm = some r → (Z p l e { frames := 2, cells := 0, slots := 0, locals := 44 } s m args below meth c D b 4 (MQ below (zQ D b post) args s 0 0 (fun q => b ≤ q)) (zW tA b sh r.2.2.2.2) n 0 0 45 [(0, .ref (b + (r.1))), (1, .int (r.2.1)), (2, .int (r.2.2.1)), (3, .int (r.2.2.2.1))] []) → Z p l e { frames := 2, cells := 0, slots := 0, locals := 44 } s m args below meth c D b 4 (MQ below (zQ D b post) args s 0 0 (fun q => b ≤ q)) (zW tA b sh mm) n 0 0 18 [(0, .ref (b + v0)), (1, .int v1), (2, .int v2), (3, .int v3)] [] := by
  intro fuel
  induction fuel with
  | zero =>
    intro v0 v1 v2 v3 mm r h
    cases h
  | succ fu ih =>
    intro v0 v1 v2 v3 mm r h hx0
    rw [L_XPacker_putDistance_18] at h
    refine zr_pcn 18 rfl ?_
    refine zr_iload_n F zd_XPacker_putDistance_18 rfl ?_
    refine zr_bipushv (v := 13) F zd_XPacker_putDistance_19 (by decide) ?_
    refine zr_icmp_ge F 45 zd_XPacker_putDistance_21 (by decide) (fun hb2 => ?_) (fun hb2 => ?_)
    ·
      replace h := (if_pos hb2).symm.trans h
      obtain rfl := Option.some.inj h
      refine zr_loc (L' := [(0, .ref (b + v0)), (1, .int v1), (2, .int v2), (3, .int v3)]) ⟨rfl, rfl, rfl, rfl, trivial⟩ ?_
      exact hx0 
    ·
      replace h := (if_neg hb2).symm.trans h
      refine zr_iload_n F zd_XPacker_putDistance_24 rfl ?_
      refine zr_iload_n F zd_XPacker_putDistance_25 rfl ?_
      refine zr_iconstv (v := 2) F zd_XPacker_putDistance_26 (by decide) ?_
      refine zr_iload_n F zd_XPacker_putDistance_27 rfl ?_
      refine zr_ishl F zd_XPacker_putDistance_28 ?_
      refine zr_pcn 29 rfl ?_
      refine zr_iadd F zd_XPacker_putDistance_29 ?_
      refine zr_icmp_lt F 45 zd_XPacker_putDistance_30 (by decide) (fun hb3 => ?_) (fun hb3 => ?_)
      ·
        replace h := (if_pos hb3).symm.trans h
        obtain rfl := Option.some.inj h
        refine zr_loc (L' := [(0, .ref (b + v0)), (1, .int v1), (2, .int v2), (3, .int v3)]) ⟨rfl, rfl, rfl, rfl, trivial⟩ ?_
        exact hx0 
      ·
        replace h := (if_neg hb3).symm.trans h
        refine zr_iload_n F zd_XPacker_putDistance_33 rfl ?_
        refine zr_iconstv (v := 2) F zd_XPacker_putDistance_34 (by decide) ?_
        refine zr_iload_n F zd_XPacker_putDistance_35 rfl ?_
        refine zr_ishl F zd_XPacker_putDistance_36 ?_
        refine zr_iadd F zd_XPacker_putDistance_37 ?_
        obtain ⟨x4, ex4, h⟩ := zoL_s h
        rw [← ex4]
        refine zr_istore_n F zd_XPacker_putDistance_38 (by decide) ?_
        refine zr_pcn 39 rfl ?_
        refine zr_iinc (v := (v2 + 1)) F zd_XPacker_putDistance_39 rfl rfl (by decide) ?_
        refine zr_goto F 18 zd_XPacker_putDistance_42 (by decide) ?_
        refine zr_loc (L' := [(0, .ref (b + v0)), (1, .int v1), (2, .int (v2 + 1)), (3, .int x4)]) ⟨rfl, rfl, rfl, rfl, trivial⟩ ?_
        exact ih _ _ _ _ _ _ h hx0
def F_XPacker_putDistance (sh : zSh) (mm : zMem) (o : Nat) (x0_ : Int32) : Option zMem := (if 5 ≤ x0_ then Option.bind (L_XPacker_putDistance_18 sh zfuel o x0_ 1 5 mm) (fun q5 => zoS (sh (q5.1)) 4 (fun le7 => zoL ((2 + (2 * q5.2.2.1)) + ((q5.2.1 - q5.2.2.2.1) >>> (q5.2.2.1 &&& 31))) (fun x8 => Option.bind (F_XPacker_putHighFirst sh (q5.2.2.2.2) (q5.1) x8 5) (fun p9 => zoS (sh (q5.1)) 4 (fun le11 => Option.bind (F_XPacker_putLowFirst sh p9 (q5.1) (q5.2.1 - q5.2.2.2.1) (q5.2.2.1)) (fun p12 => some p12)))))) else zoS (sh o) 4 (fun le14 => Option.bind (F_XPacker_putHighFirst sh mm o (x0_ - 1) 5) (fun p15 => some p15)))
set_option maxHeartbeats 4000000 in
set_option maxRecDepth 100000 in
theorem k_XPacker_putDistance (l : Launch) (D : va_G) (tA : Nat → ClassId) (b : Nat) (sh : zSh) (n : Nat) {mm : zMem} {o : Nat} {x0_ : Int32} {r : zMem} (h : F_XPacker_putDistance sh mm o x0_ = some r) : zM l D tA b zy_XPacker_putDistance zb_XPacker_putDistance 4 none 2 44 0 0 [.ref (b + o), .int x0_] (zW tA b sh mm) n (zE none (zW tA b sh r) n) := by
  unfold F_XPacker_putDistance at h
  refine zM_of (own := "OrreryBox$Packer") (plainFor_of_name (by decide)) rfl (Nat.le_of_ble_eq_true rfl) (fun p e s m below meth c F hr hin hH => ?_)
  refine zr_iload_n F zd_XPacker_putDistance_0 rfl ?_
  refine zr_iconstv (v := 5) F zd_XPacker_putDistance_1 (by decide) ?_
  refine zr_icmp_ge F 14 zd_XPacker_putDistance_2 (by decide) (fun hb1 => ?_) (fun hb1 => ?_)
  ·
    replace h := (if_pos hb1).symm.trans h
    refine zr_iconstv (v := 1) F zd_XPacker_putDistance_14 (by decide) ?_
    refine zr_istore_n F zd_XPacker_putDistance_15 (by decide) ?_
    refine zr_iconstv (v := 5) F zd_XPacker_putDistance_16 (by decide) ?_
    refine zr_istore_n F zd_XPacker_putDistance_17 (by decide) ?_
    obtain ⟨q5, eq5, h⟩ := zoB_s h
    refine zr_loc (L' := [(0, .ref (b + o)), (1, .int x0_), (2, .int 1), (3, .int 5)]) ⟨rfl, rfl, rfl, rfl, trivial⟩ ?_
    refine lp_XPacker_putDistance_18 F _ _ _ _ _ _ _ eq5 ?_
    ·
      refine zr_aload_n F zd_XPacker_putDistance_45 rfl ?_
      refine zr_iconstv (v := 2) F zd_XPacker_putDistance_46 (by decide) ?_
      refine zr_iconstv (v := 2) F zd_XPacker_putDistance_47 (by decide) ?_
      refine zr_iload_n F zd_XPacker_putDistance_48 rfl ?_
      refine zr_imul F zd_XPacker_putDistance_49 ?_
      refine zr_iadd F zd_XPacker_putDistance_50 ?_
      refine zr_pcn 51 rfl ?_
      refine zr_iload_n F zd_XPacker_putDistance_51 rfl ?_
      refine zr_iload_n F zd_XPacker_putDistance_52 rfl ?_
      refine zr_isub F zd_XPacker_putDistance_53 ?_
      refine zr_iload_n F zd_XPacker_putDistance_54 rfl ?_
      refine zr_ishr F zd_XPacker_putDistance_55 ?_
      refine zr_iadd F zd_XPacker_putDistance_56 ?_
      refine zr_iconstv (v := 5) F zd_XPacker_putDistance_57 (by decide) ?_
      obtain ⟨le7, hs6, h⟩ := zoS_s h
      obtain ⟨x8, ex8, h⟩ := zoL_s h
      rw [← ex8]
      obtain ⟨p9, ep9, h⟩ := zoB_s h
      refine zr_callV0 F (k_XPacker_putHighFirst l D tA b sh _ ep9) zd_XPacker_putDistance_58 (zW_o hs6 (by decide)) rfl zs_XPacker_148 rfl zq_XPacker_putHighFirst rfl rfl ⟨(Nat.le_of_ble_eq_true rfl), (Nat.le_of_ble_eq_true rfl)⟩ (Nat.le_of_ble_eq_true rfl) ⟨(Nat.le_of_ble_eq_true rfl), (Nat.le_of_ble_eq_true rfl)⟩ ?_
      refine zr_pcn 61 rfl ?_
      refine zr_aload_n F zd_XPacker_putDistance_61 rfl ?_
      refine zr_iload_n F zd_XPacker_putDistance_62 rfl ?_
      refine zr_iload_n F zd_XPacker_putDistance_63 rfl ?_
      refine zr_isub F zd_XPacker_putDistance_64 ?_
      refine zr_iload_n F zd_XPacker_putDistance_65 rfl ?_
      obtain ⟨le11, hs10, h⟩ := zoS_s h
      obtain ⟨p12, ep12, h⟩ := zoB_s h
      refine zr_callV0 F (k_XPacker_putLowFirst l D tA b sh _ ep12) zd_XPacker_putDistance_66 (zW_o hs10 (by decide)) rfl zs_XPacker_118 rfl zq_XPacker_putLowFirst rfl rfl ⟨(Nat.le_of_ble_eq_true rfl), (Nat.le_of_ble_eq_true rfl)⟩ (Nat.le_of_ble_eq_true rfl) ⟨(Nat.le_of_ble_eq_true rfl), (Nat.le_of_ble_eq_true rfl)⟩ ?_
      obtain rfl := Option.some.inj h
      exact zr_vret F hr zd_XPacker_putDistance_69 (Nat.le_of_ble_eq_true rfl) (Nat.le_of_ble_eq_true rfl) ⟨rfl, rfl, rfl⟩
  ·
    replace h := (if_neg hb1).symm.trans h
    refine zr_aload_n F zd_XPacker_putDistance_5 rfl ?_
    refine zr_pcn 6 rfl ?_
    refine zr_iload_n F zd_XPacker_putDistance_6 rfl ?_
    refine zr_iconstv (v := 1) F zd_XPacker_putDistance_7 (by decide) ?_
    refine zr_isub F zd_XPacker_putDistance_8 ?_
    refine zr_iconstv (v := 5) F zd_XPacker_putDistance_9 (by decide) ?_
    obtain ⟨le14, hs13, h⟩ := zoS_s h
    obtain ⟨p15, ep15, h⟩ := zoB_s h
    refine zr_callV0 F (k_XPacker_putHighFirst l D tA b sh _ ep15) zd_XPacker_putDistance_10 (zW_o hs13 (by decide)) rfl zs_XPacker_148 rfl zq_XPacker_putHighFirst rfl rfl ⟨(Nat.le_of_ble_eq_true rfl), (Nat.le_of_ble_eq_true rfl)⟩ (Nat.le_of_ble_eq_true rfl) ⟨(Nat.le_of_ble_eq_true rfl), (Nat.le_of_ble_eq_true rfl)⟩ ?_
    obtain rfl := Option.some.inj h
    exact zr_vret F hr zd_XPacker_putDistance_13 (Nat.le_of_ble_eq_true rfl) (Nat.le_of_ble_eq_true rfl) ⟨rfl, rfl, rfl⟩
abbrev zb_XReader_number : ByteArray := prog_8_method_12_code
def zy_XReader_number : MethodName := ⟨"OrreryBox$Reader", "number", "(Ljava/lang/String;II)I"⟩
theorem zc_XReader_number : Cond.code zy_XReader_number zb_XReader_number 4 (some .int) ∈ gw := gw_t 1210 (by decide +kernel) rfl
theorem zq_XReader_number : zy_XReader_number.cls ≠ "java/lang/invoke/MethodHandle" ∧ zy_XReader_number.cls ≠ "java/lang/invoke/VarHandle" ∧ (parseMethodDescriptor zy_XReader_number.desc).map (fun d => d.parameters.length) = some 3 := by decide +kernel
theorem zd_XReader_number_0 : decode zb_XReader_number 0 = .ok (.aload_n 0, 1) := by decide +kernel
theorem zd_XReader_number_1 : decode zb_XReader_number 1 = .ok (.aload_n 1, 1) := by decide +kernel
theorem zd_XReader_number_2 : decode zb_XReader_number 2 = .ok (.invokevirtual 61, 3) := by decide +kernel
theorem zd_XReader_number_5 : decode zb_XReader_number 5 = .ok (.aload_n 0, 1) := by decide +kernel
theorem zd_XReader_number_6 : decode zb_XReader_number 6 = .ok (.iload_n 2, 1) := by decide +kernel
theorem zd_XReader_number_7 : decode zb_XReader_number 7 = .ok (.iload_n 3, 1) := by decide +kernel
theorem zd_XReader_number_8 : decode zb_XReader_number 8 = .ok (.invokevirtual 278, 3) := by decide +kernel
theorem zd_XReader_number_11 : decode zb_XReader_number 11 = .ok (.ireturn, 1) := by decide +kernel
theorem zw_1176 : (Jvm.Cond.methodLink "OrreryBox$Reader" (61 : Nat) ({ cls := "OrreryBox$Reader", name := "needName", desc := "(Ljava/lang/String;)V" } : Jvm.MethodName)) ∈ gw := gw_t 1176 (by decide +kernel) rfl
theorem zw_1178 : (Jvm.Cond.instanceMethod ({ cls := "OrreryBox$Reader", name := "needName", desc := "(Ljava/lang/String;)V" } : Jvm.MethodName)) ∈ gw := gw_t 1178 (by decide +kernel) rfl
theorem zv_53 : (Jvm.Cond.selects "OrreryBox$Reader" (⟨"OrreryBox$Reader", "needName", "(Ljava/lang/String;)V"⟩ : MethodName) ⟨"OrreryBox$Reader", "needName", "(Ljava/lang/String;)V"⟩) ∈ gw := gw_s 53 (by decide +kernel) rfl
theorem zs_XReader_61 : zwV "OrreryBox$Reader" 61 "OrreryBox$Reader" zy_XReader_needName zb_XReader_needName 2 none := ⟨zw_1176, zw_1178, zv_53, zw_2, zc_XReader_needName⟩
theorem zw_1191 : (Jvm.Cond.methodLink "OrreryBox$Reader" (278 : Nat) ({ cls := "OrreryBox$Reader", name := "needNumber", desc := "(II)I" } : Jvm.MethodName)) ∈ gw := gw_t 1191 (by decide +kernel) rfl
theorem zw_1193 : (Jvm.Cond.instanceMethod ({ cls := "OrreryBox$Reader", name := "needNumber", desc := "(II)I" } : Jvm.MethodName)) ∈ gw := gw_t 1193 (by decide +kernel) rfl
theorem zv_56 : (Jvm.Cond.selects "OrreryBox$Reader" (⟨"OrreryBox$Reader", "needNumber", "(II)I"⟩ : MethodName) ⟨"OrreryBox$Reader", "needNumber", "(II)I"⟩) ∈ gw := gw_s 56 (by decide +kernel) rfl
theorem zs_XReader_278 : zwV "OrreryBox$Reader" 278 "OrreryBox$Reader" zy_XReader_needNumber zb_XReader_needNumber 6 (some .int) := ⟨zw_1191, zw_1193, zv_56, zw_2, zc_XReader_needNumber⟩
def F_XReader_number (sh : zSh) (mm : zMem) (o : Nat) (x0_ : Nat) (x1_ : Int32) (x2_ : Int32) : Option (Int32 × zMem) := zoS (sh o) 7 (fun le2 => Option.bind (F_XReader_needName sh mm o x0_) (fun p3 => zoS (sh o) 7 (fun le5 => Option.bind (F_XReader_needNumber sh p3 o x1_ x2_) (fun p6 => some (p6.1, p6.2)))))
set_option maxHeartbeats 4000000 in
set_option maxRecDepth 100000 in
theorem k_XReader_number (l : Launch) (D : va_G) (tA : Nat → ClassId) (b : Nat) (sh : zSh) (n : Nat) {mm : zMem} {o : Nat} {x0_ : Nat} {x1_ : Int32} {x2_ : Int32} {r : (Int32 × zMem)} (h : F_XReader_number sh mm o x0_ x1_ x2_ = some r) : zM l D tA b zy_XReader_number zb_XReader_number 4 (some .int) 6 129 0 0 [.ref (b + o), .ref (D.2 1000 x0_), .int x1_, .int x2_] (zW tA b sh mm) n (zE (some (.int (r.1))) (zW tA b sh r.2) n) := by
  unfold F_XReader_number at h
  refine zM_of (own := "OrreryBox$Reader") (plainFor_of_name (by decide)) rfl (Nat.le_of_ble_eq_true rfl) (fun p e s m below meth c F hr hin hH => ?_)
  refine zr_aload_n F zd_XReader_number_0 rfl ?_
  refine zr_aload_n F zd_XReader_number_1 rfl ?_
  obtain ⟨le2, hs1, h⟩ := zoS_s h
  obtain ⟨p3, ep3, h⟩ := zoB_s h
  refine zr_callV0 F (k_XReader_needName l D tA b sh _ ep3) zd_XReader_number_2 (zW_o hs1 (by decide)) rfl zs_XReader_61 rfl zq_XReader_needName rfl rfl ⟨(Nat.le_of_ble_eq_true rfl), (Nat.le_of_ble_eq_true rfl)⟩ (Nat.le_of_ble_eq_true rfl) ⟨(Nat.le_of_ble_eq_true rfl), (Nat.le_of_ble_eq_true rfl)⟩ ?_
  refine zr_aload_n F zd_XReader_number_5 rfl ?_
  refine zr_iload_n F zd_XReader_number_6 rfl ?_
  refine zr_iload_n F zd_XReader_number_7 rfl ?_
  obtain ⟨le5, hs4, h⟩ := zoS_s h
  obtain ⟨p6, ep6, h⟩ := zoB_s h
  refine zr_callV1 F (k_XReader_needNumber l D tA b sh _ ep6) zd_XReader_number_8 (zW_o hs4 (by decide)) rfl zs_XReader_278 rfl zq_XReader_needNumber rfl rfl ⟨(Nat.le_of_ble_eq_true rfl), (Nat.le_of_ble_eq_true rfl)⟩ (Nat.le_of_ble_eq_true rfl) ⟨(Nat.le_of_ble_eq_true rfl), (Nat.le_of_ble_eq_true rfl)⟩ ?_
  refine zr_pcn 11 rfl ?_
  obtain rfl := Option.some.inj h
  exact zr_iret F hr zd_XReader_number_11 (Nat.le_of_ble_eq_true rfl) (Nat.le_of_ble_eq_true rfl) ⟨rfl, rfl, rfl⟩
def T_XReader_number (sh : zSh) (mm : zMem) (o : Nat) (x0_ : Nat) (x1_ : Int32) (x2_ : Int32) : Option zMem := zoS (sh o) 7 (fun le2 => zoX (F_XReader_needName sh mm o x0_) (T_XReader_needName sh mm o x0_) (fun p3 => zoS (sh o) 7 (fun le5 => zoX (F_XReader_needNumber sh p3 o x1_ x2_) (T_XReader_needNumber sh p3 o x1_ x2_) (fun p6 => none))))
set_option maxHeartbeats 4000000 in
set_option maxRecDepth 100000 in
theorem kT_XReader_number (l : Launch) (D : va_G) (tA : Nat → ClassId) (b : Nat) (sh : zSh) (n : Nat) (hl : l.stackTraces = false) {mm : zMem} {o : Nat} {x0_ : Nat} {x1_ : Int32} {x2_ : Int32} {r : zMem} (h : T_XReader_number sh mm o x0_ x1_ x2_ = some r) : zMT l D tA b zy_XReader_number zb_XReader_number 4 (some .int) 8 137 1 6 [.ref (b + o), .ref (D.2 1000 x0_), .int x1_, .int x2_] (zW tA b sh mm) n "java/lang/IllegalArgumentException" (zW tA b sh r) (n + 1) := by
  unfold T_XReader_number at h
  refine zMT_of (own := "OrreryBox$Reader") (plainFor_of_name (by decide)) rfl (Nat.le_of_ble_eq_true rfl) (fun p e s m below meth c F hno hH => ?_)
  refine zr_aload_n F zd_XReader_number_0 rfl ?_
  refine zr_aload_n F zd_XReader_number_1 rfl ?_
  obtain ⟨le2, hs1, h⟩ := zoS_s h
  cases ep3 : F_XReader_needName sh mm o x0_ with
  | none =>
    rw [ep3] at h
    dsimp only [zoX] at h
    exact zr_thrV F hno (kT_XReader_needName l D tA b sh _ hl h) zd_XReader_number_2 (zW_o hs1 (by decide)) rfl zs_XReader_61 rfl zq_XReader_needName rfl rfl ⟨(Nat.le_of_ble_eq_true rfl), (Nat.le_of_ble_eq_true rfl)⟩ (Nat.le_of_ble_eq_true rfl) ⟨(Nat.le_of_ble_eq_true rfl), (Nat.le_of_ble_eq_true rfl)⟩ ⟨(Nat.le_of_ble_eq_true rfl), (Nat.le_of_ble_eq_true rfl)⟩
  | some p3 =>
    rw [ep3] at h
    dsimp only [zoX] at h
    refine zr_callV0 F (k_XReader_needName l D tA b sh _ ep3) zd_XReader_number_2 (zW_o hs1 (by decide)) rfl zs_XReader_61 rfl zq_XReader_needName rfl rfl ⟨(Nat.le_of_ble_eq_true rfl), (Nat.le_of_ble_eq_true rfl)⟩ (Nat.le_of_ble_eq_true rfl) ⟨(Nat.le_of_ble_eq_true rfl), (Nat.le_of_ble_eq_true rfl)⟩ ?_
    refine zr_aload_n F zd_XReader_number_5 rfl ?_
    refine zr_iload_n F zd_XReader_number_6 rfl ?_
    refine zr_iload_n F zd_XReader_number_7 rfl ?_
    obtain ⟨le5, hs4, h⟩ := zoS_s h
    cases ep6 : F_XReader_needNumber sh p3 o x1_ x2_ with
    | none =>
      rw [ep6] at h
      dsimp only [zoX] at h
      exact zr_thrV F hno (kT_XReader_needNumber l D tA b sh _ hl h) zd_XReader_number_8 (zW_o hs4 (by decide)) rfl zs_XReader_278 rfl zq_XReader_needNumber rfl rfl ⟨(Nat.le_of_ble_eq_true rfl), (Nat.le_of_ble_eq_true rfl)⟩ (Nat.le_of_ble_eq_true rfl) ⟨(Nat.le_of_ble_eq_true rfl), (Nat.le_of_ble_eq_true rfl)⟩ ⟨(Nat.le_of_ble_eq_true rfl), (Nat.le_of_ble_eq_true rfl)⟩
    | some p6 =>
      rw [ep6] at h
      dsimp only [zoX] at h
      refine zr_callV1 F (k_XReader_needNumber l D tA b sh _ ep6) zd_XReader_number_8 (zW_o hs4 (by decide)) rfl zs_XReader_278 rfl zq_XReader_needNumber rfl rfl ⟨(Nat.le_of_ble_eq_true rfl), (Nat.le_of_ble_eq_true rfl)⟩ (Nat.le_of_ble_eq_true rfl) ⟨(Nat.le_of_ble_eq_true rfl), (Nat.le_of_ble_eq_true rfl)⟩ ?_
      refine zr_pcn 11 rfl ?_
      cases h
