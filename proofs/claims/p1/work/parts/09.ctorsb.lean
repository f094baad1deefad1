/-- a block of cells from n on -/
def zb (f : zV) (n : Nat) (l : List va_E) : zV := fun a => if a < n then f a else match l[a - n]? with
  | some x => some x
  | none => f a
theorem zb_0 {f : zV} {n k : Nat} {o : va_E} (h : f k = some o) : f = zu (zb f n []) k o := by
  funext a
  by_cases h1 : a = k
  · subst h1
    rw [zu_s, h]
  · rw [zu_n _ h1]
    simp [zb]
theorem zb_1 {f : zV} {n k q : Nat} {l l' : List va_E} {o o' A : va_E} (hk : k < n) (hq : n + l.length = q) (hl : l ++ [A] = l') : zu (zu (zu (zb f n l) k o) q A) k o' = zu (zb f n l') k o' := by
  subst hq
  subst hl
  funext a
  by_cases h1 : a = k
  · subst h1
    rw [zu_s, zu_s]
  · rw [zu_n _ h1, zu_n _ h1]
    by_cases h2 : a = n + l.length
    · subst h2
      rw [zu_s]
      simp [zb]
      intro h
      exact absurd h (by omega)
    · rw [zu_n _ h2, zu_n _ h1]
      unfold zb
      by_cases h3 : a < n
      · rw [if_pos h3, if_pos h3]
      · rw [if_neg h3, if_neg h3]
        by_cases h4 : a - n < l.length
        · rw [List.getElem?_append_left h4]
        · rw [List.getElem?_eq_none (by omega), List.getElem?_eq_none (by rw [List.length_append]; simp; omega)]
theorem zr_norm {p : Program} {l : Launch} {e : Env} {R : Room} {s : State} {m : MethodId} {args : Array Value} {below : List Frame} {meth : Method} {c : Code} {Q : State → Prop} {nL : Nat} {D : va_G} {b : Nat} {n cells slots pc : Nat} {L : List (Nat × Value)} {st : List Value} {f : zV} (f' : zV) (n' : Nat) (hf : f = f') (hn : n = n') (kk : Z p l e R s m args below meth c D b nL Q f' n' cells slots pc L st) : Z p l e R s m args below meth c D b nL Q f n cells slots pc L st := by
  subst hf
  subst hn
  exact kk
abbrev zb_MPainter_init : ByteArray := prog_16_method_1_code
def zy_MPainter_init : MethodName := ⟨"OrreryBoxModel$Painter", "<init>", "(II[I[J)V"⟩
theorem zc_MPainter_init : Cond.code zy_MPainter_init zb_MPainter_init 5 none ∈ gw := gw_t 1574 (by decide +kernel) rfl
theorem zq_MPainter_init : zy_MPainter_init.cls ≠ "java/lang/invoke/MethodHandle" ∧ zy_MPainter_init.cls ≠ "java/lang/invoke/VarHandle" ∧ (parseMethodDescriptor zy_MPainter_init.desc).map (fun d => d.parameters.length) = some 4 := by decide +kernel
theorem zd_MPainter_init_0 : decode zb_MPainter_init 0 = .ok (.aload_n 0, 1) := by decide +kernel
theorem zd_MPainter_init_1 : decode zb_MPainter_init 1 = .ok (.invokespecial 3, 3) := by decide +kernel
theorem zd_MPainter_init_4 : decode zb_MPainter_init 4 = .ok (.aload_n 0, 1) := by decide +kernel
theorem zd_MPainter_init_5 : decode zb_MPainter_init 5 = .ok (.bipush 12, 2) := by decide +kernel
theorem zd_MPainter_init_7 : decode zb_MPainter_init 7 = .ok (.newarray .long, 2) := by decide +kernel
theorem zd_MPainter_init_9 : decode zb_MPainter_init 9 = .ok (.putfield 9, 3) := by decide +kernel
theorem zd_MPainter_init_12 : decode zb_MPainter_init 12 = .ok (.aload_n 0, 1) := by decide +kernel
theorem zd_MPainter_init_13 : decode zb_MPainter_init 13 = .ok (.bipush 12, 2) := by decide +kernel
theorem zd_MPainter_init_15 : decode zb_MPainter_init 15 = .ok (.newarray .long, 2) := by decide +kernel
theorem zd_MPainter_init_17 : decode zb_MPainter_init 17 = .ok (.putfield 15, 3) := by decide +kernel
theorem zd_MPainter_init_20 : decode zb_MPainter_init 20 = .ok (.aload_n 0, 1) := by decide +kernel
theorem zd_MPainter_init_21 : decode zb_MPainter_init 21 = .ok (.bipush 12, 2) := by decide +kernel
theorem zd_MPainter_init_23 : decode zb_MPainter_init 23 = .ok (.newarray .long, 2) := by decide +kernel
theorem zd_MPainter_init_25 : decode zb_MPainter_init 25 = .ok (.putfield 18, 3) := by decide +kernel
theorem zd_MPainter_init_28 : decode zb_MPainter_init 28 = .ok (.aload_n 0, 1) := by decide +kernel
theorem zd_MPainter_init_29 : decode zb_MPainter_init 29 = .ok (.bipush 12, 2) := by decide +kernel
theorem zd_MPainter_init_31 : decode zb_MPainter_init 31 = .ok (.newarray .long, 2) := by decide +kernel
theorem zd_MPainter_init_33 : decode zb_MPainter_init 33 = .ok (.putfield 21, 3) := by decide +kernel
theorem zd_MPainter_init_36 : decode zb_MPainter_init 36 = .ok (.aload_n 0, 1) := by decide +kernel
theorem zd_MPainter_init_37 : decode zb_MPainter_init 37 = .ok (.bipush 12, 2) := by decide +kernel
theorem zd_MPainter_init_39 : decode zb_MPainter_init 39 = .ok (.newarray .long, 2) := by decide +kernel
theorem zd_MPainter_init_41 : decode zb_MPainter_init 41 = .ok (.putfield 24, 3) := by decide +kernel
theorem zd_MPainter_init_44 : decode zb_MPainter_init 44 = .ok (.aload_n 0, 1) := by decide +kernel
theorem zd_MPainter_init_45 : decode zb_MPainter_init 45 = .ok (.bipush 12, 2) := by decide +kernel
theorem zd_MPainter_init_47 : decode zb_MPainter_init 47 = .ok (.newarray .long, 2) := by decide +kernel
theorem zd_MPainter_init_49 : decode zb_MPainter_init 49 = .ok (.putfield 27, 3) := by decide +kernel
theorem zd_MPainter_init_52 : decode zb_MPainter_init 52 = .ok (.aload_n 0, 1) := by decide +kernel
theorem zd_MPainter_init_53 : decode zb_MPainter_init 53 = .ok (.bipush 48, 2) := by decide +kernel
theorem zd_MPainter_init_55 : decode zb_MPainter_init 55 = .ok (.newarray .int, 2) := by decide +kernel
theorem zd_MPainter_init_57 : decode zb_MPainter_init 57 = .ok (.putfield 30, 3) := by decide +kernel
theorem zd_MPainter_init_60 : decode zb_MPainter_init 60 = .ok (.aload_n 0, 1) := by decide +kernel
theorem zd_MPainter_init_61 : decode zb_MPainter_init 61 = .ok (.bipush 48, 2) := by decide +kernel
theorem zd_MPainter_init_63 : decode zb_MPainter_init 63 = .ok (.newarray .long, 2) := by decide +kernel
theorem zd_MPainter_init_65 : decode zb_MPainter_init 65 = .ok (.putfield 34, 3) := by decide +kernel
theorem zd_MPainter_init_68 : decode zb_MPainter_init 68 = .ok (.aload_n 0, 1) := by decide +kernel
theorem zd_MPainter_init_69 : decode zb_MPainter_init 69 = .ok (.bipush 48, 2) := by decide +kernel
theorem zd_MPainter_init_71 : decode zb_MPainter_init 71 = .ok (.newarray .int, 2) := by decide +kernel
theorem zd_MPainter_init_73 : decode zb_MPainter_init 73 = .ok (.putfield 37, 3) := by decide +kernel
theorem zd_MPainter_init_76 : decode zb_MPainter_init 76 = .ok (.aload_n 0, 1) := by decide +kernel
theorem zd_MPainter_init_77 : decode zb_MPainter_init 77 = .ok (.bipush 120, 2) := by decide +kernel
theorem zd_MPainter_init_79 : decode zb_MPainter_init 79 = .ok (.newarray .long, 2) := by decide +kernel
theorem zd_MPainter_init_81 : decode zb_MPainter_init 81 = .ok (.putfield 40, 3) := by decide +kernel
theorem zd_MPainter_init_84 : decode zb_MPainter_init 84 = .ok (.aload_n 0, 1) := by decide +kernel
theorem zd_MPainter_init_85 : decode zb_MPainter_init 85 = .ok (.bipush 120, 2) := by decide +kernel
theorem zd_MPainter_init_87 : decode zb_MPainter_init 87 = .ok (.newarray .long, 2) := by decide +kernel
theorem zd_MPainter_init_89 : decode zb_MPainter_init 89 = .ok (.putfield 43, 3) := by decide +kernel
theorem zd_MPainter_init_92 : decode zb_MPainter_init 92 = .ok (.aload_n 0, 1) := by decide +kernel
theorem zd_MPainter_init_93 : decode zb_MPainter_init 93 = .ok (.bipush 20, 2) := by decide +kernel
theorem zd_MPainter_init_95 : decode zb_MPainter_init 95 = .ok (.newarray .long, 2) := by decide +kernel
theorem zd_MPainter_init_97 : decode zb_MPainter_init 97 = .ok (.putfield 46, 3) := by decide +kernel
theorem zd_MPainter_init_100 : decode zb_MPainter_init 100 = .ok (.aload_n 0, 1) := by decide +kernel
theorem zd_MPainter_init_101 : decode zb_MPainter_init 101 = .ok (.bipush 20, 2) := by decide +kernel
theorem zd_MPainter_init_103 : decode zb_MPainter_init 103 = .ok (.newarray .long, 2) := by decide +kernel
theorem zd_MPainter_init_105 : decode zb_MPainter_init 105 = .ok (.putfield 49, 3) := by decide +kernel
theorem zd_MPainter_init_108 : decode zb_MPainter_init 108 = .ok (.aload_n 0, 1) := by decide +kernel
theorem zd_MPainter_init_109 : decode zb_MPainter_init 109 = .ok (.bipush 20, 2) := by decide +kernel
theorem zd_MPainter_init_111 : decode zb_MPainter_init 111 = .ok (.newarray .long, 2) := by decide +kernel
theorem zd_MPainter_init_113 : decode zb_MPainter_init 113 = .ok (.putfield 52, 3) := by decide +kernel
theorem zd_MPainter_init_116 : decode zb_MPainter_init 116 = .ok (.aload_n 0, 1) := by decide +kernel
theorem zd_MPainter_init_117 : decode zb_MPainter_init 117 = .ok (.bipush 20, 2) := by decide +kernel
theorem zd_MPainter_init_119 : decode zb_MPainter_init 119 = .ok (.newarray .long, 2) := by decide +kernel
theorem zd_MPainter_init_121 : decode zb_MPainter_init 121 = .ok (.putfield 55, 3) := by decide +kernel
theorem zd_MPainter_init_124 : decode zb_MPainter_init 124 = .ok (.aload_n 0, 1) := by decide +kernel
theorem zd_MPainter_init_125 : decode zb_MPainter_init 125 = .ok (.iconst 3, 1) := by decide +kernel
theorem zd_MPainter_init_126 : decode zb_MPainter_init 126 = .ok (.newarray .long, 2) := by decide +kernel
theorem zd_MPainter_init_128 : decode zb_MPainter_init 128 = .ok (.putfield 58, 3) := by decide +kernel
theorem zd_MPainter_init_131 : decode zb_MPainter_init 131 = .ok (.aload_n 0, 1) := by decide +kernel
theorem zd_MPainter_init_132 : decode zb_MPainter_init 132 = .ok (.iload_n 1, 1) := by decide +kernel
theorem zd_MPainter_init_133 : decode zb_MPainter_init 133 = .ok (.putfield 61, 3) := by decide +kernel
theorem zd_MPainter_init_136 : decode zb_MPainter_init 136 = .ok (.aload_n 0, 1) := by decide +kernel
theorem zd_MPainter_init_137 : decode zb_MPainter_init 137 = .ok (.iload_n 2, 1) := by decide +kernel
theorem zd_MPainter_init_138 : decode zb_MPainter_init 138 = .ok (.putfield 65, 3) := by decide +kernel
theorem zd_MPainter_init_141 : decode zb_MPainter_init 141 = .ok (.aload_n 0, 1) := by decide +kernel
theorem zd_MPainter_init_142 : decode zb_MPainter_init 142 = .ok (.aload_n 3, 1) := by decide +kernel
theorem zd_MPainter_init_143 : decode zb_MPainter_init 143 = .ok (.putfield 68, 3) := by decide +kernel
theorem zd_MPainter_init_146 : decode zb_MPainter_init 146 = .ok (.aload_n 0, 1) := by decide +kernel
theorem zd_MPainter_init_147 : decode zb_MPainter_init 147 = .ok (.aload 4, 2) := by decide +kernel
theorem zd_MPainter_init_149 : decode zb_MPainter_init 149 = .ok (.putfield 71, 3) := by decide +kernel
theorem zd_MPainter_init_152 : decode zb_MPainter_init 152 = .ok (.return_, 1) := by decide +kernel
theorem zdef_MPainter : ∀ j, j < 31 → defaultValue (zk_ty 13 j) = vp_V [.int 0, .int 0, .int 0, .null, .null, .null, .int 0, .int 0, .int 0, .int 0, .int 0, .int 0, .int 0, .long 0, .null, .null, .null, .null, .null, .null, .null, .null, .null, .null, .null, .null, .int 0, .null, .null, .null, .null] j := by
  intro j hj
  match j, hj with
  | 0, _ => rfl
  | 1, _ => rfl
  | 2, _ => rfl
  | 3, _ => rfl
  | 4, _ => rfl
  | 5, _ => rfl
  | 6, _ => rfl
  | 7, _ => rfl
  | 8, _ => rfl
  | 9, _ => rfl
  | 10, _ => rfl
  | 11, _ => rfl
  | 12, _ => rfl
  | 13, _ => rfl
  | 14, _ => rfl
  | 15, _ => rfl
  | 16, _ => rfl
  | 17, _ => rfl
  | 18, _ => rfl
  | 19, _ => rfl
  | 20, _ => rfl
  | 21, _ => rfl
  | 22, _ => rfl
  | 23, _ => rfl
  | 24, _ => rfl
  | 25, _ => rfl
  | 26, _ => rfl
  | 27, _ => rfl
  | 28, _ => rfl
  | 29, _ => rfl
  | 30, _ => rfl
  | k + 31, h => exact absurd h (by omega)
theorem zw_1575 : (Jvm.Cond.methodLink "OrreryBoxModel$Painter" (3 : Nat) ({ cls := "java/lang/Object", name := "<init>", desc := "()V" } : Jvm.MethodName)) ∈ gw := gw_t 1575 (by decide +kernel) rfl
theorem zw_1674 : (Jvm.Cond.arrayClass Jvm.ClassFile.FieldType.long) ∈ gw := gw_t 1674 (by decide +kernel) rfl
theorem zw_1593 : (Jvm.Cond.fieldLink "OrreryBoxModel$Painter" (9 : Nat) "OrreryBoxModel$Painter" "world" "[J") ∈ gw := gw_t 1593 (by decide +kernel) rfl
theorem zw_1595 : (Jvm.Cond.fieldLink "OrreryBoxModel$Painter" (15 : Nat) "OrreryBoxModel$Painter" "view" "[J") ∈ gw := gw_t 1595 (by decide +kernel) rfl
theorem zw_1596 : (Jvm.Cond.fieldLink "OrreryBoxModel$Painter" (18 : Nat) "OrreryBoxModel$Painter" "m" "[J") ∈ gw := gw_t 1596 (by decide +kernel) rfl
theorem zw_1597 : (Jvm.Cond.fieldLink "OrreryBoxModel$Painter" (21 : Nat) "OrreryBoxModel$Painter" "part" "[J") ∈ gw := gw_t 1597 (by decide +kernel) rfl
theorem zw_1598 : (Jvm.Cond.fieldLink "OrreryBoxModel$Painter" (24 : Nat) "OrreryBoxModel$Painter" "turned" "[J") ∈ gw := gw_t 1598 (by decide +kernel) rfl
theorem zw_1599 : (Jvm.Cond.fieldLink "OrreryBoxModel$Painter" (27 : Nat) "OrreryBoxModel$Painter" "made" "[J") ∈ gw := gw_t 1599 (by decide +kernel) rfl
theorem zw_1600 : (Jvm.Cond.fieldLink "OrreryBoxModel$Painter" (30 : Nat) "OrreryBoxModel$Painter" "chain" "[I") ∈ gw := gw_t 1600 (by decide +kernel) rfl
theorem zw_1601 : (Jvm.Cond.fieldLink "OrreryBoxModel$Painter" (34 : Nat) "OrreryBoxModel$Painter" "key" "[J") ∈ gw := gw_t 1601 (by decide +kernel) rfl
theorem zw_1602 : (Jvm.Cond.fieldLink "OrreryBoxModel$Painter" (37 : Nat) "OrreryBoxModel$Painter" "order" "[I") ∈ gw := gw_t 1602 (by decide +kernel) rfl
theorem zw_1603 : (Jvm.Cond.fieldLink "OrreryBoxModel$Painter" (40 : Nat) "OrreryBoxModel$Painter" "corner" "[J") ∈ gw := gw_t 1603 (by decide +kernel) rfl
theorem zw_1604 : (Jvm.Cond.fieldLink "OrreryBoxModel$Painter" (43 : Nat) "OrreryBoxModel$Painter" "cut" "[J") ∈ gw := gw_t 1604 (by decide +kernel) rfl
theorem zw_1605 : (Jvm.Cond.fieldLink "OrreryBoxModel$Painter" (46 : Nat) "OrreryBoxModel$Painter" "side" "[J") ∈ gw := gw_t 1605 (by decide +kernel) rfl
theorem zw_1607 : (Jvm.Cond.fieldLink "OrreryBoxModel$Painter" (49 : Nat) "OrreryBoxModel$Painter" "px" "[J") ∈ gw := gw_t 1607 (by decide +kernel) rfl
theorem zw_1608 : (Jvm.Cond.fieldLink "OrreryBoxModel$Painter" (52 : Nat) "OrreryBoxModel$Painter" "py" "[J") ∈ gw := gw_t 1608 (by decide +kernel) rfl
theorem zw_1609 : (Jvm.Cond.fieldLink "OrreryBoxModel$Painter" (55 : Nat) "OrreryBoxModel$Painter" "pr" "[J") ∈ gw := gw_t 1609 (by decide +kernel) rfl
theorem zw_1610 : (Jvm.Cond.fieldLink "OrreryBoxModel$Painter" (58 : Nat) "OrreryBoxModel$Painter" "channel" "[J") ∈ gw := gw_t 1610 (by decide +kernel) rfl
theorem zw_1577 : (Jvm.Cond.fieldLink "OrreryBoxModel$Painter" (61 : Nat) "OrreryBoxModel$Painter" "width" "I") ∈ gw := gw_t 1577 (by decide +kernel) rfl
theorem zw_1578 : (Jvm.Cond.fieldLink "OrreryBoxModel$Painter" (65 : Nat) "OrreryBoxModel$Painter" "height" "I") ∈ gw := gw_t 1578 (by decide +kernel) rfl
theorem zw_1579 : (Jvm.Cond.fieldLink "OrreryBoxModel$Painter" (68 : Nat) "OrreryBoxModel$Painter" "colours" "[I") ∈ gw := gw_t 1579 (by decide +kernel) rfl
theorem zw_1580 : (Jvm.Cond.fieldLink "OrreryBoxModel$Painter" (71 : Nat) "OrreryBoxModel$Painter" "near" "[J") ∈ gw := gw_t 1580 (by decide +kernel) rfl
def ptL (tA : Nat → ClassId) : List va_E := [.inl (tA 2, 12, .inr (.inl (fun _ => 0))), .inl (tA 2, 12, .inr (.inl (fun _ => 0))), .inl (tA 2, 12, .inr (.inl (fun _ => 0))), .inl (tA 2, 12, .inr (.inl (fun _ => 0))), .inl (tA 2, 12, .inr (.inl (fun _ => 0))), .inl (tA 2, 12, .inr (.inl (fun _ => 0))), .inl (tA 0, 48, .inl (fun _ => 0)), .inl (tA 2, 48, .inr (.inl (fun _ => 0))), .inl (tA 0, 48, .inl (fun _ => 0)), .inl (tA 2, 120, .inr (.inl (fun _ => 0))), .inl (tA 2, 120, .inr (.inl (fun _ => 0))), .inl (tA 2, 20, .inr (.inl (fun _ => 0))), .inl (tA 2, 20, .inr (.inl (fun _ => 0))), .inl (tA 2, 20, .inr (.inl (fun _ => 0))), .inl (tA 2, 20, .inr (.inl (fun _ => 0))), .inl (tA 2, 3, .inr (.inl (fun _ => 0)))]
def ptO (b n : Nat) (w h : Int32) (ca na : Nat) : List Value := [.int 0, .int w, .int h, .ref ca, .ref na, .null, .int 0, .int 0, .int 0, .int 0, .int 0, .int 0, .int 0, .long 0, .ref (b + (n)), .ref (b + (n + 1)), .ref (b + (n + 2)), .ref (b + (n + 3)), .ref (b + (n + 4)), .ref (b + (n + 5)), .ref (b + (n + 6)), .ref (b + (n + 7)), .ref (b + (n + 8)), .ref (b + (n + 9)), .ref (b + (n + 10)), .ref (b + (n + 11)), .int 0, .ref (b + (n + 12)), .ref (b + (n + 13)), .ref (b + (n + 14)), .ref (b + (n + 15))]
set_option maxHeartbeats 4000000 in
set_option maxRecDepth 100000 in
theorem c_MPainter_init (l : Launch) (D : va_G) (tA : Nat → ClassId) (b : Nat) (f : zV) (n : Nat) (k : Nat) (w h : Int32) (ca na : Nat) (hf : f k = some (.inr (13, [.int 0, .int 0, .int 0, .null, .null, .null, .int 0, .int 0, .int 0, .int 0, .int 0, .int 0, .int 0, .long 0, .null, .null, .null, .null, .null, .null, .null, .null, .null, .null, .null, .null, .int 0, .null, .null, .null, .null]))) : zM l D tA b zy_MPainter_init zb_MPainter_init 5 none 1 20 16 539 [.ref (b + k), .int w, .int h, .ref ca, .ref na] f n (zE none (zu (zb f n (ptL tA)) k (.inr (13, ptO b n w h ca na))) (n + 16)) := by
  refine zM_of (own := "OrreryBoxModel$Painter") (plainFor_of_name (by decide)) rfl (Nat.le_of_ble_eq_true rfl) (fun p e s m below meth c F hr hin hH => ?_)
  have hk := hH.lt hf
  refine zr_aload_n F zd_MPainter_init_0 rfl ?_
  refine zr_objInit F zd_MPainter_init_1 zw_1575 zw_35 zw_36 (Nat.le_of_ble_eq_true rfl) (Nat.le_of_ble_eq_true rfl) ?_
  refine zr_norm (zu (zb f n []) k (.inr (13, [.int 0, .int 0, .int 0, .null, .null, .null, .int 0, .int 0, .int 0, .int 0, .int 0, .int 0, .int 0, .long 0, .null, .null, .null, .null, .null, .null, .null, .null, .null, .null, .null, .null, .int 0, .null, .null, .null, .null]))) n (zb_0 hf) rfl ?_
  refine zr_aload_n F zd_MPainter_init_4 rfl ?_
  refine zr_bipushv (v := 12) F zd_MPainter_init_5 (by decide) ?_
  refine zr_newa (N := 12) (a0 := (12, .inr (.inl (fun _ => 0)))) F 2 zd_MPainter_init_7 rfl rfl zw_1674 (fun _ => rfl) (by decide) (by decide) (Nat.le_of_ble_eq_true rfl) (Nat.le_of_ble_eq_true rfl) (Nat.le_of_ble_eq_true rfl) ?_
  refine zr_putF F 13 14 zd_MPainter_init_9 ((zu_n _ (by omega)).trans (zu_s _ _ _)) rfl (by decide) zw_1593 rfl rfl hin rfl rfl rfl (by exact (Nat.le_of_ble_eq_true rfl)) ?_
  refine zr_norm (zu (zb f n [.inl (tA 2, 12, .inr (.inl (fun _ => 0)))]) k (.inr (13, [.int 0, .int 0, .int 0, .null, .null, .null, .int 0, .int 0, .int 0, .int 0, .int 0, .int 0, .int 0, .long 0, .ref (b + (n)), .null, .null, .null, .null, .null, .null, .null, .null, .null, .null, .null, .int 0, .null, .null, .null, .null]))) (n + 1) (zb_1 hk rfl rfl) rfl ?_
  refine zr_aload_n F zd_MPainter_init_12 rfl ?_
  refine zr_bipushv (v := 12) F zd_MPainter_init_13 (by decide) ?_
  refine zr_newa (N := 12) (a0 := (12, .inr (.inl (fun _ => 0)))) F 2 zd_MPainter_init_15 rfl rfl zw_1674 (fun _ => rfl) (by decide) (by decide) (Nat.le_of_ble_eq_true rfl) (Nat.le_of_ble_eq_true rfl) (Nat.le_of_ble_eq_true rfl) ?_
  refine zr_putF F 13 15 zd_MPainter_init_17 ((zu_n _ (by omega)).trans (zu_s _ _ _)) rfl (by decide) zw_1595 rfl rfl hin rfl rfl rfl (by exact (Nat.le_of_ble_eq_true rfl)) ?_
  refine zr_norm (zu (zb f n [.inl (tA 2, 12, .inr (.inl (fun _ => 0))), .inl (tA 2, 12, .inr (.inl (fun _ => 0)))]) k (.inr (13, [.int 0, .int 0, .int 0, .null, .null, .null, .int 0, .int 0, .int 0, .int 0, .int 0, .int 0, .int 0, .long 0, .ref (b + (n)), .ref (b + (n + 1)), .null, .null, .null, .null, .null, .null, .null, .null, .null, .null, .int 0, .null, .null, .null, .null]))) (n + 2) (zb_1 hk rfl rfl) rfl ?_
  refine zr_aload_n F zd_MPainter_init_20 rfl ?_
  refine zr_bipushv (v := 12) F zd_MPainter_init_21 (by decide) ?_
  refine zr_newa (N := 12) (a0 := (12, .inr (.inl (fun _ => 0)))) F 2 zd_MPainter_init_23 rfl rfl zw_1674 (fun _ => rfl) (by decide) (by decide) (Nat.le_of_ble_eq_true rfl) (Nat.le_of_ble_eq_true rfl) (Nat.le_of_ble_eq_true rfl) ?_
  refine zr_putF F 13 16 zd_MPainter_init_25 ((zu_n _ (by omega)).trans (zu_s _ _ _)) rfl (by decide) zw_1596 rfl rfl hin rfl rfl rfl (by exact (Nat.le_of_ble_eq_true rfl)) ?_
  refine zr_norm (zu (zb f n [.inl (tA 2, 12, .inr (.inl (fun _ => 0))), .inl (tA 2, 12, .inr (.inl (fun _ => 0))), .inl (tA 2, 12, .inr (.inl (fun _ => 0)))]) k (.inr (13, [.int 0, .int 0, .int 0, .null, .null, .null, .int 0, .int 0, .int 0, .int 0, .int 0, .int 0, .int 0, .long 0, .ref (b + (n)), .ref (b + (n + 1)), .ref (b + (n + 2)), .null, .null, .null, .null, .null, .null, .null, .null, .null, .int 0, .null, .null, .null, .null]))) (n + 3) (zb_1 hk rfl rfl) rfl ?_
  refine zr_aload_n F zd_MPainter_init_28 rfl ?_
  refine zr_bipushv (v := 12) F zd_MPainter_init_29 (by decide) ?_
  refine zr_newa (N := 12) (a0 := (12, .inr (.inl (fun _ => 0)))) F 2 zd_MPainter_init_31 rfl rfl zw_1674 (fun _ => rfl) (by decide) (by decide) (Nat.le_of_ble_eq_true rfl) (Nat.le_of_ble_eq_true rfl) (Nat.le_of_ble_eq_true rfl) ?_
  refine zr_putF F 13 17 zd_MPainter_init_33 ((zu_n _ (by omega)).trans (zu_s _ _ _)) rfl (by decide) zw_1597 rfl rfl hin rfl rfl rfl (by exact (Nat.le_of_ble_eq_true rfl)) ?_
  refine zr_norm (zu (zb f n [.inl (tA 2, 12, .inr (.inl (fun _ => 0))), .inl (tA 2, 12, .inr (.inl (fun _ => 0))), .inl (tA 2, 12, .inr (.inl (fun _ => 0))), .inl (tA 2, 12, .inr (.inl (fun _ => 0)))]) k (.inr (13, [.int 0, .int 0, .int 0, .null, .null, .null, .int 0, .int 0, .int 0, .int 0, .int 0, .int 0, .int 0, .long 0, .ref (b + (n)), .ref (b + (n + 1)), .ref (b + (n + 2)), .ref (b + (n + 3)), .null, .null, .null, .null, .null, .null, .null, .null, .int 0, .null, .null, .null, .null]))) (n + 4) (zb_1 hk rfl rfl) rfl ?_
  refine zr_aload_n F zd_MPainter_init_36 rfl ?_
  refine zr_bipushv (v := 12) F zd_MPainter_init_37 (by decide) ?_
  refine zr_newa (N := 12) (a0 := (12, .inr (.inl (fun _ => 0)))) F 2 zd_MPainter_init_39 rfl rfl zw_1674 (fun _ => rfl) (by decide) (by decide) (Nat.le_of_ble_eq_true rfl) (Nat.le_of_ble_eq_true rfl) (Nat.le_of_ble_eq_true rfl) ?_
  refine zr_putF F 13 18 zd_MPainter_init_41 ((zu_n _ (by omega)).trans (zu_s _ _ _)) rfl (by decide) zw_1598 rfl rfl hin rfl rfl rfl (by exact (Nat.le_of_ble_eq_true rfl)) ?_
  refine zr_norm (zu (zb f n [.inl (tA 2, 12, .inr (.inl (fun _ => 0))), .inl (tA 2, 12, .inr (.inl (fun _ => 0))), .inl (tA 2, 12, .inr (.inl (fun _ => 0))), .inl (tA 2, 12, .inr (.inl (fun _ => 0))), .inl (tA 2, 12, .inr (.inl (fun _ => 0)))]) k (.inr (13, [.int 0, .int 0, .int 0, .null, .null, .null, .int 0, .int 0, .int 0, .int 0, .int 0, .int 0, .int 0, .long 0, .ref (b + (n)), .ref (b + (n + 1)), .ref (b + (n + 2)), .ref (b + (n + 3)), .ref (b + (n + 4)), .null, .null, .null, .null, .null, .null, .null, .int 0, .null, .null, .null, .null]))) (n + 5) (zb_1 hk rfl rfl) rfl ?_
  refine zr_aload_n F zd_MPainter_init_44 rfl ?_
  refine zr_bipushv (v := 12) F zd_MPainter_init_45 (by decide) ?_
  refine zr_newa (N := 12) (a0 := (12, .inr (.inl (fun _ => 0)))) F 2 zd_MPainter_init_47 rfl rfl zw_1674 (fun _ => rfl) (by decide) (by decide) (Nat.le_of_ble_eq_true rfl) (Nat.le_of_ble_eq_true rfl) (Nat.le_of_ble_eq_true rfl) ?_
  refine zr_putF F 13 19 zd_MPainter_init_49 ((zu_n _ (by omega)).trans (zu_s _ _ _)) rfl (by decide) zw_1599 rfl rfl hin rfl rfl rfl (by exact (Nat.le_of_ble_eq_true rfl)) ?_
  refine zr_norm (zu (zb f n [.inl (tA 2, 12, .inr (.inl (fun _ => 0))), .inl (tA 2, 12, .inr (.inl (fun _ => 0))), .inl (tA 2, 12, .inr (.inl (fun _ => 0))), .inl (tA 2, 12, .inr (.inl (fun _ => 0))), .inl (tA 2, 12, .inr (.inl (fun _ => 0))), .inl (tA 2, 12, .inr (.inl (fun _ => 0)))]) k (.inr (13, [.int 0, .int 0, .int 0, .null, .null, .null, .int 0, .int 0, .int 0, .int 0, .int 0, .int 0, .int 0, .long 0, .ref (b + (n)), .ref (b + (n + 1)), .ref (b + (n + 2)), .ref (b + (n + 3)), .ref (b + (n + 4)), .ref (b + (n + 5)), .null, .null, .null, .null, .null, .null, .int 0, .null, .null, .null, .null]))) (n + 6) (zb_1 hk rfl rfl) rfl ?_
  refine zr_aload_n F zd_MPainter_init_52 rfl ?_
  refine zr_bipushv (v := 48) F zd_MPainter_init_53 (by decide) ?_
  refine zr_newa (N := 48) (a0 := (48, .inl (fun _ => 0))) F 0 zd_MPainter_init_55 rfl rfl zw_74 (fun _ => rfl) (by decide) (by decide) (Nat.le_of_ble_eq_true rfl) (Nat.le_of_ble_eq_true rfl) (Nat.le_of_ble_eq_true rfl) ?_
  refine zr_putF F 13 20 zd_MPainter_init_57 ((zu_n _ (by omega)).trans (zu_s _ _ _)) rfl (by decide) zw_1600 rfl rfl hin rfl rfl rfl (by exact (Nat.le_of_ble_eq_true rfl)) ?_
  refine zr_norm (zu (zb f n [.inl (tA 2, 12, .inr (.inl (fun _ => 0))), .inl (tA 2, 12, .inr (.inl (fun _ => 0))), .inl (tA 2, 12, .inr (.inl (fun _ => 0))), .inl (tA 2, 12, .inr (.inl (fun _ => 0))), .inl (tA 2, 12, .inr (.inl (fun _ => 0))), .inl (tA 2, 12, .inr (.inl (fun _ => 0))), .inl (tA 0, 48, .inl (fun _ => 0))]) k (.inr (13, [.int 0, .int 0, .int 0, .null, .null, .null, .int 0, .int 0, .int 0, .int 0, .int 0, .int 0, .int 0, .long 0, .ref (b + (n)), .ref (b + (n + 1)), .ref (b + (n + 2)), .ref (b + (n + 3)), .ref (b + (n + 4)), .ref (b + (n + 5)), .ref (b + (n + 6)), .null, .null, .null, .null, .null, .int 0, .null, .null, .null, .null]))) (n + 7) (zb_1 hk rfl rfl) rfl ?_
  refine zr_aload_n F zd_MPainter_init_60 rfl ?_
  refine zr_bipushv (v := 48) F zd_MPainter_init_61 (by decide) ?_
  refine zr_newa (N := 48) (a0 := (48, .inr (.inl (fun _ => 0)))) F 2 zd_MPainter_init_63 rfl rfl zw_1674 (fun _ => rfl) (by decide) (by decide) (Nat.le_of_ble_eq_true rfl) (Nat.le_of_ble_eq_true rfl) (Nat.le_of_ble_eq_true rfl) ?_
  refine zr_putF F 13 21 zd_MPainter_init_65 ((zu_n _ (by omega)).trans (zu_s _ _ _)) rfl (by decide) zw_1601 rfl rfl hin rfl rfl rfl (by exact (Nat.le_of_ble_eq_true rfl)) ?_
  refine zr_norm (zu (zb f n [.inl (tA 2, 12, .inr (.inl (fun _ => 0))), .inl (tA 2, 12, .inr (.inl (fun _ => 0))), .inl (tA 2, 12, .inr (.inl (fun _ => 0))), .inl (tA 2, 12, .inr (.inl (fun _ => 0))), .inl (tA 2, 12, .inr (.inl (fun _ => 0))), .inl (tA 2, 12, .inr (.inl (fun _ => 0))), .inl (tA 0, 48, .inl (fun _ => 0)), .inl (tA 2, 48, .inr (.inl (fun _ => 0)))]) k (.inr (13, [.int 0, .int 0, .int 0, .null, .null, .null, .int 0, .int 0, .int 0, .int 0, .int 0, .int 0, .int 0, .long 0, .ref (b + (n)), .ref (b + (n + 1)), .ref (b + (n + 2)), .ref (b + (n + 3)), .ref (b + (n + 4)), .ref (b + (n + 5)), .ref (b + (n + 6)), .ref (b + (n + 7)), .null, .null, .null, .null, .int 0, .null, .null, .null, .null]))) (n + 8) (zb_1 hk rfl rfl) rfl ?_
  refine zr_aload_n F zd_MPainter_init_68 rfl ?_
  refine zr_bipushv (v := 48) F zd_MPainter_init_69 (by decide) ?_
  refine zr_newa (N := 48) (a0 := (48, .inl (fun _ => 0))) F 0 zd_MPainter_init_71 rfl rfl zw_74 (fun _ => rfl) (by decide) (by decide) (Nat.le_of_ble_eq_true rfl) (Nat.le_of_ble_eq_true rfl) (Nat.le_of_ble_eq_true rfl) ?_
  refine zr_putF F 13 22 zd_MPainter_init_73 ((zu_n _ (by omega)).trans (zu_s _ _ _)) rfl (by decide) zw_1602 rfl rfl hin rfl rfl rfl (by exact (Nat.le_of_ble_eq_true rfl)) ?_
  refine zr_norm (zu (zb f n [.inl (tA 2, 12, .inr (.inl (fun _ => 0))), .inl (tA 2, 12, .inr (.inl (fun _ => 0))), .inl (tA 2, 12, .inr (.inl (fun _ => 0))), .inl (tA 2, 12, .inr (.inl (fun _ => 0))), .inl (tA 2, 12, .inr (.inl (fun _ => 0))), .inl (tA 2, 12, .inr (.inl (fun _ => 0))), .inl (tA 0, 48, .inl (fun _ => 0)), .inl (tA 2, 48, .inr (.inl (fun _ => 0))), .inl (tA 0, 48, .inl (fun _ => 0))]) k (.inr (13, [.int 0, .int 0, .int 0, .null, .null, .null, .int 0, .int 0, .int 0, .int 0, .int 0, .int 0, .int 0, .long 0, .ref (b + (n)), .ref (b + (n + 1)), .ref (b + (n + 2)), .ref (b + (n + 3)), .ref (b + (n + 4)), .ref (b + (n + 5)), .ref (b + (n + 6)), .ref (b + (n + 7)), .ref (b + (n + 8)), .null, .null, .null, .int 0, .null, .null, .null, .null]))) (n + 9) (zb_1 hk rfl rfl) rfl ?_
  refine zr_aload_n F zd_MPainter_init_76 rfl ?_
  refine zr_bipushv (v := 120) F zd_MPainter_init_77 (by decide) ?_
  refine zr_newa (N := 120) (a0 := (120, .inr (.inl (fun _ => 0)))) F 2 zd_MPainter_init_79 rfl rfl zw_1674 (fun _ => rfl) (by decide) (by decide) (Nat.le_of_ble_eq_true rfl) (Nat.le_of_ble_eq_true rfl) (Nat.le_of_ble_eq_true rfl) ?_
  refine zr_putF F 13 23 zd_MPainter_init_81 ((zu_n _ (by omega)).trans (zu_s _ _ _)) rfl (by decide) zw_1603 rfl rfl hin rfl rfl rfl (by exact (Nat.le_of_ble_eq_true rfl)) ?_
  refine zr_norm (zu (zb f n [.inl (tA 2, 12, .inr (.inl (fun _ => 0))), .inl (tA 2, 12, .inr (.inl (fun _ => 0))), .inl (tA 2, 12, .inr (.inl (fun _ => 0))), .inl (tA 2, 12, .inr (.inl (fun _ => 0))), .inl (tA 2, 12, .inr (.inl (fun _ => 0))), .inl (tA 2, 12, .inr (.inl (fun _ => 0))), .inl (tA 0, 48, .inl (fun _ => 0)), .inl (tA 2, 48, .inr (.inl (fun _ => 0))), .inl (tA 0, 48, .inl (fun _ => 0)), .inl (tA 2, 120, .inr (.inl (fun _ => 0)))]) k (.inr (13, [.int 0, .int 0, .int 0, .null, .null, .null, .int 0, .int 0, .int 0, .int 0, .int 0, .int 0, .int 0, .long 0, .ref (b + (n)), .ref (b + (n + 1)), .ref (b + (n + 2)), .ref (b + (n + 3)), .ref (b + (n + 4)), .ref (b + (n + 5)), .ref (b + (n + 6)), .ref (b + (n + 7)), .ref (b + (n + 8)), .ref (b + (n + 9)), .null, .null, .int 0, .null, .null, .null, .null]))) (n + 10) (zb_1 hk rfl rfl) rfl ?_
  refine zr_aload_n F zd_MPainter_init_84 rfl ?_
  refine zr_bipushv (v := 120) F zd_MPainter_init_85 (by decide) ?_
  refine zr_newa (N := 120) (a0 := (120, .inr (.inl (fun _ => 0)))) F 2 zd_MPainter_init_87 rfl rfl zw_1674 (fun _ => rfl) (by decide) (by decide) (Nat.le_of_ble_eq_true rfl) (Nat.le_of_ble_eq_true rfl) (Nat.le_of_ble_eq_true rfl) ?_
  refine zr_putF F 13 24 zd_MPainter_init_89 ((zu_n _ (by omega)).trans (zu_s _ _ _)) rfl (by decide) zw_1604 rfl rfl hin rfl rfl rfl (by exact (Nat.le_of_ble_eq_true rfl)) ?_
  refine zr_norm (zu (zb f n [.inl (tA 2, 12, .inr (.inl (fun _ => 0))), .inl (tA 2, 12, .inr (.inl (fun _ => 0))), .inl (tA 2, 12, .inr (.inl (fun _ => 0))), .inl (tA 2, 12, .inr (.inl (fun _ => 0))), .inl (tA 2, 12, .inr (.inl (fun _ => 0))), .inl (tA 2, 12, .inr (.inl (fun _ => 0))), .inl (tA 0, 48, .inl (fun _ => 0)), .inl (tA 2, 48, .inr (.inl (fun _ => 0))), .inl (tA 0, 48, .inl (fun _ => 0)), .inl (tA 2, 120, .inr (.inl (fun _ => 0))), .inl (tA 2, 120, .inr (.inl (fun _ => 0)))]) k (.inr (13, [.int 0, .int 0, .int 0, .null, .null, .null, .int 0, .int 0, .int 0, .int 0, .int 0, .int 0, .int 0, .long 0, .ref (b + (n)), .ref (b + (n + 1)), .ref (b + (n + 2)), .ref (b + (n + 3)), .ref (b + (n + 4)), .ref (b + (n + 5)), .ref (b + (n + 6)), .ref (b + (n + 7)), .ref (b + (n + 8)), .ref (b + (n + 9)), .ref (b + (n + 10)), .null, .int 0, .null, .null, .null, .null]))) (n + 11) (zb_1 hk rfl rfl) rfl ?_
  refine zr_aload_n F zd_MPainter_init_92 rfl ?_
  refine zr_bipushv (v := 20) F zd_MPainter_init_93 (by decide) ?_
  refine zr_newa (N := 20) (a0 := (20, .inr (.inl (fun _ => 0)))) F 2 zd_MPainter_init_95 rfl rfl zw_1674 (fun _ => rfl) (by decide) (by decide) (Nat.le_of_ble_eq_true rfl) (Nat.le_of_ble_eq_true rfl) (Nat.le_of_ble_eq_true rfl) ?_
  refine zr_putF F 13 25 zd_MPainter_init_97 ((zu_n _ (by omega)).trans (zu_s _ _ _)) rfl (by decide) zw_1605 rfl rfl hin rfl rfl rfl (by exact (Nat.le_of_ble_eq_true rfl)) ?_
  refine zr_norm (zu (zb f n [.inl (tA 2, 12, .inr (.inl (fun _ => 0))), .inl (tA 2, 12, .inr (.inl (fun _ => 0))), .inl (tA 2, 12, .inr (.inl (fun _ => 0))), .inl (tA 2, 12, .inr (.inl (fun _ => 0))), .inl (tA 2, 12, .inr (.inl (fun _ => 0))), .inl (tA 2, 12, .inr (.inl (fun _ => 0))), .inl (tA 0, 48, .inl (fun _ => 0)), .inl (tA 2, 48, .inr (.inl (fun _ => 0))), .inl (tA 0, 48, .inl (fun _ => 0)), .inl (tA 2, 120, .inr (.inl (fun _ => 0))), .inl (tA 2, 120, .inr (.inl (fun _ => 0))), .inl (tA 2, 20, .inr (.inl (fun _ => 0)))]) k (.inr (13, [.int 0, .int 0, .int 0, .null, .null, .null, .int 0, .int 0, .int 0, .int 0, .int 0, .int 0, .int 0, .long 0, .ref (b + (n)), .ref (b + (n + 1)), .ref (b + (n + 2)), .ref (b + (n + 3)), .ref (b + (n + 4)), .ref (b + (n + 5)), .ref (b + (n + 6)), .ref (b + (n + 7)), .ref (b + (n + 8)), .ref (b + (n + 9)), .ref (b + (n + 10)), .ref (b + (n + 11)), .int 0, .null, .null, .null, .null]))) (n + 12) (zb_1 hk rfl rfl) rfl ?_
  refine zr_aload_n F zd_MPainter_init_100 rfl ?_
  refine zr_bipushv (v := 20) F zd_MPainter_init_101 (by decide) ?_
  refine zr_newa (N := 20) (a0 := (20, .inr (.inl (fun _ => 0)))) F 2 zd_MPainter_init_103 rfl rfl zw_1674 (fun _ => rfl) (by decide) (by decide) (Nat.le_of_ble_eq_true rfl) (Nat.le_of_ble_eq_true rfl) (Nat.le_of_ble_eq_true rfl) ?_
  refine zr_putF F 13 27 zd_MPainter_init_105 ((zu_n _ (by omega)).trans (zu_s _ _ _)) rfl (by decide) zw_1607 rfl rfl hin rfl rfl rfl (by exact (Nat.le_of_ble_eq_true rfl)) ?_
  refine zr_norm (zu (zb f n [.inl (tA 2, 12, .inr (.inl (fun _ => 0))), .inl (tA 2, 12, .inr (.inl (fun _ => 0))), .inl (tA 2, 12, .inr (.inl (fun _ => 0))), .inl (tA 2, 12, .inr (.inl (fun _ => 0))), .inl (tA 2, 12, .inr (.inl (fun _ => 0))), .inl (tA 2, 12, .inr (.inl (fun _ => 0))), .inl (tA 0, 48, .inl (fun _ => 0)), .inl (tA 2, 48, .inr (.inl (fun _ => 0))), .inl (tA 0, 48, .inl (fun _ => 0)), .inl (tA 2, 120, .inr (.inl (fun _ => 0))), .inl (tA 2, 120, .inr (.inl (fun _ => 0))), .inl (tA 2, 20, .inr (.inl (fun _ => 0))), .inl (tA 2, 20, .inr (.inl (fun _ => 0)))]) k (.inr (13, [.int 0, .int 0, .int 0, .null, .null, .null, .int 0, .int 0, .int 0, .int 0, .int 0, .int 0, .int 0, .long 0, .ref (b + (n)), .ref (b + (n + 1)), .ref (b + (n + 2)), .ref (b + (n + 3)), .ref (b + (n + 4)), .ref (b + (n + 5)), .ref (b + (n + 6)), .ref (b + (n + 7)), .ref (b + (n + 8)), .ref (b + (n + 9)), .ref (b + (n + 10)), .ref (b + (n + 11)), .int 0, .ref (b + (n + 12)), .null, .null, .null]))) (n + 13) (zb_1 hk rfl rfl) rfl ?_
  refine zr_aload_n F zd_MPainter_init_108 rfl ?_
  refine zr_bipushv (v := 20) F zd_MPainter_init_109 (by decide) ?_
  refine zr_newa (N := 20) (a0 := (20, .inr (.inl (fun _ => 0)))) F 2 zd_MPainter_init_111 rfl rfl zw_1674 (fun _ => rfl) (by decide) (by decide) (Nat.le_of_ble_eq_true rfl) (Nat.le_of_ble_eq_true rfl) (Nat.le_of_ble_eq_true rfl) ?_
  refine zr_putF F 13 28 zd_MPainter_init_113 ((zu_n _ (by omega)).trans (zu_s _ _ _)) rfl (by decide) zw_1608 rfl rfl hin rfl rfl rfl (by exact (Nat.le_of_ble_eq_true rfl)) ?_
  refine zr_norm (zu (zb f n [.inl (tA 2, 12, .inr (.inl (fun _ => 0))), .inl (tA 2, 12, .inr (.inl (fun _ => 0))), .inl (tA 2, 12, .inr (.inl (fun _ => 0))), .inl (tA 2, 12, .inr (.inl (fun _ => 0))), .inl (tA 2, 12, .inr (.inl (fun _ => 0))), .inl (tA 2, 12, .inr (.inl (fun _ => 0))), .inl (tA 0, 48, .inl (fun _ => 0)), .inl (tA 2, 48, .inr (.inl (fun _ => 0))), .inl (tA 0, 48, .inl (fun _ => 0)), .inl (tA 2, 120, .inr (.inl (fun _ => 0))), .inl (tA 2, 120, .inr (.inl (fun _ => 0))), .inl (tA 2, 20, .inr (.inl (fun _ => 0))), .inl (tA 2, 20, .inr (.inl (fun _ => 0))), .inl (tA 2, 20, .inr (.inl (fun _ => 0)))]) k (.inr (13, [.int 0, .int 0, .int 0, .null, .null, .null, .int 0, .int 0, .int 0, .int 0, .int 0, .int 0, .int 0, .long 0, .ref (b + (n)), .ref (b + (n + 1)), .ref (b + (n + 2)), .ref (b + (n + 3)), .ref (b + (n + 4)), .ref (b + (n + 5)), .ref (b + (n + 6)), .ref (b + (n + 7)), .ref (b + (n + 8)), .ref (b + (n + 9)), .ref (b + (n + 10)), .ref (b + (n + 11)), .int 0, .ref (b + (n + 12)), .ref (b + (n + 13)), .null, .null]))) (n + 14) (zb_1 hk rfl rfl) rfl ?_
  refine zr_aload_n F zd_MPainter_init_116 rfl ?_
  refine zr_bipushv (v := 20) F zd_MPainter_init_117 (by decide) ?_
  refine zr_newa (N := 20) (a0 := (20, .inr (.inl (fun _ => 0)))) F 2 zd_MPainter_init_119 rfl rfl zw_1674 (fun _ => rfl) (by decide) (by decide) (Nat.le_of_ble_eq_true rfl) (Nat.le_of_ble_eq_true rfl) (Nat.le_of_ble_eq_true rfl) ?_
  refine zr_putF F 13 29 zd_MPainter_init_121 ((zu_n _ (by omega)).trans (zu_s _ _ _)) rfl (by decide) zw_1609 rfl rfl hin rfl rfl rfl (by exact (Nat.le_of_ble_eq_true rfl)) ?_
  refine zr_norm (zu (zb f n [.inl (tA 2, 12, .inr (.inl (fun _ => 0))), .inl (tA 2, 12, .inr (.inl (fun _ => 0))), .inl (tA 2, 12, .inr (.inl (fun _ => 0))), .inl (tA 2, 12, .inr (.inl (fun _ => 0))), .inl (tA 2, 12, .inr (.inl (fun _ => 0))), .inl (tA 2, 12, .inr (.inl (fun _ => 0))), .inl (tA 0, 48, .inl (fun _ => 0)), .inl (tA 2, 48, .inr (.inl (fun _ => 0))), .inl (tA 0, 48, .inl (fun _ => 0)), .inl (tA 2, 120, .inr (.inl (fun _ => 0))), .inl (tA 2, 120, .inr (.inl (fun _ => 0))), .inl (tA 2, 20, .inr (.inl (fun _ => 0))), .inl (tA 2, 20, .inr (.inl (fun _ => 0))), .inl (tA 2, 20, .inr (.inl (fun _ => 0))), .inl (tA 2, 20, .inr (.inl (fun _ => 0)))]) k (.inr (13, [.int 0, .int 0, .int 0, .null, .null, .null, .int 0, .int 0, .int 0, .int 0, .int 0, .int 0, .int 0, .long 0, .ref (b + (n)), .ref (b + (n + 1)), .ref (b + (n + 2)), .ref (b + (n + 3)), .ref (b + (n + 4)), .ref (b + (n + 5)), .ref (b + (n + 6)), .ref (b + (n + 7)), .ref (b + (n + 8)), .ref (b + (n + 9)), .ref (b + (n + 10)), .ref (b + (n + 11)), .int 0, .ref (b + (n + 12)), .ref (b + (n + 13)), .ref (b + (n + 14)), .null]))) (n + 15) (zb_1 hk rfl rfl) rfl ?_
  refine zr_aload_n F zd_MPainter_init_124 rfl ?_
  refine zr_iconstv (v := 3) F zd_MPainter_init_125 (by decide) ?_
  refine zr_newa (N := 3) (a0 := (3, .inr (.inl (fun _ => 0)))) F 2 zd_MPainter_init_126 rfl rfl zw_1674 (fun _ => rfl) (by decide) (by decide) (Nat.le_of_ble_eq_true rfl) (Nat.le_of_ble_eq_true rfl) (Nat.le_of_ble_eq_true rfl) ?_
  refine zr_putF F 13 30 zd_MPainter_init_128 ((zu_n _ (by omega)).trans (zu_s _ _ _)) rfl (by decide) zw_1610 rfl rfl hin rfl rfl rfl (by exact (Nat.le_of_ble_eq_true rfl)) ?_
  refine zr_norm (zu (zb f n [.inl (tA 2, 12, .inr (.inl (fun _ => 0))), .inl (tA 2, 12, .inr (.inl (fun _ => 0))), .inl (tA 2, 12, .inr (.inl (fun _ => 0))), .inl (tA 2, 12, .inr (.inl (fun _ => 0))), .inl (tA 2, 12, .inr (.inl (fun _ => 0))), .inl (tA 2, 12, .inr (.inl (fun _ => 0))), .inl (tA 0, 48, .inl (fun _ => 0)), .inl (tA 2, 48, .inr (.inl (fun _ => 0))), .inl (tA 0, 48, .inl (fun _ => 0)), .inl (tA 2, 120, .inr (.inl (fun _ => 0))), .inl (tA 2, 120, .inr (.inl (fun _ => 0))), .inl (tA 2, 20, .inr (.inl (fun _ => 0))), .inl (tA 2, 20, .inr (.inl (fun _ => 0))), .inl (tA 2, 20, .inr (.inl (fun _ => 0))), .inl (tA 2, 20, .inr (.inl (fun _ => 0))), .inl (tA 2, 3, .inr (.inl (fun _ => 0)))]) k (.inr (13, [.int 0, .int 0, .int 0, .null, .null, .null, .int 0, .int 0, .int 0, .int 0, .int 0, .int 0, .int 0, .long 0, .ref (b + (n)), .ref (b + (n + 1)), .ref (b + (n + 2)), .ref (b + (n + 3)), .ref (b + (n + 4)), .ref (b + (n + 5)), .ref (b + (n + 6)), .ref (b + (n + 7)), .ref (b + (n + 8)), .ref (b + (n + 9)), .ref (b + (n + 10)), .ref (b + (n + 11)), .int 0, .ref (b + (n + 12)), .ref (b + (n + 13)), .ref (b + (n + 14)), .ref (b + (n + 15))]))) (n + 16) (zb_1 hk rfl rfl) rfl ?_
  refine zr_aload_n F zd_MPainter_init_131 rfl ?_
  refine zr_iload_n F zd_MPainter_init_132 rfl ?_
  refine zr_putF F 13 1 zd_MPainter_init_133 (zu_s _ _ _) rfl (by decide) zw_1577 rfl rfl hin rfl rfl rfl (by exact (Nat.le_of_ble_eq_true rfl)) ?_
  refine zr_norm (zu (zb f n [.inl (tA 2, 12, .inr (.inl (fun _ => 0))), .inl (tA 2, 12, .inr (.inl (fun _ => 0))), .inl (tA 2, 12, .inr (.inl (fun _ => 0))), .inl (tA 2, 12, .inr (.inl (fun _ => 0))), .inl (tA 2, 12, .inr (.inl (fun _ => 0))), .inl (tA 2, 12, .inr (.inl (fun _ => 0))), .inl (tA 0, 48, .inl (fun _ => 0)), .inl (tA 2, 48, .inr (.inl (fun _ => 0))), .inl (tA 0, 48, .inl (fun _ => 0)), .inl (tA 2, 120, .inr (.inl (fun _ => 0))), .inl (tA 2, 120, .inr (.inl (fun _ => 0))), .inl (tA 2, 20, .inr (.inl (fun _ => 0))), .inl (tA 2, 20, .inr (.inl (fun _ => 0))), .inl (tA 2, 20, .inr (.inl (fun _ => 0))), .inl (tA 2, 20, .inr (.inl (fun _ => 0))), .inl (tA 2, 3, .inr (.inl (fun _ => 0)))]) k (.inr (13, [.int 0, .int w, .int 0, .null, .null, .null, .int 0, .int 0, .int 0, .int 0, .int 0, .int 0, .int 0, .long 0, .ref (b + (n)), .ref (b + (n + 1)), .ref (b + (n + 2)), .ref (b + (n + 3)), .ref (b + (n + 4)), .ref (b + (n + 5)), .ref (b + (n + 6)), .ref (b + (n + 7)), .ref (b + (n + 8)), .ref (b + (n + 9)), .ref (b + (n + 10)), .ref (b + (n + 11)), .int 0, .ref (b + (n + 12)), .ref (b + (n + 13)), .ref (b + (n + 14)), .ref (b + (n + 15))]))) (n + 16) (zu_zu _ _ _ _) rfl ?_
  refine zr_aload_n F zd_MPainter_init_136 rfl ?_
  refine zr_iload_n F zd_MPainter_init_137 rfl ?_
  refine zr_putF F 13 2 zd_MPainter_init_138 (zu_s _ _ _) rfl (by decide) zw_1578 rfl rfl hin rfl rfl rfl (by exact (Nat.le_of_ble_eq_true rfl)) ?_
  refine zr_norm (zu (zb f n [.inl (tA 2, 12, .inr (.inl (fun _ => 0))), .inl (tA 2, 12, .inr (.inl (fun _ => 0))), .inl (tA 2, 12, .inr (.inl (fun _ => 0))), .inl (tA 2, 12, .inr (.inl (fun _ => 0))), .inl (tA 2, 12, .inr (.inl (fun _ => 0))), .inl (tA 2, 12, .inr (.inl (fun _ => 0))), .inl (tA 0, 48, .inl (fun _ => 0)), .inl (tA 2, 48, .inr (.inl (fun _ => 0))), .inl (tA 0, 48, .inl (fun _ => 0)), .inl (tA 2, 120, .inr (.inl (fun _ => 0))), .inl (tA 2, 120, .inr (.inl (fun _ => 0))), .inl (tA 2, 20, .inr (.inl (fun _ => 0))), .inl (tA 2, 20, .inr (.inl (fun _ => 0))), .inl (tA 2, 20, .inr (.inl (fun _ => 0))), .inl (tA 2, 20, .inr (.inl (fun _ => 0))), .inl (tA 2, 3, .inr (.inl (fun _ => 0)))]) k (.inr (13, [.int 0, .int w, .int h, .null, .null, .null, .int 0, .int 0, .int 0, .int 0, .int 0, .int 0, .int 0, .long 0, .ref (b + (n)), .ref (b + (n + 1)), .ref (b + (n + 2)), .ref (b + (n + 3)), .ref (b + (n + 4)), .ref (b + (n + 5)), .ref (b + (n + 6)), .ref (b + (n + 7)), .ref (b + (n + 8)), .ref (b + (n + 9)), .ref (b + (n + 10)), .ref (b + (n + 11)), .int 0, .ref (b + (n + 12)), .ref (b + (n + 13)), .ref (b + (n + 14)), .ref (b + (n + 15))]))) (n + 16) (zu_zu _ _ _ _) rfl ?_
  refine zr_aload_n F zd_MPainter_init_141 rfl ?_
  refine zr_aload_n F zd_MPainter_init_142 rfl ?_
  refine zr_putF F 13 3 zd_MPainter_init_143 (zu_s _ _ _) rfl (by decide) zw_1579 rfl rfl hin rfl rfl rfl (by exact (Nat.le_of_ble_eq_true rfl)) ?_
  refine zr_norm (zu (zb f n [.inl (tA 2, 12, .inr (.inl (fun _ => 0))), .inl (tA 2, 12, .inr (.inl (fun _ => 0))), .inl (tA 2, 12, .inr (.inl (fun _ => 0))), .inl (tA 2, 12, .inr (.inl (fun _ => 0))), .inl (tA 2, 12, .inr (.inl (fun _ => 0))), .inl (tA 2, 12, .inr (.inl (fun _ => 0))), .inl (tA 0, 48, .inl (fun _ => 0)), .inl (tA 2, 48, .inr (.inl (fun _ => 0))), .inl (tA 0, 48, .inl (fun _ => 0)), .inl (tA 2, 120, .inr (.inl (fun _ => 0))), .inl (tA 2, 120, .inr (.inl (fun _ => 0))), .inl (tA 2, 20, .inr (.inl (fun _ => 0))), .inl (tA 2, 20, .inr (.inl (fun _ => 0))), .inl (tA 2, 20, .inr (.inl (fun _ => 0))), .inl (tA 2, 20, .inr (.inl (fun _ => 0))), .inl (tA 2, 3, .inr (.inl (fun _ => 0)))]) k (.inr (13, [.int 0, .int w, .int h, .ref ca, .null, .null, .int 0, .int 0, .int 0, .int 0, .int 0, .int 0, .int 0, .long 0, .ref (b + (n)), .ref (b + (n + 1)), .ref (b + (n + 2)), .ref (b + (n + 3)), .ref (b + (n + 4)), .ref (b + (n + 5)), .ref (b + (n + 6)), .ref (b + (n + 7)), .ref (b + (n + 8)), .ref (b + (n + 9)), .ref (b + (n + 10)), .ref (b + (n + 11)), .int 0, .ref (b + (n + 12)), .ref (b + (n + 13)), .ref (b + (n + 14)), .ref (b + (n + 15))]))) (n + 16) (zu_zu _ _ _ _) rfl ?_
  refine zr_aload_n F zd_MPainter_init_146 rfl ?_
  refine zr_aload F zd_MPainter_init_147 rfl ?_
  refine zr_putF F 13 4 zd_MPainter_init_149 (zu_s _ _ _) rfl (by decide) zw_1580 rfl rfl hin rfl rfl rfl (by exact (Nat.le_of_ble_eq_true rfl)) ?_
  refine zr_norm (zu (zb f n [.inl (tA 2, 12, .inr (.inl (fun _ => 0))), .inl (tA 2, 12, .inr (.inl (fun _ => 0))), .inl (tA 2, 12, .inr (.inl (fun _ => 0))), .inl (tA 2, 12, .inr (.inl (fun _ => 0))), .inl (tA 2, 12, .inr (.inl (fun _ => 0))), .inl (tA 2, 12, .inr (.inl (fun _ => 0))), .inl (tA 0, 48, .inl (fun _ => 0)), .inl (tA 2, 48, .inr (.inl (fun _ => 0))), .inl (tA 0, 48, .inl (fun _ => 0)), .inl (tA 2, 120, .inr (.inl (fun _ => 0))), .inl (tA 2, 120, .inr (.inl (fun _ => 0))), .inl (tA 2, 20, .inr (.inl (fun _ => 0))), .inl (tA 2, 20, .inr (.inl (fun _ => 0))), .inl (tA 2, 20, .inr (.inl (fun _ => 0))), .inl (tA 2, 20, .inr (.inl (fun _ => 0))), .inl (tA 2, 3, .inr (.inl (fun _ => 0)))]) k (.inr (13, [.int 0, .int w, .int h, .ref ca, .ref na, .null, .int 0, .int 0, .int 0, .int 0, .int 0, .int 0, .int 0, .long 0, .ref (b + (n)), .ref (b + (n + 1)), .ref (b + (n + 2)), .ref (b + (n + 3)), .ref (b + (n + 4)), .ref (b + (n + 5)), .ref (b + (n + 6)), .ref (b + (n + 7)), .ref (b + (n + 8)), .ref (b + (n + 9)), .ref (b + (n + 10)), .ref (b + (n + 11)), .int 0, .ref (b + (n + 12)), .ref (b + (n + 13)), .ref (b + (n + 14)), .ref (b + (n + 15))]))) (n + 16) (zu_zu _ _ _ _) rfl ?_
  exact zr_vret F hr zd_MPainter_init_152 (Nat.le_of_ble_eq_true rfl) (Nat.le_of_ble_eq_true rfl) ⟨rfl, rfl, rfl⟩
abbrev zb_MScene_init : ByteArray := prog_18_method_1_code
def zy_MScene_init : MethodName := ⟨"OrreryBoxModel$Scene", "<init>", "()V"⟩
theorem zc_MScene_init : Cond.code zy_MScene_init zb_MScene_init 1 none ∈ gw := gw_t 1313 (by decide +kernel) rfl
theorem zq_MScene_init : zy_MScene_init.cls ≠ "java/lang/invoke/MethodHandle" ∧ zy_MScene_init.cls ≠ "java/lang/invoke/VarHandle" ∧ (parseMethodDescriptor zy_MScene_init.desc).map (fun d => d.parameters.length) = some 0 := by decide +kernel
theorem zd_MScene_init_0 : decode zb_MScene_init 0 = .ok (.aload_n 0, 1) := by decide +kernel
theorem zd_MScene_init_1 : decode zb_MScene_init 1 = .ok (.invokespecial 1, 3) := by decide +kernel
theorem zd_MScene_init_4 : decode zb_MScene_init 4 = .ok (.aload_n 0, 1) := by decide +kernel
theorem zd_MScene_init_5 : decode zb_MScene_init 5 = .ok (.bipush 8, 2) := by decide +kernel
theorem zd_MScene_init_7 : decode zb_MScene_init 7 = .ok (.newarray .int, 2) := by decide +kernel
theorem zd_MScene_init_9 : decode zb_MScene_init 9 = .ok (.putfield 7, 3) := by decide +kernel
theorem zd_MScene_init_12 : decode zb_MScene_init 12 = .ok (.aload_n 0, 1) := by decide +kernel
theorem zd_MScene_init_13 : decode zb_MScene_init 13 = .ok (.bipush 8, 2) := by decide +kernel
theorem zd_MScene_init_15 : decode zb_MScene_init 15 = .ok (.newarray .int, 2) := by decide +kernel
theorem zd_MScene_init_17 : decode zb_MScene_init 17 = .ok (.putfield 13, 3) := by decide +kernel
theorem zd_MScene_init_20 : decode zb_MScene_init 20 = .ok (.aload_n 0, 1) := by decide +kernel
theorem zd_MScene_init_21 : decode zb_MScene_init 21 = .ok (.bipush 8, 2) := by decide +kernel
theorem zd_MScene_init_23 : decode zb_MScene_init 23 = .ok (.newarray .int, 2) := by decide +kernel
theorem zd_MScene_init_25 : decode zb_MScene_init 25 = .ok (.putfield 16, 3) := by decide +kernel
theorem zd_MScene_init_28 : decode zb_MScene_init 28 = .ok (.aload_n 0, 1) := by decide +kernel
theorem zd_MScene_init_29 : decode zb_MScene_init 29 = .ok (.sipush 32760, 3) := by decide +kernel
theorem zd_MScene_init_32 : decode zb_MScene_init 32 = .ok (.newarray .int, 2) := by decide +kernel
theorem zd_MScene_init_34 : decode zb_MScene_init 34 = .ok (.putfield 19, 3) := by decide +kernel
theorem zd_MScene_init_37 : decode zb_MScene_init 37 = .ok (.aload_n 0, 1) := by decide +kernel
theorem zd_MScene_init_38 : decode zb_MScene_init 38 = .ok (.bipush 64, 2) := by decide +kernel
theorem zd_MScene_init_40 : decode zb_MScene_init 40 = .ok (.newarray .int, 2) := by decide +kernel
theorem zd_MScene_init_42 : decode zb_MScene_init 42 = .ok (.putfield 22, 3) := by decide +kernel
theorem zd_MScene_init_45 : decode zb_MScene_init 45 = .ok (.aload_n 0, 1) := by decide +kernel
theorem zd_MScene_init_46 : decode zb_MScene_init 46 = .ok (.bipush 16, 2) := by decide +kernel
theorem zd_MScene_init_48 : decode zb_MScene_init 48 = .ok (.newarray .int, 2) := by decide +kernel
theorem zd_MScene_init_50 : decode zb_MScene_init 50 = .ok (.putfield 25, 3) := by decide +kernel
theorem zd_MScene_init_53 : decode zb_MScene_init 53 = .ok (.aload_n 0, 1) := by decide +kernel
theorem zd_MScene_init_54 : decode zb_MScene_init 54 = .ok (.bipush 16, 2) := by decide +kernel
theorem zd_MScene_init_56 : decode zb_MScene_init 56 = .ok (.newarray .int, 2) := by decide +kernel
theorem zd_MScene_init_58 : decode zb_MScene_init 58 = .ok (.putfield 28, 3) := by decide +kernel
theorem zd_MScene_init_61 : decode zb_MScene_init 61 = .ok (.aload_n 0, 1) := by decide +kernel
theorem zd_MScene_init_62 : decode zb_MScene_init 62 = .ok (.bipush 16, 2) := by decide +kernel
theorem zd_MScene_init_64 : decode zb_MScene_init 64 = .ok (.newarray .int, 2) := by decide +kernel
theorem zd_MScene_init_66 : decode zb_MScene_init 66 = .ok (.putfield 31, 3) := by decide +kernel
theorem zd_MScene_init_69 : decode zb_MScene_init 69 = .ok (.aload_n 0, 1) := by decide +kernel
theorem zd_MScene_init_70 : decode zb_MScene_init 70 = .ok (.bipush 16, 2) := by decide +kernel
theorem zd_MScene_init_72 : decode zb_MScene_init 72 = .ok (.newarray .int, 2) := by decide +kernel
theorem zd_MScene_init_74 : decode zb_MScene_init 74 = .ok (.putfield 34, 3) := by decide +kernel
theorem zd_MScene_init_77 : decode zb_MScene_init 77 = .ok (.aload_n 0, 1) := by decide +kernel
theorem zd_MScene_init_78 : decode zb_MScene_init 78 = .ok (.bipush 16, 2) := by decide +kernel
theorem zd_MScene_init_80 : decode zb_MScene_init 80 = .ok (.newarray .int, 2) := by decide +kernel
theorem zd_MScene_init_82 : decode zb_MScene_init 82 = .ok (.putfield 37, 3) := by decide +kernel
theorem zd_MScene_init_85 : decode zb_MScene_init 85 = .ok (.aload_n 0, 1) := by decide +kernel
theorem zd_MScene_init_86 : decode zb_MScene_init 86 = .ok (.sipush 6144, 3) := by decide +kernel
theorem zd_MScene_init_89 : decode zb_MScene_init 89 = .ok (.newarray .int, 2) := by decide +kernel
theorem zd_MScene_init_91 : decode zb_MScene_init 91 = .ok (.putfield 40, 3) := by decide +kernel
theorem zd_MScene_init_94 : decode zb_MScene_init 94 = .ok (.aload_n 0, 1) := by decide +kernel
theorem zd_MScene_init_95 : decode zb_MScene_init 95 = .ok (.sipush 6144, 3) := by decide +kernel
theorem zd_MScene_init_98 : decode zb_MScene_init 98 = .ok (.newarray .int, 2) := by decide +kernel
theorem zd_MScene_init_100 : decode zb_MScene_init 100 = .ok (.putfield 43, 3) := by decide +kernel
theorem zd_MScene_init_103 : decode zb_MScene_init 103 = .ok (.aload_n 0, 1) := by decide +kernel
theorem zd_MScene_init_104 : decode zb_MScene_init 104 = .ok (.sipush 4096, 3) := by decide +kernel
theorem zd_MScene_init_107 : decode zb_MScene_init 107 = .ok (.newarray .int, 2) := by decide +kernel
theorem zd_MScene_init_109 : decode zb_MScene_init 109 = .ok (.putfield 46, 3) := by decide +kernel
theorem zd_MScene_init_112 : decode zb_MScene_init 112 = .ok (.aload_n 0, 1) := by decide +kernel
theorem zd_MScene_init_113 : decode zb_MScene_init 113 = .ok (.sipush 6144, 3) := by decide +kernel
theorem zd_MScene_init_116 : decode zb_MScene_init 116 = .ok (.newarray .int, 2) := by decide +kernel
theorem zd_MScene_init_118 : decode zb_MScene_init 118 = .ok (.putfield 49, 3) := by decide +kernel
theorem zd_MScene_init_121 : decode zb_MScene_init 121 = .ok (.aload_n 0, 1) := by decide +kernel
theorem zd_MScene_init_122 : decode zb_MScene_init 122 = .ok (.bipush 48, 2) := by decide +kernel
theorem zd_MScene_init_124 : decode zb_MScene_init 124 = .ok (.newarray .int, 2) := by decide +kernel
theorem zd_MScene_init_126 : decode zb_MScene_init 126 = .ok (.putfield 52, 3) := by decide +kernel
theorem zd_MScene_init_129 : decode zb_MScene_init 129 = .ok (.aload_n 0, 1) := by decide +kernel
theorem zd_MScene_init_130 : decode zb_MScene_init 130 = .ok (.bipush 48, 2) := by decide +kernel
theorem zd_MScene_init_132 : decode zb_MScene_init 132 = .ok (.newarray .int, 2) := by decide +kernel
theorem zd_MScene_init_134 : decode zb_MScene_init 134 = .ok (.putfield 55, 3) := by decide +kernel
theorem zd_MScene_init_137 : decode zb_MScene_init 137 = .ok (.aload_n 0, 1) := by decide +kernel
theorem zd_MScene_init_138 : decode zb_MScene_init 138 = .ok (.sipush 144, 3) := by decide +kernel
theorem zd_MScene_init_141 : decode zb_MScene_init 141 = .ok (.newarray .int, 2) := by decide +kernel
theorem zd_MScene_init_143 : decode zb_MScene_init 143 = .ok (.putfield 58, 3) := by decide +kernel
theorem zd_MScene_init_146 : decode zb_MScene_init 146 = .ok (.aload_n 0, 1) := by decide +kernel
theorem zd_MScene_init_147 : decode zb_MScene_init 147 = .ok (.sipush 144, 3) := by decide +kernel
theorem zd_MScene_init_150 : decode zb_MScene_init 150 = .ok (.newarray .int, 2) := by decide +kernel
theorem zd_MScene_init_152 : decode zb_MScene_init 152 = .ok (.putfield 61, 3) := by decide +kernel
theorem zd_MScene_init_155 : decode zb_MScene_init 155 = .ok (.aload_n 0, 1) := by decide +kernel
theorem zd_MScene_init_156 : decode zb_MScene_init 156 = .ok (.sipush 144, 3) := by decide +kernel
theorem zd_MScene_init_159 : decode zb_MScene_init 159 = .ok (.newarray .int, 2) := by decide +kernel
theorem zd_MScene_init_161 : decode zb_MScene_init 161 = .ok (.putfield 64, 3) := by decide +kernel
theorem zd_MScene_init_164 : decode zb_MScene_init 164 = .ok (.aload_n 0, 1) := by decide +kernel
theorem zd_MScene_init_165 : decode zb_MScene_init 165 = .ok (.bipush 48, 2) := by decide +kernel
theorem zd_MScene_init_167 : decode zb_MScene_init 167 = .ok (.newarray .boolean, 2) := by decide +kernel
theorem zd_MScene_init_169 : decode zb_MScene_init 169 = .ok (.putfield 67, 3) := by decide +kernel
theorem zd_MScene_init_172 : decode zb_MScene_init 172 = .ok (.aload_n 0, 1) := by decide +kernel
theorem zd_MScene_init_173 : decode zb_MScene_init 173 = .ok (.bipush 32, 2) := by decide +kernel
theorem zd_MScene_init_175 : decode zb_MScene_init 175 = .ok (.newarray .int, 2) := by decide +kernel
theorem zd_MScene_init_177 : decode zb_MScene_init 177 = .ok (.putfield 71, 3) := by decide +kernel
theorem zd_MScene_init_180 : decode zb_MScene_init 180 = .ok (.aload_n 0, 1) := by decide +kernel
theorem zd_MScene_init_181 : decode zb_MScene_init 181 = .ok (.bipush 32, 2) := by decide +kernel
theorem zd_MScene_init_183 : decode zb_MScene_init 183 = .ok (.newarray .int, 2) := by decide +kernel
theorem zd_MScene_init_185 : decode zb_MScene_init 185 = .ok (.putfield 74, 3) := by decide +kernel
theorem zd_MScene_init_188 : decode zb_MScene_init 188 = .ok (.aload_n 0, 1) := by decide +kernel
theorem zd_MScene_init_189 : decode zb_MScene_init 189 = .ok (.bipush 32, 2) := by decide +kernel
theorem zd_MScene_init_191 : decode zb_MScene_init 191 = .ok (.newarray .int, 2) := by decide +kernel
theorem zd_MScene_init_193 : decode zb_MScene_init 193 = .ok (.putfield 77, 3) := by decide +kernel
theorem zd_MScene_init_196 : decode zb_MScene_init 196 = .ok (.aload_n 0, 1) := by decide +kernel
theorem zd_MScene_init_197 : decode zb_MScene_init 197 = .ok (.bipush 32, 2) := by decide +kernel
theorem zd_MScene_init_199 : decode zb_MScene_init 199 = .ok (.newarray .int, 2) := by decide +kernel
theorem zd_MScene_init_201 : decode zb_MScene_init 201 = .ok (.putfield 80, 3) := by decide +kernel
theorem zd_MScene_init_204 : decode zb_MScene_init 204 = .ok (.aload_n 0, 1) := by decide +kernel
theorem zd_MScene_init_205 : decode zb_MScene_init 205 = .ok (.sipush 1024, 3) := by decide +kernel
theorem zd_MScene_init_208 : decode zb_MScene_init 208 = .ok (.newarray .int, 2) := by decide +kernel
theorem zd_MScene_init_210 : decode zb_MScene_init 210 = .ok (.putfield 83, 3) := by decide +kernel
theorem zd_MScene_init_213 : decode zb_MScene_init 213 = .ok (.aload_n 0, 1) := by decide +kernel
theorem zd_MScene_init_214 : decode zb_MScene_init 214 = .ok (.sipush 3072, 3) := by decide +kernel
theorem zd_MScene_init_217 : decode zb_MScene_init 217 = .ok (.newarray .int, 2) := by decide +kernel
theorem zd_MScene_init_219 : decode zb_MScene_init 219 = .ok (.putfield 86, 3) := by decide +kernel
theorem zd_MScene_init_222 : decode zb_MScene_init 222 = .ok (.aload_n 0, 1) := by decide +kernel
theorem zd_MScene_init_223 : decode zb_MScene_init 223 = .ok (.iconst 3, 1) := by decide +kernel
theorem zd_MScene_init_224 : decode zb_MScene_init 224 = .ok (.newarray .int, 2) := by decide +kernel
theorem zd_MScene_init_226 : decode zb_MScene_init 226 = .ok (.putfield 89, 3) := by decide +kernel
theorem zd_MScene_init_229 : decode zb_MScene_init 229 = .ok (.aload_n 0, 1) := by decide +kernel
theorem zd_MScene_init_230 : decode zb_MScene_init 230 = .ok (.iconst 3, 1) := by decide +kernel
theorem zd_MScene_init_231 : decode zb_MScene_init 231 = .ok (.newarray .int, 2) := by decide +kernel
theorem zd_MScene_init_233 : decode zb_MScene_init 233 = .ok (.putfield 92, 3) := by decide +kernel
theorem zd_MScene_init_236 : decode zb_MScene_init 236 = .ok (.aload_n 0, 1) := by decide +kernel
theorem zd_MScene_init_237 : decode zb_MScene_init 237 = .ok (.iconst 3, 1) := by decide +kernel
theorem zd_MScene_init_238 : decode zb_MScene_init 238 = .ok (.newarray .int, 2) := by decide +kernel
theorem zd_MScene_init_240 : decode zb_MScene_init 240 = .ok (.putfield 95, 3) := by decide +kernel
theorem zd_MScene_init_243 : decode zb_MScene_init 243 = .ok (.return_, 1) := by decide +kernel
theorem zdef_MScene : ∀ j, j < 36 → defaultValue (zk_ty 15 j) = vp_V [.int 0, .int 0, .int 0, .int 0, .int 0, .null, .null, .null, .null, .null, .null, .null, .null, .null, .null, .null, .null, .null, .null, .null, .null, .null, .null, .null, .null, .null, .null, .null, .null, .null, .null, .null, .null, .null, .int 0, .int 0] j := by
  intro j hj
  match j, hj with
  | 0, _ => rfl
  | 1, _ => rfl
  | 2, _ => rfl
  | 3, _ => rfl
  | 4, _ => rfl
  | 5, _ => rfl
  | 6, _ => rfl
  | 7, _ => rfl
  | 8, _ => rfl
  | 9, _ => rfl
  | 10, _ => rfl
  | 11, _ => rfl
  | 12, _ => rfl
  | 13, _ => rfl
  | 14, _ => rfl
  | 15, _ => rfl
  | 16, _ => rfl
  | 17, _ => rfl
  | 18, _ => rfl
  | 19, _ => rfl
  | 20, _ => rfl
  | 21, _ => rfl
  | 22, _ => rfl
  | 23, _ => rfl
  | 24, _ => rfl
  | 25, _ => rfl
  | 26, _ => rfl
  | 27, _ => rfl
  | 28, _ => rfl
  | 29, _ => rfl
  | 30, _ => rfl
  | 31, _ => rfl
  | 32, _ => rfl
  | 33, _ => rfl
  | 34, _ => rfl
  | 35, _ => rfl
  | k + 36, h => exact absurd h (by omega)
theorem zw_1314 : (Jvm.Cond.methodLink "OrreryBoxModel$Scene" (1 : Nat) ({ cls := "java/lang/Object", name := "<init>", desc := "()V" } : Jvm.MethodName)) ∈ gw := gw_t 1314 (by decide +kernel) rfl
theorem zw_1331 : (Jvm.Cond.fieldLink "OrreryBoxModel$Scene" (7 : Nat) "OrreryBoxModel$Scene" "side" "[I") ∈ gw := gw_t 1331 (by decide +kernel) rfl
theorem zw_1334 : (Jvm.Cond.fieldLink "OrreryBoxModel$Scene" (13 : Nat) "OrreryBoxModel$Scene" "wrap" "[I") ∈ gw := gw_t 1334 (by decide +kernel) rfl
theorem zw_1337 : (Jvm.Cond.fieldLink "OrreryBoxModel$Scene" (16 : Nat) "OrreryBoxModel$Scene" "soft" "[I") ∈ gw := gw_t 1337 (by decide +kernel) rfl
theorem zw_1340 : (Jvm.Cond.fieldLink "OrreryBoxModel$Scene" (19 : Nat) "OrreryBoxModel$Scene" "texel" "[I") ∈ gw := gw_t 1340 (by decide +kernel) rfl
theorem zw_1343 : (Jvm.Cond.fieldLink "OrreryBoxModel$Scene" (22 : Nat) "OrreryBoxModel$Scene" "colour" "[I") ∈ gw := gw_t 1343 (by decide +kernel) rfl
theorem zw_1346 : (Jvm.Cond.fieldLink "OrreryBoxModel$Scene" (25 : Nat) "OrreryBoxModel$Scene" "texture" "[I") ∈ gw := gw_t 1346 (by decide +kernel) rfl
theorem zw_1349 : (Jvm.Cond.fieldLink "OrreryBoxModel$Scene" (28 : Nat) "OrreryBoxModel$Scene" "both" "[I") ∈ gw := gw_t 1349 (by decide +kernel) rfl
theorem zw_1352 : (Jvm.Cond.fieldLink "OrreryBoxModel$Scene" (31 : Nat) "OrreryBoxModel$Scene" "material" "[I") ∈ gw := gw_t 1352 (by decide +kernel) rfl
theorem zw_1355 : (Jvm.Cond.fieldLink "OrreryBoxModel$Scene" (34 : Nat) "OrreryBoxModel$Scene" "points" "[I") ∈ gw := gw_t 1355 (by decide +kernel) rfl
theorem zw_1357 : (Jvm.Cond.fieldLink "OrreryBoxModel$Scene" (37 : Nat) "OrreryBoxModel$Scene" "faces" "[I") ∈ gw := gw_t 1357 (by decide +kernel) rfl
theorem zw_1360 : (Jvm.Cond.fieldLink "OrreryBoxModel$Scene" (40 : Nat) "OrreryBoxModel$Scene" "point" "[I") ∈ gw := gw_t 1360 (by decide +kernel) rfl
theorem zw_1363 : (Jvm.Cond.fieldLink "OrreryBoxModel$Scene" (43 : Nat) "OrreryBoxModel$Scene" "normal" "[I") ∈ gw := gw_t 1363 (by decide +kernel) rfl
theorem zw_1366 : (Jvm.Cond.fieldLink "OrreryBoxModel$Scene" (46 : Nat) "OrreryBoxModel$Scene" "spot" "[I") ∈ gw := gw_t 1366 (by decide +kernel) rfl
theorem zw_1369 : (Jvm.Cond.fieldLink "OrreryBoxModel$Scene" (49 : Nat) "OrreryBoxModel$Scene" "face" "[I") ∈ gw := gw_t 1369 (by decide +kernel) rfl
theorem zw_1372 : (Jvm.Cond.fieldLink "OrreryBoxModel$Scene" (52 : Nat) "OrreryBoxModel$Scene" "parent" "[I") ∈ gw := gw_t 1372 (by decide +kernel) rfl
theorem zw_1376 : (Jvm.Cond.fieldLink "OrreryBoxModel$Scene" (55 : Nat) "OrreryBoxModel$Scene" "mesh" "[I") ∈ gw := gw_t 1376 (by decide +kernel) rfl
theorem zw_1379 : (Jvm.Cond.fieldLink "OrreryBoxModel$Scene" (58 : Nat) "OrreryBoxModel$Scene" "move" "[I") ∈ gw := gw_t 1379 (by decide +kernel) rfl
theorem zw_1382 : (Jvm.Cond.fieldLink "OrreryBoxModel$Scene" (61 : Nat) "OrreryBoxModel$Scene" "turn" "[I") ∈ gw := gw_t 1382 (by decide +kernel) rfl
theorem zw_1385 : (Jvm.Cond.fieldLink "OrreryBoxModel$Scene" (64 : Nat) "OrreryBoxModel$Scene" "size" "[I") ∈ gw := gw_t 1385 (by decide +kernel) rfl
theorem zw_1497 : (Jvm.Cond.arrayClass Jvm.ClassFile.FieldType.boolean) ∈ gw := gw_t 1497 (by decide +kernel) rfl
theorem zw_1388 : (Jvm.Cond.fieldLink "OrreryBoxModel$Scene" (67 : Nat) "OrreryBoxModel$Scene" "hidden" "[Z") ∈ gw := gw_t 1388 (by decide +kernel) rfl
theorem zw_1392 : (Jvm.Cond.fieldLink "OrreryBoxModel$Scene" (71 : Nat) "OrreryBoxModel$Scene" "trackNode" "[I") ∈ gw := gw_t 1392 (by decide +kernel) rfl
theorem zw_1394 : (Jvm.Cond.fieldLink "OrreryBoxModel$Scene" (74 : Nat) "OrreryBoxModel$Scene" "what" "[I") ∈ gw := gw_t 1394 (by decide +kernel) rfl
theorem zw_1396 : (Jvm.Cond.fieldLink "OrreryBoxModel$Scene" (77 : Nat) "OrreryBoxModel$Scene" "how" "[I") ∈ gw := gw_t 1396 (by decide +kernel) rfl
theorem zw_1398 : (Jvm.Cond.fieldLink "OrreryBoxModel$Scene" (80 : Nat) "OrreryBoxModel$Scene" "keys" "[I") ∈ gw := gw_t 1398 (by decide +kernel) rfl
theorem zw_1400 : (Jvm.Cond.fieldLink "OrreryBoxModel$Scene" (83 : Nat) "OrreryBoxModel$Scene" "when" "[I") ∈ gw := gw_t 1400 (by decide +kernel) rfl
theorem zw_1402 : (Jvm.Cond.fieldLink "OrreryBoxModel$Scene" (86 : Nat) "OrreryBoxModel$Scene" "value" "[I") ∈ gw := gw_t 1402 (by decide +kernel) rfl
theorem zw_1404 : (Jvm.Cond.fieldLink "OrreryBoxModel$Scene" (89 : Nat) "OrreryBoxModel$Scene" "cameraMove" "[I") ∈ gw := gw_t 1404 (by decide +kernel) rfl
theorem zw_1408 : (Jvm.Cond.fieldLink "OrreryBoxModel$Scene" (92 : Nat) "OrreryBoxModel$Scene" "cameraTurn" "[I") ∈ gw := gw_t 1408 (by decide +kernel) rfl
theorem zw_1412 : (Jvm.Cond.fieldLink "OrreryBoxModel$Scene" (95 : Nat) "OrreryBoxModel$Scene" "toward" "[I") ∈ gw := gw_t 1412 (by decide +kernel) rfl
def msL (tA : Nat → ClassId) : List va_E := [.inl (tA 0, 8, .inl (fun _ => 0)), .inl (tA 0, 8, .inl (fun _ => 0)), .inl (tA 0, 8, .inl (fun _ => 0)), .inl (tA 0, 32760, .inl (fun _ => 0)), .inl (tA 0, 64, .inl (fun _ => 0)), .inl (tA 0, 16, .inl (fun _ => 0)), .inl (tA 0, 16, .inl (fun _ => 0)), .inl (tA 0, 16, .inl (fun _ => 0)), .inl (tA 0, 16, .inl (fun _ => 0)), .inl (tA 0, 16, .inl (fun _ => 0)), .inl (tA 0, 6144, .inl (fun _ => 0)), .inl (tA 0, 6144, .inl (fun _ => 0)), .inl (tA 0, 4096, .inl (fun _ => 0)), .inl (tA 0, 6144, .inl (fun _ => 0)), .inl (tA 0, 48, .inl (fun _ => 0)), .inl (tA 0, 48, .inl (fun _ => 0)), .inl (tA 0, 144, .inl (fun _ => 0)), .inl (tA 0, 144, .inl (fun _ => 0)), .inl (tA 0, 144, .inl (fun _ => 0)), .inl (tA 3, 48, .inl (fun _ => 0)), .inl (tA 0, 32, .inl (fun _ => 0)), .inl (tA 0, 32, .inl (fun _ => 0)), .inl (tA 0, 32, .inl (fun _ => 0)), .inl (tA 0, 32, .inl (fun _ => 0)), .inl (tA 0, 1024, .inl (fun _ => 0)), .inl (tA 0, 3072, .inl (fun _ => 0)), .inl (tA 0, 3, .inl (fun _ => 0)), .inl (tA 0, 3, .inl (fun _ => 0)), .inl (tA 0, 3, .inl (fun _ => 0))]
def msO (b n : Nat) (t0 t1 t2 t3 t4 fo am : Int32) : List Value := [.int t0, .int t1, .int t2, .int t3, .int t4, .ref (b + (n)), .ref (b + (n + 1)), .ref (b + (n + 2)), .ref (b + (n + 3)), .ref (b + (n + 4)), .ref (b + (n + 5)), .ref (b + (n + 6)), .ref (b + (n + 7)), .ref (b + (n + 8)), .ref (b + (n + 9)), .ref (b + (n + 10)), .ref (b + (n + 11)), .ref (b + (n + 12)), .ref (b + (n + 13)), .ref (b + (n + 14)), .ref (b + (n + 15)), .ref (b + (n + 16)), .ref (b + (n + 17)), .ref (b + (n + 18)), .ref (b + (n + 19)), .ref (b + (n + 20)), .ref (b + (n + 21)), .ref (b + (n + 22)), .ref (b + (n + 23)), .ref (b + (n + 24)), .ref (b + (n + 25)), .ref (b + (n + 26)), .ref (b + (n + 27)), .ref (b + (n + 28)), .int fo, .int am]
set_option maxHeartbeats 4000000 in
set_option maxRecDepth 100000 in
theorem c_MScene_init (l : Launch) (D : va_G) (tA : Nat → ClassId) (b : Nat) (f : zV) (n : Nat) (k : Nat)  (hf : f k = some (.inr (15, [.int 0, .int 0, .int 0, .int 0, .int 0, .null, .null, .null, .null, .null, .null, .null, .null, .null, .null, .null, .null, .null, .null, .null, .null, .null, .null, .null, .null, .null, .null, .null, .null, .null, .null, .null, .null, .null, .int 0, .int 0]))) : zM l D tA b zy_MScene_init zb_MScene_init 1 none 1 20 29 60265 [.ref (b + k)] f n (zE none (zu (zb f n (msL tA)) k (.inr (15, msO b n 0 0 0 0 0 0 0))) (n + 29)) := by
  refine zM_of (own := "OrreryBoxModel$Scene") (plainFor_of_name (by decide)) rfl (Nat.le_of_ble_eq_true rfl) (fun p e s m below meth c F hr hin hH => ?_)
  have hk := hH.lt hf
  refine zr_aload_n F zd_MScene_init_0 rfl ?_
  refine zr_objInit F zd_MScene_init_1 zw_1314 zw_35 zw_36 (Nat.le_of_ble_eq_true rfl) (Nat.le_of_ble_eq_true rfl) ?_
  refine zr_norm (zu (zb f n []) k (.inr (15, [.int 0, .int 0, .int 0, .int 0, .int 0, .null, .null, .null, .null, .null, .null, .null, .null, .null, .null, .null, .null, .null, .null, .null, .null, .null, .null, .null, .null, .null, .null, .null, .null, .null, .null, .null, .null, .null, .int 0, .int 0]))) n (zb_0 hf) rfl ?_
  refine zr_aload_n F zd_MScene_init_4 rfl ?_
  refine zr_bipushv (v := 8) F zd_MScene_init_5 (by decide) ?_
  refine zr_newa (N := 8) (a0 := (8, .inl (fun _ => 0))) F 0 zd_MScene_init_7 rfl rfl zw_74 (fun _ => rfl) (by decide) (by decide) (Nat.le_of_ble_eq_true rfl) (Nat.le_of_ble_eq_true rfl) (Nat.le_of_ble_eq_true rfl) ?_
  refine zr_putF F 15 5 zd_MScene_init_9 ((zu_n _ (by omega)).trans (zu_s _ _ _)) rfl (by decide) zw_1331 rfl rfl hin rfl rfl rfl (by exact (Nat.le_of_ble_eq_true rfl)) ?_
  refine zr_norm (zu (zb f n [.inl (tA 0, 8, .inl (fun _ => 0))]) k (.inr (15, [.int 0, .int 0, .int 0, .int 0, .int 0, .ref (b + (n)), .null, .null, .null, .null, .null, .null, .null, .null, .null, .null, .null, .null, .null, .null, .null, .null, .null, .null, .null, .null, .null, .null, .null, .null, .null, .null, .null, .null, .int 0, .int 0]))) (n + 1) (zb_1 hk rfl rfl) rfl ?_
  refine zr_aload_n F zd_MScene_init_12 rfl ?_
  refine zr_bipushv (v := 8) F zd_MScene_init_13 (by decide) ?_
  refine zr_newa (N := 8) (a0 := (8, .inl (fun _ => 0))) F 0 zd_MScene_init_15 rfl rfl zw_74 (fun _ => rfl) (by decide) (by decide) (Nat.le_of_ble_eq_true rfl) (Nat.le_of_ble_eq_true rfl) (Nat.le_of_ble_eq_true rfl) ?_
  refine zr_putF F 15 6 zd_MScene_init_17 ((zu_n _ (by omega)).trans (zu_s _ _ _)) rfl (by decide) zw_1334 rfl rfl hin rfl rfl rfl (by exact (Nat.le_of_ble_eq_true rfl)) ?_
  refine zr_norm (zu (zb f n [.inl (tA 0, 8, .inl (fun _ => 0)), .inl (tA 0, 8, .inl (fun _ => 0))]) k (.inr (15, [.int 0, .int 0, .int 0, .int 0, .int 0, .ref (b + (n)), .ref (b + (n + 1)), .null, .null, .null, .null, .null, .null, .null, .null, .null, .null, .null, .null, .null, .null, .null, .null, .null, .null, .null, .null, .null, .null, .null, .null, .null, .null, .null, .int 0, .int 0]))) (n + 2) (zb_1 hk rfl rfl) rfl ?_
  refine zr_aload_n F zd_MScene_init_20 rfl ?_
  refine zr_bipushv (v := 8) F zd_MScene_init_21 (by decide) ?_
  refine zr_newa (N := 8) (a0 := (8, .inl (fun _ => 0))) F 0 zd_MScene_init_23 rfl rfl zw_74 (fun _ => rfl) (by decide) (by decide) (Nat.le_of_ble_eq_true rfl) (Nat.le_of_ble_eq_true rfl) (Nat.le_of_ble_eq_true rfl) ?_
  refine zr_putF F 15 7 zd_MScene_init_25 ((zu_n _ (by omega)).trans (zu_s _ _ _)) rfl (by decide) zw_1337 rfl rfl hin rfl rfl rfl (by exact (Nat.le_of_ble_eq_true rfl)) ?_
  refine zr_norm (zu (zb f n [.inl (tA 0, 8, .inl (fun _ => 0)), .inl (tA 0, 8, .inl (fun _ => 0)), .inl (tA 0, 8, .inl (fun _ => 0))]) k (.inr (15, [.int 0, .int 0, .int 0, .int 0, .int 0, .ref (b + (n)), .ref (b + (n + 1)), .ref (b + (n + 2)), .null, .null, .null, .null, .null, .null, .null, .null, .null, .null, .null, .null, .null, .null, .null, .null, .null, .null, .null, .null, .null, .null, .null, .null, .null, .null, .int 0, .int 0]))) (n + 3) (zb_1 hk rfl rfl) rfl ?_
  refine zr_aload_n F zd_MScene_init_28 rfl ?_
  refine zr_sipushv (v := 32760) F zd_MScene_init_29 (by decide) ?_
  refine zr_newa (N := 32760) (a0 := (32760, .inl (fun _ => 0))) F 0 zd_MScene_init_32 rfl rfl zw_74 (fun _ => rfl) (by decide) (by decide) (Nat.le_of_ble_eq_true rfl) (Nat.le_of_ble_eq_true rfl) (Nat.le_of_ble_eq_true rfl) ?_
  refine zr_putF F 15 8 zd_MScene_init_34 ((zu_n _ (by omega)).trans (zu_s _ _ _)) rfl (by decide) zw_1340 rfl rfl hin rfl rfl rfl (by exact (Nat.le_of_ble_eq_true rfl)) ?_
  refine zr_norm (zu (zb f n [.inl (tA 0, 8, .inl (fun _ => 0)), .inl (tA 0, 8, .inl (fun _ => 0)), .inl (tA 0, 8, .inl (fun _ => 0)), .inl (tA 0, 32760, .inl (fun _ => 0))]) k (.inr (15, [.int 0, .int 0, .int 0, .int 0, .int 0, .ref (b + (n)), .ref (b + (n + 1)), .ref (b + (n + 2)), .ref (b + (n + 3)), .null, .null, .null, .null, .null, .null, .null, .null, .null, .null, .null, .null, .null, .null, .null, .null, .null, .null, .null, .null, .null, .null, .null, .null, .null, .int 0, .int 0]))) (n + 4) (zb_1 hk rfl rfl) rfl ?_
  refine zr_aload_n F zd_MScene_init_37 rfl ?_
  refine zr_bipushv (v := 64) F zd_MScene_init_38 (by decide) ?_
  refine zr_newa (N := 64) (a0 := (64, .inl (fun _ => 0))) F 0 zd_MScene_init_40 rfl rfl zw_74 (fun _ => rfl) (by decide) (by decide) (Nat.le_of_ble_eq_true rfl) (Nat.le_of_ble_eq_true rfl) (Nat.le_of_ble_eq_true rfl) ?_
  refine zr_putF F 15 9 zd_MScene_init_42 ((zu_n _ (by omega)).trans (zu_s _ _ _)) rfl (by decide) zw_1343 rfl rfl hin rfl rfl rfl (by exact (Nat.le_of_ble_eq_true rfl)) ?_
  refine zr_norm (zu (zb f n [.inl (tA 0, 8, .inl (fun _ => 0)), .inl (tA 0, 8, .inl (fun _ => 0)), .inl (tA 0, 8, .inl (fun _ => 0)), .inl (tA 0, 32760, .inl (fun _ => 0)), .inl (tA 0, 64, .inl (fun _ => 0))]) k (.inr (15, [.int 0, .int 0, .int 0, .int 0, .int 0, .ref (b + (n)), .ref (b + (n + 1)), .ref (b + (n + 2)), .ref (b + (n + 3)), .ref (b + (n + 4)), .null, .null, .null, .null, .null, .null, .null, .null, .null, .null, .null, .null, .null, .null, .null, .null, .null, .null, .null, .null, .null, .null, .null, .null, .int 0, .int 0]))) (n + 5) (zb_1 hk rfl rfl) rfl ?_
  refine zr_aload_n F zd_MScene_init_45 rfl ?_
  refine zr_bipushv (v := 16) F zd_MScene_init_46 (by decide) ?_
  refine zr_newa (N := 16) (a0 := (16, .inl (fun _ => 0))) F 0 zd_MScene_init_48 rfl rfl zw_74 (fun _ => rfl) (by decide) (by decide) (Nat.le_of_ble_eq_true rfl) (Nat.le_of_ble_eq_true rfl) (Nat.le_of_ble_eq_true rfl) ?_
  refine zr_putF F 15 10 zd_MScene_init_50 ((zu_n _ (by omega)).trans (zu_s _ _ _)) rfl (by decide) zw_1346 rfl rfl hin rfl rfl rfl (by exact (Nat.le_of_ble_eq_true rfl)) ?_
  refine zr_norm (zu (zb f n [.inl (tA 0, 8, .inl (fun _ => 0)), .inl (tA 0, 8, .inl (fun _ => 0)), .inl (tA 0, 8, .inl (fun _ => 0)), .inl (tA 0, 32760, .inl (fun _ => 0)), .inl (tA 0, 64, .inl (fun _ => 0)), .inl (tA 0, 16, .inl (fun _ => 0))]) k (.inr (15, [.int 0, .int 0, .int 0, .int 0, .int 0, .ref (b + (n)), .ref (b + (n + 1)), .ref (b + (n + 2)), .ref (b + (n + 3)), .ref (b + (n + 4)), .ref (b + (n + 5)), .null, .null, .null, .null, .null, .null, .null, .null, .null, .null, .null, .null, .null, .null, .null, .null, .null, .null, .null, .null, .null, .null, .null, .int 0, .int 0]))) (n + 6) (zb_1 hk rfl rfl) rfl ?_
  refine zr_aload_n F zd_MScene_init_53 rfl ?_
  refine zr_bipushv (v := 16) F zd_MScene_init_54 (by decide) ?_
  refine zr_newa (N := 16) (a0 := (16, .inl (fun _ => 0))) F 0 zd_MScene_init_56 rfl rfl zw_74 (fun _ => rfl) (by decide) (by decide) (Nat.le_of_ble_eq_true rfl) (Nat.le_of_ble_eq_true rfl) (Nat.le_of_ble_eq_true rfl) ?_
  refine zr_putF F 15 11 zd_MScene_init_58 ((zu_n _ (by omega)).trans (zu_s _ _ _)) rfl (by decide) zw_1349 rfl rfl hin rfl rfl rfl (by exact (Nat.le_of_ble_eq_true rfl)) ?_
  refine zr_norm (zu (zb f n [.inl (tA 0, 8, .inl (fun _ => 0)), .inl (tA 0, 8, .inl (fun _ => 0)), .inl (tA 0, 8, .inl (fun _ => 0)), .inl (tA 0, 32760, .inl (fun _ => 0)), .inl (tA 0, 64, .inl (fun _ => 0)), .inl (tA 0, 16, .inl (fun _ => 0)), .inl (tA 0, 16, .inl (fun _ => 0))]) k (.inr (15, [.int 0, .int 0, .int 0, .int 0, .int 0, .ref (b + (n)), .ref (b + (n + 1)), .ref (b + (n + 2)), .ref (b + (n + 3)), .ref (b + (n + 4)), .ref (b + (n + 5)), .ref (b + (n + 6)), .null, .null, .null, .null, .null, .null, .null, .null, .null, .null, .null, .null, .null, .null, .null, .null, .null, .null, .null, .null, .null, .null, .int 0, .int 0]))) (n + 7) (zb_1 hk rfl rfl) rfl ?_
  refine zr_aload_n F zd_MScene_init_61 rfl ?_
  refine zr_bipushv (v := 16) F zd_MScene_init_62 (by decide) ?_
  refine zr_newa (N := 16) (a0 := (16, .inl (fun _ => 0))) F 0 zd_MScene_init_64 rfl rfl zw_74 (fun _ => rfl) (by decide) (by decide) (Nat.le_of_ble_eq_true rfl) (Nat.le_of_ble_eq_true rfl) (Nat.le_of_ble_eq_true rfl) ?_
  refine zr_putF F 15 12 zd_MScene_init_66 ((zu_n _ (by omega)).trans (zu_s _ _ _)) rfl (by decide) zw_1352 rfl rfl hin rfl rfl rfl (by exact (Nat.le_of_ble_eq_true rfl)) ?_
  refine zr_norm (zu (zb f n [.inl (tA 0, 8, .inl (fun _ => 0)), .inl (tA 0, 8, .inl (fun _ => 0)), .inl (tA 0, 8, .inl (fun _ => 0)), .inl (tA 0, 32760, .inl (fun _ => 0)), .inl (tA 0, 64, .inl (fun _ => 0)), .inl (tA 0, 16, .inl (fun _ => 0)), .inl (tA 0, 16, .inl (fun _ => 0)), .inl (tA 0, 16, .inl (fun _ => 0))]) k (.inr (15, [.int 0, .int 0, .int 0, .int 0, .int 0, .ref (b + (n)), .ref (b + (n + 1)), .ref (b + (n + 2)), .ref (b + (n + 3)), .ref (b + (n + 4)), .ref (b + (n + 5)), .ref (b + (n + 6)), .ref (b + (n + 7)), .null, .null, .null, .null, .null, .null, .null, .null, .null, .null, .null, .null, .null, .null, .null, .null, .null, .null, .null, .null, .null, .int 0, .int 0]))) (n + 8) (zb_1 hk rfl rfl) rfl ?_
  refine zr_aload_n F zd_MScene_init_69 rfl ?_
  refine zr_bipushv (v := 16) F zd_MScene_init_70 (by decide) ?_
  refine zr_newa (N := 16) (a0 := (16, .inl (fun _ => 0))) F 0 zd_MScene_init_72 rfl rfl zw_74 (fun _ => rfl) (by decide) (by decide) (Nat.le_of_ble_eq_true rfl) (Nat.le_of_ble_eq_true rfl) (Nat.le_of_ble_eq_true rfl) ?_
  refine zr_putF F 15 13 zd_MScene_init_74 ((zu_n _ (by omega)).trans (zu_s _ _ _)) rfl (by decide) zw_1355 rfl rfl hin rfl rfl rfl (by exact (Nat.le_of_ble_eq_true rfl)) ?_
  refine zr_norm (zu (zb f n [.inl (tA 0, 8, .inl (fun _ => 0)), .inl (tA 0, 8, .inl (fun _ => 0)), .inl (tA 0, 8, .inl (fun _ => 0)), .inl (tA 0, 32760, .inl (fun _ => 0)), .inl (tA 0, 64, .inl (fun _ => 0)), .inl (tA 0, 16, .inl (fun _ => 0)), .inl (tA 0, 16, .inl (fun _ => 0)), .inl (tA 0, 16, .inl (fun _ => 0)), .inl (tA 0, 16, .inl (fun _ => 0))]) k (.inr (15, [.int 0, .int 0, .int 0, .int 0, .int 0, .ref (b + (n)), .ref (b + (n + 1)), .ref (b + (n + 2)), .ref (b + (n + 3)), .ref (b + (n + 4)), .ref (b + (n + 5)), .ref (b + (n + 6)), .ref (b + (n + 7)), .ref (b + (n + 8)), .null, .null, .null, .null, .null, .null, .null, .null, .null, .null, .null, .null, .null, .null, .null, .null, .null, .null, .null, .null, .int 0, .int 0]))) (n + 9) (zb_1 hk rfl rfl) rfl ?_
  refine zr_aload_n F zd_MScene_init_77 rfl ?_
  refine zr_bipushv (v := 16) F zd_MScene_init_78 (by decide) ?_
  refine zr_newa (N := 16) (a0 := (16, .inl (fun _ => 0))) F 0 zd_MScene_init_80 rfl rfl zw_74 (fun _ => rfl) (by decide) (by decide) (Nat.le_of_ble_eq_true rfl) (Nat.le_of_ble_eq_true rfl) (Nat.le_of_ble_eq_true rfl) ?_
  refine zr_putF F 15 14 zd_MScene_init_82 ((zu_n _ (by omega)).trans (zu_s _ _ _)) rfl (by decide) zw_1357 rfl rfl hin rfl rfl rfl (by exact (Nat.le_of_ble_eq_true rfl)) ?_
  refine zr_norm (zu (zb f n [.inl (tA 0, 8, .inl (fun _ => 0)), .inl (tA 0, 8, .inl (fun _ => 0)), .inl (tA 0, 8, .inl (fun _ => 0)), .inl (tA 0, 32760, .inl (fun _ => 0)), .inl (tA 0, 64, .inl (fun _ => 0)), .inl (tA 0, 16, .inl (fun _ => 0)), .inl (tA 0, 16, .inl (fun _ => 0)), .inl (tA 0, 16, .inl (fun _ => 0)), .inl (tA 0, 16, .inl (fun _ => 0)), .inl (tA 0, 16, .inl (fun _ => 0))]) k (.inr (15, [.int 0, .int 0, .int 0, .int 0, .int 0, .ref (b + (n)), .ref (b + (n + 1)), .ref (b + (n + 2)), .ref (b + (n + 3)), .ref (b + (n + 4)), .ref (b + (n + 5)), .ref (b + (n + 6)), .ref (b + (n + 7)), .ref (b + (n + 8)), .ref (b + (n + 9)), .null, .null, .null, .null, .null, .null, .null, .null, .null, .null, .null, .null, .null, .null, .null, .null, .null, .null, .null, .int 0, .int 0]))) (n + 10) (zb_1 hk rfl rfl) rfl ?_
  refine zr_aload_n F zd_MScene_init_85 rfl ?_
  refine zr_sipushv (v := 6144) F zd_MScene_init_86 (by decide) ?_
  refine zr_newa (N := 6144) (a0 := (6144, .inl (fun _ => 0))) F 0 zd_MScene_init_89 rfl rfl zw_74 (fun _ => rfl) (by decide) (by decide) (Nat.le_of_ble_eq_true rfl) (Nat.le_of_ble_eq_true rfl) (Nat.le_of_ble_eq_true rfl) ?_
  refine zr_putF F 15 15 zd_MScene_init_91 ((zu_n _ (by omega)).trans (zu_s _ _ _)) rfl (by decide) zw_1360 rfl rfl hin rfl rfl rfl (by exact (Nat.le_of_ble_eq_true rfl)) ?_
  refine zr_norm (zu (zb f n [.inl (tA 0, 8, .inl (fun _ => 0)), .inl (tA 0, 8, .inl (fun _ => 0)), .inl (tA 0, 8, .inl (fun _ => 0)), .inl (tA 0, 32760, .inl (fun _ => 0)), .inl (tA 0, 64, .inl (fun _ => 0)), .inl (tA 0, 16, .inl (fun _ => 0)), .inl (tA 0, 16, .inl (fun _ => 0)), .inl (tA 0, 16, .inl (fun _ => 0)), .inl (tA 0, 16, .inl (fun _ => 0)), .inl (tA 0, 16, .inl (fun _ => 0)), .inl (tA 0, 6144, .inl (fun _ => 0))]) k (.inr (15, [.int 0, .int 0, .int 0, .int 0, .int 0, .ref (b + (n)), .ref (b + (n + 1)), .ref (b + (n + 2)), .ref (b + (n + 3)), .ref (b + (n + 4)), .ref (b + (n + 5)), .ref (b + (n + 6)), .ref (b + (n + 7)), .ref (b + (n + 8)), .ref (b + (n + 9)), .ref (b + (n + 10)), .null, .null, .null, .null, .null, .null, .null, .null, .null, .null, .null, .null, .null, .null, .null, .null, .null, .null, .int 0, .int 0]))) (n + 11) (zb_1 hk rfl rfl) rfl ?_
  refine zr_aload_n F zd_MScene_init_94 rfl ?_
  refine zr_sipushv (v := 6144) F zd_MScene_init_95 (by decide) ?_
  refine zr_newa (N := 6144) (a0 := (6144, .inl (fun _ => 0))) F 0 zd_MScene_init_98 rfl rfl zw_74 (fun _ => rfl) (by decide) (by decide) (Nat.le_of_ble_eq_true rfl) (Nat.le_of_ble_eq_true rfl) (Nat.le_of_ble_eq_true rfl) ?_
  refine zr_putF F 15 16 zd_MScene_init_100 ((zu_n _ (by omega)).trans (zu_s _ _ _)) rfl (by decide) zw_1363 rfl rfl hin rfl rfl rfl (by exact (Nat.le_of_ble_eq_true rfl)) ?_
  refine zr_norm (zu (zb f n [.inl (tA 0, 8, .inl (fun _ => 0)), .inl (tA 0, 8, .inl (fun _ => 0)), .inl (tA 0, 8, .inl (fun _ => 0)), .inl (tA 0, 32760, .inl (fun _ => 0)), .inl (tA 0, 64, .inl (fun _ => 0)), .inl (tA 0, 16, .inl (fun _ => 0)), .inl (tA 0, 16, .inl (fun _ => 0)), .inl (tA 0, 16, .inl (fun _ => 0)), .inl (tA 0, 16, .inl (fun _ => 0)), .inl (tA 0, 16, .inl (fun _ => 0)), .inl (tA 0, 6144, .inl (fun _ => 0)), .inl (tA 0, 6144, .inl (fun _ => 0))]) k (.inr (15, [.int 0, .int 0, .int 0, .int 0, .int 0, .ref (b + (n)), .ref (b + (n + 1)), .ref (b + (n + 2)), .ref (b + (n + 3)), .ref (b + (n + 4)), .ref (b + (n + 5)), .ref (b + (n + 6)), .ref (b + (n + 7)), .ref (b + (n + 8)), .ref (b + (n + 9)), .ref (b + (n + 10)), .ref (b + (n + 11)), .null, .null, .null, .null, .null, .null, .null, .null, .null, .null, .null, .null, .null, .null, .null, .null, .null, .int 0, .int 0]))) (n + 12) (zb_1 hk rfl rfl) rfl ?_
  refine zr_aload_n F zd_MScene_init_103 rfl ?_
  refine zr_sipushv (v := 4096) F zd_MScene_init_104 (by decide) ?_
  refine zr_newa (N := 4096) (a0 := (4096, .inl (fun _ => 0))) F 0 zd_MScene_init_107 rfl rfl zw_74 (fun _ => rfl) (by decide) (by decide) (Nat.le_of_ble_eq_true rfl) (Nat.le_of_ble_eq_true rfl) (Nat.le_of_ble_eq_true rfl) ?_
  refine zr_putF F 15 17 zd_MScene_init_109 ((zu_n _ (by omega)).trans (zu_s _ _ _)) rfl (by decide) zw_1366 rfl rfl hin rfl rfl rfl (by exact (Nat.le_of_ble_eq_true rfl)) ?_
  refine zr_norm (zu (zb f n [.inl (tA 0, 8, .inl (fun _ => 0)), .inl (tA 0, 8, .inl (fun _ => 0)), .inl (tA 0, 8, .inl (fun _ => 0)), .inl (tA 0, 32760, .inl (fun _ => 0)), .inl (tA 0, 64, .inl (fun _ => 0)), .inl (tA 0, 16, .inl (fun _ => 0)), .inl (tA 0, 16, .inl (fun _ => 0)), .inl (tA 0, 16, .inl (fun _ => 0)), .inl (tA 0, 16, .inl (fun _ => 0)), .inl (tA 0, 16, .inl (fun _ => 0)), .inl (tA 0, 6144, .inl (fun _ => 0)), .inl (tA 0, 6144, .inl (fun _ => 0)), .inl (tA 0, 4096, .inl (fun _ => 0))]) k (.inr (15, [.int 0, .int 0, .int 0, .int 0, .int 0, .ref (b + (n)), .ref (b + (n + 1)), .ref (b + (n + 2)), .ref (b + (n + 3)), .ref (b + (n + 4)), .ref (b + (n + 5)), .ref (b + (n + 6)), .ref (b + (n + 7)), .ref (b + (n + 8)), .ref (b + (n + 9)), .ref (b + (n + 10)), .ref (b + (n + 11)), .ref (b + (n + 12)), .null, .null, .null, .null, .null, .null, .null, .null, .null, .null, .null, .null, .null, .null, .null, .null, .int 0, .int 0]))) (n + 13) (zb_1 hk rfl rfl) rfl ?_
  refine zr_aload_n F zd_MScene_init_112 rfl ?_
  refine zr_sipushv (v := 6144) F zd_MScene_init_113 (by decide) ?_
  refine zr_newa (N := 6144) (a0 := (6144, .inl (fun _ => 0))) F 0 zd_MScene_init_116 rfl rfl zw_74 (fun _ => rfl) (by decide) (by decide) (Nat.le_of_ble_eq_true rfl) (Nat.le_of_ble_eq_true rfl) (Nat.le_of_ble_eq_true rfl) ?_
  refine zr_putF F 15 18 zd_MScene_init_118 ((zu_n _ (by omega)).trans (zu_s _ _ _)) rfl (by decide) zw_1369 rfl rfl hin rfl rfl rfl (by exact (Nat.le_of_ble_eq_true rfl)) ?_
  refine zr_norm (zu (zb f n [.inl (tA 0, 8, .inl (fun _ => 0)), .inl (tA 0, 8, .inl (fun _ => 0)), .inl (tA 0, 8, .inl (fun _ => 0)), .inl (tA 0, 32760, .inl (fun _ => 0)), .inl (tA 0, 64, .inl (fun _ => 0)), .inl (tA 0, 16, .inl (fun _ => 0)), .inl (tA 0, 16, .inl (fun _ => 0)), .inl (tA 0, 16, .inl (fun _ => 0)), .inl (tA 0, 16, .inl (fun _ => 0)), .inl (tA 0, 16, .inl (fun _ => 0)), .inl (tA 0, 6144, .inl (fun _ => 0)), .inl (tA 0, 6144, .inl (fun _ => 0)), .inl (tA 0, 4096, .inl (fun _ => 0)), .inl (tA 0, 6144, .inl (fun _ => 0))]) k (.inr (15, [.int 0, .int 0, .int 0, .int 0, .int 0, .ref (b + (n)), .ref (b + (n + 1)), .ref (b + (n + 2)), .ref (b + (n + 3)), .ref (b + (n + 4)), .ref (b + (n + 5)), .ref (b + (n + 6)), .ref (b + (n + 7)), .ref (b + (n + 8)), .ref (b + (n + 9)), .ref (b + (n + 10)), .ref (b + (n + 11)), .ref (b + (n + 12)), .ref (b + (n + 13)), .null, .null, .null, .null, .null, .null, .null, .null, .null, .null, .null, .null, .null, .null, .null, .int 0, .int 0]))) (n + 14) (zb_1 hk rfl rfl) rfl ?_
  refine zr_aload_n F zd_MScene_init_121 rfl ?_
  refine zr_bipushv (v := 48) F zd_MScene_init_122 (by decide) ?_
  refine zr_newa (N := 48) (a0 := (48, .inl (fun _ => 0))) F 0 zd_MScene_init_124 rfl rfl zw_74 (fun _ => rfl) (by decide) (by decide) (Nat.le_of_ble_eq_true rfl) (Nat.le_of_ble_eq_true rfl) (Nat.le_of_ble_eq_true rfl) ?_
  refine zr_putF F 15 19 zd_MScene_init_126 ((zu_n _ (by omega)).trans (zu_s _ _ _)) rfl (by decide) zw_1372 rfl rfl hin rfl rfl rfl (by exact (Nat.le_of_ble_eq_true rfl)) ?_
  refine zr_norm (zu (zb f n [.inl (tA 0, 8, .inl (fun _ => 0)), .inl (tA 0, 8, .inl (fun _ => 0)), .inl (tA 0, 8, .inl (fun _ => 0)), .inl (tA 0, 32760, .inl (fun _ => 0)), .inl (tA 0, 64, .inl (fun _ => 0)), .inl (tA 0, 16, .inl (fun _ => 0)), .inl (tA 0, 16, .inl (fun _ => 0)), .inl (tA 0, 16, .inl (fun _ => 0)), .inl (tA 0, 16, .inl (fun _ => 0)), .inl (tA 0, 16, .inl (fun _ => 0)), .inl (tA 0, 6144, .inl (fun _ => 0)), .inl (tA 0, 6144, .inl (fun _ => 0)), .inl (tA 0, 4096, .inl (fun _ => 0)), .inl (tA 0, 6144, .inl (fun _ => 0)), .inl (tA 0, 48, .inl (fun _ => 0))]) k (.inr (15, [.int 0, .int 0, .int 0, .int 0, .int 0, .ref (b + (n)), .ref (b + (n + 1)), .ref (b + (n + 2)), .ref (b + (n + 3)), .ref (b + (n + 4)), .ref (b + (n + 5)), .ref (b + (n + 6)), .ref (b + (n + 7)), .ref (b + (n + 8)), .ref (b + (n + 9)), .ref (b + (n + 10)), .ref (b + (n + 11)), .ref (b + (n + 12)), .ref (b + (n + 13)), .ref (b + (n + 14)), .null, .null, .null, .null, .null, .null, .null, .null, .null, .null, .null, .null, .null, .null, .int 0, .int 0]))) (n + 15) (zb_1 hk rfl rfl) rfl ?_
  refine zr_aload_n F zd_MScene_init_129 rfl ?_
  refine zr_bipushv (v := 48) F zd_MScene_init_130 (by decide) ?_
  refine zr_newa (N := 48) (a0 := (48, .inl (fun _ => 0))) F 0 zd_MScene_init_132 rfl rfl zw_74 (fun _ => rfl) (by decide) (by decide) (Nat.le_of_ble_eq_true rfl) (Nat.le_of_ble_eq_true rfl) (Nat.le_of_ble_eq_true rfl) ?_
  refine zr_putF F 15 20 zd_MScene_init_134 ((zu_n _ (by omega)).trans (zu_s _ _ _)) rfl (by decide) zw_1376 rfl rfl hin rfl rfl rfl (by exact (Nat.le_of_ble_eq_true rfl)) ?_
  refine zr_norm (zu (zb f n [.inl (tA 0, 8, .inl (fun _ => 0)), .inl (tA 0, 8, .inl (fun _ => 0)), .inl (tA 0, 8, .inl (fun _ => 0)), .inl (tA 0, 32760, .inl (fun _ => 0)), .inl (tA 0, 64, .inl (fun _ => 0)), .inl (tA 0, 16, .inl (fun _ => 0)), .inl (tA 0, 16, .inl (fun _ => 0)), .inl (tA 0, 16, .inl (fun _ => 0)), .inl (tA 0, 16, .inl (fun _ => 0)), .inl (tA 0, 16, .inl (fun _ => 0)), .inl (tA 0, 6144, .inl (fun _ => 0)), .inl (tA 0, 6144, .inl (fun _ => 0)), .inl (tA 0, 4096, .inl (fun _ => 0)), .inl (tA 0, 6144, .inl (fun _ => 0)), .inl (tA 0, 48, .inl (fun _ => 0)), .inl (tA 0, 48, .inl (fun _ => 0))]) k (.inr (15, [.int 0, .int 0, .int 0, .int 0, .int 0, .ref (b + (n)), .ref (b + (n + 1)), .ref (b + (n + 2)), .ref (b + (n + 3)), .ref (b + (n + 4)), .ref (b + (n + 5)), .ref (b + (n + 6)), .ref (b + (n + 7)), .ref (b + (n + 8)), .ref (b + (n + 9)), .ref (b + (n + 10)), .ref (b + (n + 11)), .ref (b + (n + 12)), .ref (b + (n + 13)), .ref (b + (n + 14)), .ref (b + (n + 15)), .null, .null, .null, .null, .null, .null, .null, .null, .null, .null, .null, .null, .null, .int 0, .int 0]))) (n + 16) (zb_1 hk rfl rfl) rfl ?_
  refine zr_aload_n F zd_MScene_init_137 rfl ?_
  refine zr_sipushv (v := 144) F zd_MScene_init_138 (by decide) ?_
  refine zr_newa (N := 144) (a0 := (144, .inl (fun _ => 0))) F 0 zd_MScene_init_141 rfl rfl zw_74 (fun _ => rfl) (by decide) (by decide) (Nat.le_of_ble_eq_true rfl) (Nat.le_of_ble_eq_true rfl) (Nat.le_of_ble_eq_true rfl) ?_
  refine zr_putF F 15 21 zd_MScene_init_143 ((zu_n _ (by omega)).trans (zu_s _ _ _)) rfl (by decide) zw_1379 rfl rfl hin rfl rfl rfl (by exact (Nat.le_of_ble_eq_true rfl)) ?_
  refine zr_norm (zu (zb f n [.inl (tA 0, 8, .inl (fun _ => 0)), .inl (tA 0, 8, .inl (fun _ => 0)), .inl (tA 0, 8, .inl (fun _ => 0)), .inl (tA 0, 32760, .inl (fun _ => 0)), .inl (tA 0, 64, .inl (fun _ => 0)), .inl (tA 0, 16, .inl (fun _ => 0)), .inl (tA 0, 16, .inl (fun _ => 0)), .inl (tA 0, 16, .inl (fun _ => 0)), .inl (tA 0, 16, .inl (fun _ => 0)), .inl (tA 0, 16, .inl (fun _ => 0)), .inl (tA 0, 6144, .inl (fun _ => 0)), .inl (tA 0, 6144, .inl (fun _ => 0)), .inl (tA 0, 4096, .inl (fun _ => 0)), .inl (tA 0, 6144, .inl (fun _ => 0)), .inl (tA 0, 48, .inl (fun _ => 0)), .inl (tA 0, 48, .inl (fun _ => 0)), .inl (tA 0, 144, .inl (fun _ => 0))]) k (.inr (15, [.int 0, .int 0, .int 0, .int 0, .int 0, .ref (b + (n)), .ref (b + (n + 1)), .ref (b + (n + 2)), .ref (b + (n + 3)), .ref (b + (n + 4)), .ref (b + (n + 5)), .ref (b + (n + 6)), .ref (b + (n + 7)), .ref (b + (n + 8)), .ref (b + (n + 9)), .ref (b + (n + 10)), .ref (b + (n + 11)), .ref (b + (n + 12)), .ref (b + (n + 13)), .ref (b + (n + 14)), .ref (b + (n + 15)), .ref (b + (n + 16)), .null, .null, .null, .null, .null, .null, .null, .null, .null, .null, .null, .null, .int 0, .int 0]))) (n + 17) (zb_1 hk rfl rfl) rfl ?_
  refine zr_aload_n F zd_MScene_init_146 rfl ?_
  refine zr_sipushv (v := 144) F zd_MScene_init_147 (by decide) ?_
  refine zr_newa (N := 144) (a0 := (144, .inl (fun _ => 0))) F 0 zd_MScene_init_150 rfl rfl zw_74 (fun _ => rfl) (by decide) (by decide) (Nat.le_of_ble_eq_true rfl) (Nat.le_of_ble_eq_true rfl) (Nat.le_of_ble_eq_true rfl) ?_
  refine zr_putF F 15 22 zd_MScene_init_152 ((zu_n _ (by omega)).trans (zu_s _ _ _)) rfl (by decide) zw_1382 rfl rfl hin rfl rfl rfl (by exact (Nat.le_of_ble_eq_true rfl)) ?_
  refine zr_norm (zu (zb f n [.inl (tA 0, 8, .inl (fun _ => 0)), .inl (tA 0, 8, .inl (fun _ => 0)), .inl (tA 0, 8, .inl (fun _ => 0)), .inl (tA 0, 32760, .inl (fun _ => 0)), .inl (tA 0, 64, .inl (fun _ => 0)), .inl (tA 0, 16, .inl (fun _ => 0)), .inl (tA 0, 16, .inl (fun _ => 0)), .inl (tA 0, 16, .inl (fun _ => 0)), .inl (tA 0, 16, .inl (fun _ => 0)), .inl (tA 0, 16, .inl (fun _ => 0)), .inl (tA 0, 6144, .inl (fun _ => 0)), .inl (tA 0, 6144, .inl (fun _ => 0)), .inl (tA 0, 4096, .inl (fun _ => 0)), .inl (tA 0, 6144, .inl (fun _ => 0)), .inl (tA 0, 48, .inl (fun _ => 0)), .inl (tA 0, 48, .inl (fun _ => 0)), .inl (tA 0, 144, .inl (fun _ => 0)), .inl (tA 0, 144, .inl (fun _ => 0))]) k (.inr (15, [.int 0, .int 0, .int 0, .int 0, .int 0, .ref (b + (n)), .ref (b + (n + 1)), .ref (b + (n + 2)), .ref (b + (n + 3)), .ref (b + (n + 4)), .ref (b + (n + 5)), .ref (b + (n + 6)), .ref (b + (n + 7)), .ref (b + (n + 8)), .ref (b + (n + 9)), .ref (b + (n + 10)), .ref (b + (n + 11)), .ref (b + (n + 12)), .ref (b + (n + 13)), .ref (b + (n + 14)), .ref (b + (n + 15)), .ref (b + (n + 16)), .ref (b + (n + 17)), .null, .null, .null, .null, .null, .null, .null, .null, .null, .null, .null, .int 0, .int 0]))) (n + 18) (zb_1 hk rfl rfl) rfl ?_
  refine zr_aload_n F zd_MScene_init_155 rfl ?_
  refine zr_sipushv (v := 144) F zd_MScene_init_156 (by decide) ?_
  refine zr_newa (N := 144) (a0 := (144, .inl (fun _ => 0))) F 0 zd_MScene_init_159 rfl rfl zw_74 (fun _ => rfl) (by decide) (by decide) (Nat.le_of_ble_eq_true rfl) (Nat.le_of_ble_eq_true rfl) (Nat.le_of_ble_eq_true rfl) ?_
  refine zr_putF F 15 23 zd_MScene_init_161 ((zu_n _ (by omega)).trans (zu_s _ _ _)) rfl (by decide) zw_1385 rfl rfl hin rfl rfl rfl (by exact (Nat.le_of_ble_eq_true rfl)) ?_
  refine zr_norm (zu (zb f n [.inl (tA 0, 8, .inl (fun _ => 0)), .inl (tA 0, 8, .inl (fun _ => 0)), .inl (tA 0, 8, .inl (fun _ => 0)), .inl (tA 0, 32760, .inl (fun _ => 0)), .inl (tA 0, 64, .inl (fun _ => 0)), .inl (tA 0, 16, .inl (fun _ => 0)), .inl (tA 0, 16, .inl (fun _ => 0)), .inl (tA 0, 16, .inl (fun _ => 0)), .inl (tA 0, 16, .inl (fun _ => 0)), .inl (tA 0, 16, .inl (fun _ => 0)), .inl (tA 0, 6144, .inl (fun _ => 0)), .inl (tA 0, 6144, .inl (fun _ => 0)), .inl (tA 0, 4096, .inl (fun _ => 0)), .inl (tA 0, 6144, .inl (fun _ => 0)), .inl (tA 0, 48, .inl (fun _ => 0)), .inl (tA 0, 48, .inl (fun _ => 0)), .inl (tA 0, 144, .inl (fun _ => 0)), .inl (tA 0, 144, .inl (fun _ => 0)), .inl (tA 0, 144, .inl (fun _ => 0))]) k (.inr (15, [.int 0, .int 0, .int 0, .int 0, .int 0, .ref (b + (n)), .ref (b + (n + 1)), .ref (b + (n + 2)), .ref (b + (n + 3)), .ref (b + (n + 4)), .ref (b + (n + 5)), .ref (b + (n + 6)), .ref (b + (n + 7)), .ref (b + (n + 8)), .ref (b + (n + 9)), .ref (b + (n + 10)), .ref (b + (n + 11)), .ref (b + (n + 12)), .ref (b + (n + 13)), .ref (b + (n + 14)), .ref (b + (n + 15)), .ref (b + (n + 16)), .ref (b + (n + 17)), .ref (b + (n + 18)), .null, .null, .null, .null, .null, .null, .null, .null, .null, .null, .int 0, .int 0]))) (n + 19) (zb_1 hk rfl rfl) rfl ?_
  refine zr_aload_n F zd_MScene_init_164 rfl ?_
  refine zr_bipushv (v := 48) F zd_MScene_init_165 (by decide) ?_
  refine zr_newa (N := 48) (a0 := (48, .inl (fun _ => 0))) F 3 zd_MScene_init_167 rfl rfl zw_1497 (fun _ => rfl) (by decide) (by decide) (Nat.le_of_ble_eq_true rfl) (Nat.le_of_ble_eq_true rfl) (Nat.le_of_ble_eq_true rfl) ?_
  refine zr_putF F 15 24 zd_MScene_init_169 ((zu_n _ (by omega)).trans (zu_s _ _ _)) rfl (by decide) zw_1388 rfl rfl hin rfl rfl rfl (by exact (Nat.le_of_ble_eq_true rfl)) ?_
  refine zr_norm (zu (zb f n [.inl (tA 0, 8, .inl (fun _ => 0)), .inl (tA 0, 8, .inl (fun _ => 0)), .inl (tA 0, 8, .inl (fun _ => 0)), .inl (tA 0, 32760, .inl (fun _ => 0)), .inl (tA 0, 64, .inl (fun _ => 0)), .inl (tA 0, 16, .inl (fun _ => 0)), .inl (tA 0, 16, .inl (fun _ => 0)), .inl (tA 0, 16, .inl (fun _ => 0)), .inl (tA 0, 16, .inl (fun _ => 0)), .inl (tA 0, 16, .inl (fun _ => 0)), .inl (tA 0, 6144, .inl (fun _ => 0)), .inl (tA 0, 6144, .inl (fun _ => 0)), .inl (tA 0, 4096, .inl (fun _ => 0)), .inl (tA 0, 6144, .inl (fun _ => 0)), .inl (tA 0, 48, .inl (fun _ => 0)), .inl (tA 0, 48, .inl (fun _ => 0)), .inl (tA 0, 144, .inl (fun _ => 0)), .inl (tA 0, 144, .inl (fun _ => 0)), .inl (tA 0, 144, .inl (fun _ => 0)), .inl (tA 3, 48, .inl (fun _ => 0))]) k (.inr (15, [.int 0, .int 0, .int 0, .int 0, .int 0, .ref (b + (n)), .ref (b + (n + 1)), .ref (b + (n + 2)), .ref (b + (n + 3)), .ref (b + (n + 4)), .ref (b + (n + 5)), .ref (b + (n + 6)), .ref (b + (n + 7)), .ref (b + (n + 8)), .ref (b + (n + 9)), .ref (b + (n + 10)), .ref (b + (n + 11)), .ref (b + (n + 12)), .ref (b + (n + 13)), .ref (b + (n + 14)), .ref (b + (n + 15)), .ref (b + (n + 16)), .ref (b + (n + 17)), .ref (b + (n + 18)), .ref (b + (n + 19)), .null, .null, .null, .null, .null, .null, .null, .null, .null, .int 0, .int 0]))) (n + 20) (zb_1 hk rfl rfl) rfl ?_
  refine zr_aload_n F zd_MScene_init_172 rfl ?_
  refine zr_bipushv (v := 32) F zd_MScene_init_173 (by decide) ?_
  refine zr_newa (N := 32) (a0 := (32, .inl (fun _ => 0))) F 0 zd_MScene_init_175 rfl rfl zw_74 (fun _ => rfl) (by decide) (by decide) (Nat.le_of_ble_eq_true rfl) (Nat.le_of_ble_eq_true rfl) (Nat.le_of_ble_eq_true rfl) ?_
  refine zr_putF F 15 25 zd_MScene_init_177 ((zu_n _ (by omega)).trans (zu_s _ _ _)) rfl (by decide) zw_1392 rfl rfl hin rfl rfl rfl (by exact (Nat.le_of_ble_eq_true rfl)) ?_
  refine zr_norm (zu (zb f n [.inl (tA 0, 8, .inl (fun _ => 0)), .inl (tA 0, 8, .inl (fun _ => 0)), .inl (tA 0, 8, .inl (fun _ => 0)), .inl (tA 0, 32760, .inl (fun _ => 0)), .inl (tA 0, 64, .inl (fun _ => 0)), .inl (tA 0, 16, .inl (fun _ => 0)), .inl (tA 0, 16, .inl (fun _ => 0)), .inl (tA 0, 16, .inl (fun _ => 0)), .inl (tA 0, 16, .inl (fun _ => 0)), .inl (tA 0, 16, .inl (fun _ => 0)), .inl (tA 0, 6144, .inl (fun _ => 0)), .inl (tA 0, 6144, .inl (fun _ => 0)), .inl (tA 0, 4096, .inl (fun _ => 0)), .inl (tA 0, 6144, .inl (fun _ => 0)), .inl (tA 0, 48, .inl (fun _ => 0)), .inl (tA 0, 48, .inl (fun _ => 0)), .inl (tA 0, 144, .inl (fun _ => 0)), .inl (tA 0, 144, .inl (fun _ => 0)), .inl (tA 0, 144, .inl (fun _ => 0)), .inl (tA 3, 48, .inl (fun _ => 0)), .inl (tA 0, 32, .inl (fun _ => 0))]) k (.inr (15, [.int 0, .int 0, .int 0, .int 0, .int 0, .ref (b + (n)), .ref (b + (n + 1)), .ref (b + (n + 2)), .ref (b + (n + 3)), .ref (b + (n + 4)), .ref (b + (n + 5)), .ref (b + (n + 6)), .ref (b + (n + 7)), .ref (b + (n + 8)), .ref (b + (n + 9)), .ref (b + (n + 10)), .ref (b + (n + 11)), .ref (b + (n + 12)), .ref (b + (n + 13)), .ref (b + (n + 14)), .ref (b + (n + 15)), .ref (b + (n + 16)), .ref (b + (n + 17)), .ref (b + (n + 18)), .ref (b + (n + 19)), .ref (b + (n + 20)), .null, .null, .null, .null, .null, .null, .null, .null, .int 0, .int 0]))) (n + 21) (zb_1 hk rfl rfl) rfl ?_
  refine zr_aload_n F zd_MScene_init_180 rfl ?_
  refine zr_bipushv (v := 32) F zd_MScene_init_181 (by decide) ?_
  refine zr_newa (N := 32) (a0 := (32, .inl (fun _ => 0))) F 0 zd_MScene_init_183 rfl rfl zw_74 (fun _ => rfl) (by decide) (by decide) (Nat.le_of_ble_eq_true rfl) (Nat.le_of_ble_eq_true rfl) (Nat.le_of_ble_eq_true rfl) ?_
  refine zr_putF F 15 26 zd_MScene_init_185 ((zu_n _ (by omega)).trans (zu_s _ _ _)) rfl (by decide) zw_1394 rfl rfl hin rfl rfl rfl (by exact (Nat.le_of_ble_eq_true rfl)) ?_
  refine zr_norm (zu (zb f n [.inl (tA 0, 8, .inl (fun _ => 0)), .inl (tA 0, 8, .inl (fun _ => 0)), .inl (tA 0, 8, .inl (fun _ => 0)), .inl (tA 0, 32760, .inl (fun _ => 0)), .inl (tA 0, 64, .inl (fun _ => 0)), .inl (tA 0, 16, .inl (fun _ => 0)), .inl (tA 0, 16, .inl (fun _ => 0)), .inl (tA 0, 16, .inl (fun _ => 0)), .inl (tA 0, 16, .inl (fun _ => 0)), .inl (tA 0, 16, .inl (fun _ => 0)), .inl (tA 0, 6144, .inl (fun _ => 0)), .inl (tA 0, 6144, .inl (fun _ => 0)), .inl (tA 0, 4096, .inl (fun _ => 0)), .inl (tA 0, 6144, .inl (fun _ => 0)), .inl (tA 0, 48, .inl (fun _ => 0)), .inl (tA 0, 48, .inl (fun _ => 0)), .inl (tA 0, 144, .inl (fun _ => 0)), .inl (tA 0, 144, .inl (fun _ => 0)), .inl (tA 0, 144, .inl (fun _ => 0)), .inl (tA 3, 48, .inl (fun _ => 0)), .inl (tA 0, 32, .inl (fun _ => 0)), .inl (tA 0, 32, .inl (fun _ => 0))]) k (.inr (15, [.int 0, .int 0, .int 0, .int 0, .int 0, .ref (b + (n)), .ref (b + (n + 1)), .ref (b + (n + 2)), .ref (b + (n + 3)), .ref (b + (n + 4)), .ref (b + (n + 5)), .ref (b + (n + 6)), .ref (b + (n + 7)), .ref (b + (n + 8)), .ref (b + (n + 9)), .ref (b + (n + 10)), .ref (b + (n + 11)), .ref (b + (n + 12)), .ref (b + (n + 13)), .ref (b + (n + 14)), .ref (b + (n + 15)), .ref (b + (n + 16)), .ref (b + (n + 17)), .ref (b + (n + 18)), .ref (b + (n + 19)), .ref (b + (n + 20)), .ref (b + (n + 21)), .null, .null, .null, .null, .null, .null, .null, .int 0, .int 0]))) (n + 22) (zb_1 hk rfl rfl) rfl ?_
  refine zr_aload_n F zd_MScene_init_188 rfl ?_
  refine zr_bipushv (v := 32) F zd_MScene_init_189 (by decide) ?_
  refine zr_newa (N := 32) (a0 := (32, .inl (fun _ => 0))) F 0 zd_MScene_init_191 rfl rfl zw_74 (fun _ => rfl) (by decide) (by decide) (Nat.le_of_ble_eq_true rfl) (Nat.le_of_ble_eq_true rfl) (Nat.le_of_ble_eq_true rfl) ?_
  refine zr_putF F 15 27 zd_MScene_init_193 ((zu_n _ (by omega)).trans (zu_s _ _ _)) rfl (by decide) zw_1396 rfl rfl hin rfl rfl rfl (by exact (Nat.le_of_ble_eq_true rfl)) ?_
  refine zr_norm (zu (zb f n [.inl (tA 0, 8, .inl (fun _ => 0)), .inl (tA 0, 8, .inl (fun _ => 0)), .inl (tA 0, 8, .inl (fun _ => 0)), .inl (tA 0, 32760, .inl (fun _ => 0)), .inl (tA 0, 64, .inl (fun _ => 0)), .inl (tA 0, 16, .inl (fun _ => 0)), .inl (tA 0, 16, .inl (fun _ => 0)), .inl (tA 0, 16, .inl (fun _ => 0)), .inl (tA 0, 16, .inl (fun _ => 0)), .inl (tA 0, 16, .inl (fun _ => 0)), .inl (tA 0, 6144, .inl (fun _ => 0)), .inl (tA 0, 6144, .inl (fun _ => 0)), .inl (tA 0, 4096, .inl (fun _ => 0)), .inl (tA 0, 6144, .inl (fun _ => 0)), .inl (tA 0, 48, .inl (fun _ => 0)), .inl (tA 0, 48, .inl (fun _ => 0)), .inl (tA 0, 144, .inl (fun _ => 0)), .inl (tA 0, 144, .inl (fun _ => 0)), .inl (tA 0, 144, .inl (fun _ => 0)), .inl (tA 3, 48, .inl (fun _ => 0)), .inl (tA 0, 32, .inl (fun _ => 0)), .inl (tA 0, 32, .inl (fun _ => 0)), .inl (tA 0, 32, .inl (fun _ => 0))]) k (.inr (15, [.int 0, .int 0, .int 0, .int 0, .int 0, .ref (b + (n)), .ref (b + (n + 1)), .ref (b + (n + 2)), .ref (b + (n + 3)), .ref (b + (n + 4)), .ref (b + (n + 5)), .ref (b + (n + 6)), .ref (b + (n + 7)), .ref (b + (n + 8)), .ref (b + (n + 9)), .ref (b + (n + 10)), .ref (b + (n + 11)), .ref (b + (n + 12)), .ref (b + (n + 13)), .ref (b + (n + 14)), .ref (b + (n + 15)), .ref (b + (n + 16)), .ref (b + (n + 17)), .ref (b + (n + 18)), .ref (b + (n + 19)), .ref (b + (n + 20)), .ref (b + (n + 21)), .ref (b + (n + 22)), .null, .null, .null, .null, .null, .null, .int 0, .int 0]))) (n + 23) (zb_1 hk rfl rfl) rfl ?_
  refine zr_aload_n F zd_MScene_init_196 rfl ?_
  refine zr_bipushv (v := 32) F zd_MScene_init_197 (by decide) ?_
  refine zr_newa (N := 32) (a0 := (32, .inl (fun _ => 0))) F 0 zd_MScene_init_199 rfl rfl zw_74 (fun _ => rfl) (by decide) (by decide) (Nat.le_of_ble_eq_true rfl) (Nat.le_of_ble_eq_true rfl) (Nat.le_of_ble_eq_true rfl) ?_
  refine zr_putF F 15 28 zd_MScene_init_201 ((zu_n _ (by omega)).trans (zu_s _ _ _)) rfl (by decide) zw_1398 rfl rfl hin rfl rfl rfl (by exact (Nat.le_of_ble_eq_true rfl)) ?_
  refine zr_norm (zu (zb f n [.inl (tA 0, 8, .inl (fun _ => 0)), .inl (tA 0, 8, .inl (fun _ => 0)), .inl (tA 0, 8, .inl (fun _ => 0)), .inl (tA 0, 32760, .inl (fun _ => 0)), .inl (tA 0, 64, .inl (fun _ => 0)), .inl (tA 0, 16, .inl (fun _ => 0)), .inl (tA 0, 16, .inl (fun _ => 0)), .inl (tA 0, 16, .inl (fun _ => 0)), .inl (tA 0, 16, .inl (fun _ => 0)), .inl (tA 0, 16, .inl (fun _ => 0)), .inl (tA 0, 6144, .inl (fun _ => 0)), .inl (tA 0, 6144, .inl (fun _ => 0)), .inl (tA 0, 4096, .inl (fun _ => 0)), .inl (tA 0, 6144, .inl (fun _ => 0)), .inl (tA 0, 48, .inl (fun _ => 0)), .inl (tA 0, 48, .inl (fun _ => 0)), .inl (tA 0, 144, .inl (fun _ => 0)), .inl (tA 0, 144, .inl (fun _ => 0)), .inl (tA 0, 144, .inl (fun _ => 0)), .inl (tA 3, 48, .inl (fun _ => 0)), .inl (tA 0, 32, .inl (fun _ => 0)), .inl (tA 0, 32, .inl (fun _ => 0)), .inl (tA 0, 32, .inl (fun _ => 0)), .inl (tA 0, 32, .inl (fun _ => 0))]) k (.inr (15, [.int 0, .int 0, .int 0, .int 0, .int 0, .ref (b + (n)), .ref (b + (n + 1)), .ref (b + (n + 2)), .ref (b + (n + 3)), .ref (b + (n + 4)), .ref (b + (n + 5)), .ref (b + (n + 6)), .ref (b + (n + 7)), .ref (b + (n + 8)), .ref (b + (n + 9)), .ref (b + (n + 10)), .ref (b + (n + 11)), .ref (b + (n + 12)), .ref (b + (n + 13)), .ref (b + (n + 14)), .ref (b + (n + 15)), .ref (b + (n + 16)), .ref (b + (n + 17)), .ref (b + (n + 18)), .ref (b + (n + 19)), .ref (b + (n + 20)), .ref (b + (n + 21)), .ref (b + (n + 22)), .ref (b + (n + 23)), .null, .null, .null, .null, .null, .int 0, .int 0]))) (n + 24) (zb_1 hk rfl rfl) rfl ?_
  refine zr_aload_n F zd_MScene_init_204 rfl ?_
  refine zr_sipushv (v := 1024) F zd_MScene_init_205 (by decide) ?_
  refine zr_newa (N := 1024) (a0 := (1024, .inl (fun _ => 0))) F 0 zd_MScene_init_208 rfl rfl zw_74 (fun _ => rfl) (by decide) (by decide) (Nat.le_of_ble_eq_true rfl) (Nat.le_of_ble_eq_true rfl) (Nat.le_of_ble_eq_true rfl) ?_
  refine zr_putF F 15 29 zd_MScene_init_210 ((zu_n _ (by omega)).trans (zu_s _ _ _)) rfl (by decide) zw_1400 rfl rfl hin rfl rfl rfl (by exact (Nat.le_of_ble_eq_true rfl)) ?_
  refine zr_norm (zu (zb f n [.inl (tA 0, 8, .inl (fun _ => 0)), .inl (tA 0, 8, .inl (fun _ => 0)), .inl (tA 0, 8, .inl (fun _ => 0)), .inl (tA 0, 32760, .inl (fun _ => 0)), .inl (tA 0, 64, .inl (fun _ => 0)), .inl (tA 0, 16, .inl (fun _ => 0)), .inl (tA 0, 16, .inl (fun _ => 0)), .inl (tA 0, 16, .inl (fun _ => 0)), .inl (tA 0, 16, .inl (fun _ => 0)), .inl (tA 0, 16, .inl (fun _ => 0)), .inl (tA 0, 6144, .inl (fun _ => 0)), .inl (tA 0, 6144, .inl (fun _ => 0)), .inl (tA 0, 4096, .inl (fun _ => 0)), .inl (tA 0, 6144, .inl (fun _ => 0)), .inl (tA 0, 48, .inl (fun _ => 0)), .inl (tA 0, 48, .inl (fun _ => 0)), .inl (tA 0, 144, .inl (fun _ => 0)), .inl (tA 0, 144, .inl (fun _ => 0)), .inl (tA 0, 144, .inl (fun _ => 0)), .inl (tA 3, 48, .inl (fun _ => 0)), .inl (tA 0, 32, .inl (fun _ => 0)), .inl (tA 0, 32, .inl (fun _ => 0)), .inl (tA 0, 32, .inl (fun _ => 0)), .inl (tA 0, 32, .inl (fun _ => 0)), .inl (tA 0, 1024, .inl (fun _ => 0))]) k (.inr (15, [.int 0, .int 0, .int 0, .int 0, .int 0, .ref (b + (n)), .ref (b + (n + 1)), .ref (b + (n + 2)), .ref (b + (n + 3)), .ref (b + (n + 4)), .ref (b + (n + 5)), .ref (b + (n + 6)), .ref (b + (n + 7)), .ref (b + (n + 8)), .ref (b + (n + 9)), .ref (b + (n + 10)), .ref (b + (n + 11)), .ref (b + (n + 12)), .ref (b + (n + 13)), .ref (b + (n + 14)), .ref (b + (n + 15)), .ref (b + (n + 16)), .ref (b + (n + 17)), .ref (b + (n + 18)), .ref (b + (n + 19)), .ref (b + (n + 20)), .ref (b + (n + 21)), .ref (b + (n + 22)), .ref (b + (n + 23)), .ref (b + (n + 24)), .null, .null, .null, .null, .int 0, .int 0]))) (n + 25) (zb_1 hk rfl rfl) rfl ?_
  refine zr_aload_n F zd_MScene_init_213 rfl ?_
  refine zr_sipushv (v := 3072) F zd_MScene_init_214 (by decide) ?_
  refine zr_newa (N := 3072) (a0 := (3072, .inl (fun _ => 0))) F 0 zd_MScene_init_217 rfl rfl zw_74 (fun _ => rfl) (by decide) (by decide) (Nat.le_of_ble_eq_true rfl) (Nat.le_of_ble_eq_true rfl) (Nat.le_of_ble_eq_true rfl) ?_
  refine zr_putF F 15 30 zd_MScene_init_219 ((zu_n _ (by omega)).trans (zu_s _ _ _)) rfl (by decide) zw_1402 rfl rfl hin rfl rfl rfl (by exact (Nat.le_of_ble_eq_true rfl)) ?_
  refine zr_norm (zu (zb f n [.inl (tA 0, 8, .inl (fun _ => 0)), .inl (tA 0, 8, .inl (fun _ => 0)), .inl (tA 0, 8, .inl (fun _ => 0)), .inl (tA 0, 32760, .inl (fun _ => 0)), .inl (tA 0, 64, .inl (fun _ => 0)), .inl (tA 0, 16, .inl (fun _ => 0)), .inl (tA 0, 16, .inl (fun _ => 0)), .inl (tA 0, 16, .inl (fun _ => 0)), .inl (tA 0, 16, .inl (fun _ => 0)), .inl (tA 0, 16, .inl (fun _ => 0)), .inl (tA 0, 6144, .inl (fun _ => 0)), .inl (tA 0, 6144, .inl (fun _ => 0)), .inl (tA 0, 4096, .inl (fun _ => 0)), .inl (tA 0, 6144, .inl (fun _ => 0)), .inl (tA 0, 48, .inl (fun _ => 0)), .inl (tA 0, 48, .inl (fun _ => 0)), .inl (tA 0, 144, .inl (fun _ => 0)), .inl (tA 0, 144, .inl (fun _ => 0)), .inl (tA 0, 144, .inl (fun _ => 0)), .inl (tA 3, 48, .inl (fun _ => 0)), .inl (tA 0, 32, .inl (fun _ => 0)), .inl (tA 0, 32, .inl (fun _ => 0)), .inl (tA 0, 32, .inl (fun _ => 0)), .inl (tA 0, 32, .inl (fun _ => 0)), .inl (tA 0, 1024, .inl (fun _ => 0)), .inl (tA 0, 3072, .inl (fun _ => 0))]) k (.inr (15, [.int 0, .int 0, .int 0, .int 0, .int 0, .ref (b + (n)), .ref (b + (n + 1)), .ref (b + (n + 2)), .ref (b + (n + 3)), .ref (b + (n + 4)), .ref (b + (n + 5)), .ref (b + (n + 6)), .ref (b + (n + 7)), .ref (b + (n + 8)), .ref (b + (n + 9)), .ref (b + (n + 10)), .ref (b + (n + 11)), .ref (b + (n + 12)), .ref (b + (n + 13)), .ref (b + (n + 14)), .ref (b + (n + 15)), .ref (b + (n + 16)), .ref (b + (n + 17)), .ref (b + (n + 18)), .ref (b + (n + 19)), .ref (b + (n + 20)), .ref (b + (n + 21)), .ref (b + (n + 22)), .ref (b + (n + 23)), .ref (b + (n + 24)), .ref (b + (n + 25)), .null, .null, .null, .int 0, .int 0]))) (n + 26) (zb_1 hk rfl rfl) rfl ?_
  refine zr_aload_n F zd_MScene_init_222 rfl ?_
  refine zr_iconstv (v := 3) F zd_MScene_init_223 (by decide) ?_
  refine zr_newa (N := 3) (a0 := (3, .inl (fun _ => 0))) F 0 zd_MScene_init_224 rfl rfl zw_74 (fun _ => rfl) (by decide) (by decide) (Nat.le_of_ble_eq_true rfl) (Nat.le_of_ble_eq_true rfl) (Nat.le_of_ble_eq_true rfl) ?_
  refine zr_putF F 15 31 zd_MScene_init_226 ((zu_n _ (by omega)).trans (zu_s _ _ _)) rfl (by decide) zw_1404 rfl rfl hin rfl rfl rfl (by exact (Nat.le_of_ble_eq_true rfl)) ?_
  refine zr_norm (zu (zb f n [.inl (tA 0, 8, .inl (fun _ => 0)), .inl (tA 0, 8, .inl (fun _ => 0)), .inl (tA 0, 8, .inl (fun _ => 0)), .inl (tA 0, 32760, .inl (fun _ => 0)), .inl (tA 0, 64, .inl (fun _ => 0)), .inl (tA 0, 16, .inl (fun _ => 0)), .inl (tA 0, 16, .inl (fun _ => 0)), .inl (tA 0, 16, .inl (fun _ => 0)), .inl (tA 0, 16, .inl (fun _ => 0)), .inl (tA 0, 16, .inl (fun _ => 0)), .inl (tA 0, 6144, .inl (fun _ => 0)), .inl (tA 0, 6144, .inl (fun _ => 0)), .inl (tA 0, 4096, .inl (fun _ => 0)), .inl (tA 0, 6144, .inl (fun _ => 0)), .inl (tA 0, 48, .inl (fun _ => 0)), .inl (tA 0, 48, .inl (fun _ => 0)), .inl (tA 0, 144, .inl (fun _ => 0)), .inl (tA 0, 144, .inl (fun _ => 0)), .inl (tA 0, 144, .inl (fun _ => 0)), .inl (tA 3, 48, .inl (fun _ => 0)), .inl (tA 0, 32, .inl (fun _ => 0)), .inl (tA 0, 32, .inl (fun _ => 0)), .inl (tA 0, 32, .inl (fun _ => 0)), .inl (tA 0, 32, .inl (fun _ => 0)), .inl (tA 0, 1024, .inl (fun _ => 0)), .inl (tA 0, 3072, .inl (fun _ => 0)), .inl (tA 0, 3, .inl (fun _ => 0))]) k (.inr (15, [.int 0, .int 0, .int 0, .int 0, .int 0, .ref (b + (n)), .ref (b + (n + 1)), .ref (b + (n + 2)), .ref (b + (n + 3)), .ref (b + (n + 4)), .ref (b + (n + 5)), .ref (b + (n + 6)), .ref (b + (n + 7)), .ref (b + (n + 8)), .ref (b + (n + 9)), .ref (b + (n + 10)), .ref (b + (n + 11)), .ref (b + (n + 12)), .ref (b + (n + 13)), .ref (b + (n + 14)), .ref (b + (n + 15)), .ref (b + (n + 16)), .ref (b + (n + 17)), .ref (b + (n + 18)), .ref (b + (n + 19)), .ref (b + (n + 20)), .ref (b + (n + 21)), .ref (b + (n + 22)), .ref (b + (n + 23)), .ref (b + (n + 24)), .ref (b + (n + 25)), .ref (b + (n + 26)), .null, .null, .int 0, .int 0]))) (n + 27) (zb_1 hk rfl rfl) rfl ?_
  refine zr_aload_n F zd_MScene_init_229 rfl ?_
  refine zr_iconstv (v := 3) F zd_MScene_init_230 (by decide) ?_
  refine zr_newa (N := 3) (a0 := (3, .inl (fun _ => 0))) F 0 zd_MScene_init_231 rfl rfl zw_74 (fun _ => rfl) (by decide) (by decide) (Nat.le_of_ble_eq_true rfl) (Nat.le_of_ble_eq_true rfl) (Nat.le_of_ble_eq_true rfl) ?_
  refine zr_putF F 15 32 zd_MScene_init_233 ((zu_n _ (by omega)).trans (zu_s _ _ _)) rfl (by decide) zw_1408 rfl rfl hin rfl rfl rfl (by exact (Nat.le_of_ble_eq_true rfl)) ?_
  refine zr_norm (zu (zb f n [.inl (tA 0, 8, .inl (fun _ => 0)), .inl (tA 0, 8, .inl (fun _ => 0)), .inl (tA 0, 8, .inl (fun _ => 0)), .inl (tA 0, 32760, .inl (fun _ => 0)), .inl (tA 0, 64, .inl (fun _ => 0)), .inl (tA 0, 16, .inl (fun _ => 0)), .inl (tA 0, 16, .inl (fun _ => 0)), .inl (tA 0, 16, .inl (fun _ => 0)), .inl (tA 0, 16, .inl (fun _ => 0)), .inl (tA 0, 16, .inl (fun _ => 0)), .inl (tA 0, 6144, .inl (fun _ => 0)), .inl (tA 0, 6144, .inl (fun _ => 0)), .inl (tA 0, 4096, .inl (fun _ => 0)), .inl (tA 0, 6144, .inl (fun _ => 0)), .inl (tA 0, 48, .inl (fun _ => 0)), .inl (tA 0, 48, .inl (fun _ => 0)), .inl (tA 0, 144, .inl (fun _ => 0)), .inl (tA 0, 144, .inl (fun _ => 0)), .inl (tA 0, 144, .inl (fun _ => 0)), .inl (tA 3, 48, .inl (fun _ => 0)), .inl (tA 0, 32, .inl (fun _ => 0)), .inl (tA 0, 32, .inl (fun _ => 0)), .inl (tA 0, 32, .inl (fun _ => 0)), .inl (tA 0, 32, .inl (fun _ => 0)), .inl (tA 0, 1024, .inl (fun _ => 0)), .inl (tA 0, 3072, .inl (fun _ => 0)), .inl (tA 0, 3, .inl (fun _ => 0)), .inl (tA 0, 3, .inl (fun _ => 0))]) k (.inr (15, [.int 0, .int 0, .int 0, .int 0, .int 0, .ref (b + (n)), .ref (b + (n + 1)), .ref (b + (n + 2)), .ref (b + (n + 3)), .ref (b + (n + 4)), .ref (b + (n + 5)), .ref (b + (n + 6)), .ref (b + (n + 7)), .ref (b + (n + 8)), .ref (b + (n + 9)), .ref (b + (n + 10)), .ref (b + (n + 11)), .ref (b + (n + 12)), .ref (b + (n + 13)), .ref (b + (n + 14)), .ref (b + (n + 15)), .ref (b + (n + 16)), .ref (b + (n + 17)), .ref (b + (n + 18)), .ref (b + (n + 19)), .ref (b + (n + 20)), .ref (b + (n + 21)), .ref (b + (n + 22)), .ref (b + (n + 23)), .ref (b + (n + 24)), .ref (b + (n + 25)), .ref (b + (n + 26)), .ref (b + (n + 27)), .null, .int 0, .int 0]))) (n + 28) (zb_1 hk rfl rfl) rfl ?_
  refine zr_aload_n F zd_MScene_init_236 rfl ?_
  refine zr_iconstv (v := 3) F zd_MScene_init_237 (by decide) ?_
  refine zr_newa (N := 3) (a0 := (3, .inl (fun _ => 0))) F 0 zd_MScene_init_238 rfl rfl zw_74 (fun _ => rfl) (by decide) (by decide) (Nat.le_of_ble_eq_true rfl) (Nat.le_of_ble_eq_true rfl) (Nat.le_of_ble_eq_true rfl) ?_
  refine zr_putF F 15 33 zd_MScene_init_240 ((zu_n _ (by omega)).trans (zu_s _ _ _)) rfl (by decide) zw_1412 rfl rfl hin rfl rfl rfl (by exact (Nat.le_of_ble_eq_true rfl)) ?_
  refine zr_norm (zu (zb f n [.inl (tA 0, 8, .inl (fun _ => 0)), .inl (tA 0, 8, .inl (fun _ => 0)), .inl (tA 0, 8, .inl (fun _ => 0)), .inl (tA 0, 32760, .inl (fun _ => 0)), .inl (tA 0, 64, .inl (fun _ => 0)), .inl (tA 0, 16, .inl (fun _ => 0)), .inl (tA 0, 16, .inl (fun _ => 0)), .inl (tA 0, 16, .inl (fun _ => 0)), .inl (tA 0, 16, .inl (fun _ => 0)), .inl (tA 0, 16, .inl (fun _ => 0)), .inl (tA 0, 6144, .inl (fun _ => 0)), .inl (tA 0, 6144, .inl (fun _ => 0)), .inl (tA 0, 4096, .inl (fun _ => 0)), .inl (tA 0, 6144, .inl (fun _ => 0)), .inl (tA 0, 48, .inl (fun _ => 0)), .inl (tA 0, 48, .inl (fun _ => 0)), .inl (tA 0, 144, .inl (fun _ => 0)), .inl (tA 0, 144, .inl (fun _ => 0)), .inl (tA 0, 144, .inl (fun _ => 0)), .inl (tA 3, 48, .inl (fun _ => 0)), .inl (tA 0, 32, .inl (fun _ => 0)), .inl (tA 0, 32, .inl (fun _ => 0)), .inl (tA 0, 32, .inl (fun _ => 0)), .inl (tA 0, 32, .inl (fun _ => 0)), .inl (tA 0, 1024, .inl (fun _ => 0)), .inl (tA 0, 3072, .inl (fun _ => 0)), .inl (tA 0, 3, .inl (fun _ => 0)), .inl (tA 0, 3, .inl (fun _ => 0)), .inl (tA 0, 3, .inl (fun _ => 0))]) k (.inr (15, [.int 0, .int 0, .int 0, .int 0, .int 0, .ref (b + (n)), .ref (b + (n + 1)), .ref (b + (n + 2)), .ref (b + (n + 3)), .ref (b + (n + 4)), .ref (b + (n + 5)), .ref (b + (n + 6)), .ref (b + (n + 7)), .ref (b + (n + 8)), .ref (b + (n + 9)), .ref (b + (n + 10)), .ref (b + (n + 11)), .ref (b + (n + 12)), .ref (b + (n + 13)), .ref (b + (n + 14)), .ref (b + (n + 15)), .ref (b + (n + 16)), .ref (b + (n + 17)), .ref (b + (n + 18)), .ref (b + (n + 19)), .ref (b + (n + 20)), .ref (b + (n + 21)), .ref (b + (n + 22)), .ref (b + (n + 23)), .ref (b + (n + 24)), .ref (b + (n + 25)), .ref (b + (n + 26)), .ref (b + (n + 27)), .ref (b + (n + 28)), .int 0, .int 0]))) (n + 29) (zb_1 hk rfl rfl) rfl ?_
  exact zr_vret F hr zd_MScene_init_243 (Nat.le_of_ble_eq_true rfl) (Nat.le_of_ble_eq_true rfl) ⟨rfl, rfl, rfl⟩
