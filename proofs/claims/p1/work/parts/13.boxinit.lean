theorem zn_a {G : zV} {A o x : va_E} {q : Nat} (h0 : q ≠ 0) (h2 : q ≠ 2) : zu (zu (zu G 2 A) 0 o) q x = zu (zu (zu G q x) 2 A) 0 o := by
  rw [zu_swap (Ne.symm h0), zu_swap (Ne.symm h2)]
theorem zb_c {g : zV} {k n : Nat} {o : va_E} {l : List va_E} (h : k < n) : zb (zu g k o) n l = zu (zb g n l) k o := by
  funext a
  by_cases h1 : a = k
  · subst h1
    rw [zu_s, zb_lo h, zu_s]
  · rw [zu_n _ h1]
    unfold zb
    rw [zu_n _ h1]
theorem zn_b {G : zV} {A o : va_E} {n : Nat} {l : List va_E} (h : 2 < n) : zb (zu (zu G 2 A) 0 o) n l = zu (zu (zb G n l) 2 A) 0 o := by
  rw [zb_c (by omega), zb_c h]
theorem zn_2 {G : zV} {A A' o : va_E} : zu (zu (zu G 2 A) 0 o) 2 A' = zu (zu G 2 A') 0 o := by
  rw [zu_swap (by decide), zu_zu]
theorem zn_a2 {G : zV} {A o x y : va_E} {q r : Nat} (h0 : q ≠ 0) (h2 : q ≠ 2) (g0 : r ≠ 0) (g2 : r ≠ 2) : zu (zu (zu (zu G 2 A) 0 o) q x) r y = zu (zu (zu (zu G q x) r y) 2 A) 0 o := by
  rw [zn_a h0 h2, zn_a g0 g2]
theorem zn_a6 {G : zV} {A o x1 x2 x3 x4 x5 x6 : va_E} : zu (zu (zu (zu (zu (zu (zu (zu G 2 A) 0 o) 6 x1) 7 x2) 8 x3) 9 x4) 10 x5) 5 x6 = zu (zu (zu (zu (zu (zu (zu (zu G 6 x1) 7 x2) 8 x3) 9 x4) 10 x5) 5 x6) 2 A) 0 o := by
  rw [zn_a (by decide) (by decide), zn_a (by decide) (by decide), zn_a (by decide) (by decide), zn_a (by decide) (by decide), zn_a (by decide) (by decide), zn_a (by decide) (by decide)]
theorem zn_ba {G : zV} {A o x : va_E} {n k : Nat} {l : List va_E} (h : 2 < n) (h0 : k ≠ 0) (h2 : k ≠ 2) : zu (zb (zu (zu G 2 A) 0 o) n l) k x = zu (zu (zu (zb G n l) k x) 2 A) 0 o := by
  rw [zn_b h, zn_a h0 h2]
theorem zn_2s {G : zV} {A o : va_E} {c : ClassId} {g g' : Nat → Option Nat} (h : g = g') : zu (zu (zu G 2 A) 0 o) 2 (.inl (c, 3, .inr (.inr (.inr (.inr g))))) = zu (zu G 2 (.inl (c, 3, .inr (.inr (.inr (.inr g')))))) 0 o := by
  subst h
  exact zn_2
def zscn (b i : Nat) : Nat → Option Nat := fun j => if j < i then ([some (b + 11), some (b + 381), some (b + 751)] : List (Option Nat)).getD j none else none
theorem zscn_0 (b : Nat) : zscn b 0 = fun _ => none := by funext j; simp [zscn]
theorem zscn_s (b i q : Nat) {x : Int32} (hx : x.toNatClampNeg = i) (hq : ([some (b + 11), some (b + 381), some (b + 751)] : List (Option Nat)).getD i none = some (b + q)) : va_up (zscn b i) x.toNatClampNeg (some (b + q)) = zscn b (i + 1) := by
  rw [hx]
  funext j
  unfold va_up zscn
  by_cases h : j = i
  · subst h
    rw [if_pos rfl, if_pos (Nat.lt_succ_self j), hq]
  · by_cases h2 : j < i
    · rw [if_neg h, if_pos h2, if_pos (Nat.lt_succ_of_lt h2)]
    · rw [if_neg h, if_neg h2, if_neg (by omega)]
abbrev zb_OB_init : ByteArray := prog_1_method_1_code
def zy_OB_init : MethodName := ⟨"OrreryBox", "<init>", "(II)V"⟩
theorem zc_OB_init : Cond.code zy_OB_init zb_OB_init 4 none ∈ gw := gw_t 33 (by decide +kernel) rfl
theorem zq_OB_init : zy_OB_init.cls ≠ "java/lang/invoke/MethodHandle" ∧ zy_OB_init.cls ≠ "java/lang/invoke/VarHandle" ∧ (parseMethodDescriptor zy_OB_init.desc).map (fun d => d.parameters.length) = some 2 := by decide +kernel
theorem zd_OB_init_0 : decode zb_OB_init 0 = .ok (.aload_n 0, 1) := by decide +kernel
theorem zd_OB_init_1 : decode zb_OB_init 1 = .ok (.invokespecial 3, 3) := by decide +kernel
theorem zd_OB_init_4 : decode zb_OB_init 4 = .ok (.aload_n 0, 1) := by decide +kernel
theorem zd_OB_init_5 : decode zb_OB_init 5 = .ok (.ldc 9, 2) := by decide +kernel
theorem zd_OB_init_7 : decode zb_OB_init 7 = .ok (.newarray .byte, 2) := by decide +kernel
theorem zd_OB_init_9 : decode zb_OB_init 9 = .ok (.putfield 10, 3) := by decide +kernel
theorem zd_OB_init_12 : decode zb_OB_init 12 = .ok (.aload_n 0, 1) := by decide +kernel
theorem zd_OB_init_13 : decode zb_OB_init 13 = .ok (.iconst 3, 1) := by decide +kernel
theorem zd_OB_init_14 : decode zb_OB_init 14 = .ok (.anewarray 14, 3) := by decide +kernel
theorem zd_OB_init_17 : decode zb_OB_init 17 = .ok (.putfield 16, 3) := by decide +kernel
theorem zd_OB_init_20 : decode zb_OB_init 20 = .ok (.aload_n 0, 1) := by decide +kernel
theorem zd_OB_init_21 : decode zb_OB_init 21 = .ok (.new 20, 3) := by decide +kernel
theorem zd_OB_init_24 : decode zb_OB_init 24 = .ok (.dup, 1) := by decide +kernel
theorem zd_OB_init_25 : decode zb_OB_init 25 = .ok (.invokespecial 22, 3) := by decide +kernel
theorem zd_OB_init_28 : decode zb_OB_init 28 = .ok (.putfield 23, 3) := by decide +kernel
theorem zd_OB_init_31 : decode zb_OB_init 31 = .ok (.aload_n 0, 1) := by decide +kernel
theorem zd_OB_init_32 : decode zb_OB_init 32 = .ok (.new 27, 3) := by decide +kernel
theorem zd_OB_init_35 : decode zb_OB_init 35 = .ok (.dup, 1) := by decide +kernel
theorem zd_OB_init_36 : decode zb_OB_init 36 = .ok (.invokespecial 29, 3) := by decide +kernel
theorem zd_OB_init_39 : decode zb_OB_init 39 = .ok (.putfield 30, 3) := by decide +kernel
theorem zd_OB_init_42 : decode zb_OB_init 42 = .ok (.aload_n 0, 1) := by decide +kernel
theorem zd_OB_init_43 : decode zb_OB_init 43 = .ok (.iconst (-1), 1) := by decide +kernel
theorem zd_OB_init_44 : decode zb_OB_init 44 = .ok (.putfield 34, 3) := by decide +kernel
theorem zd_OB_init_47 : decode zb_OB_init 47 = .ok (.aload_n 0, 1) := by decide +kernel
theorem zd_OB_init_48 : decode zb_OB_init 48 = .ok (.iload_n 1, 1) := by decide +kernel
theorem zd_OB_init_49 : decode zb_OB_init 49 = .ok (.bipush 8, 2) := by decide +kernel
theorem zd_OB_init_51 : decode zb_OB_init 51 = .ok (.bipush 48, 2) := by decide +kernel
theorem zd_OB_init_53 : decode zb_OB_init 53 = .ok (.invokestatic 38, 3) := by decide +kernel
theorem zd_OB_init_56 : decode zb_OB_init 56 = .ok (.putfield 42, 3) := by decide +kernel
theorem zd_OB_init_59 : decode zb_OB_init 59 = .ok (.aload_n 0, 1) := by decide +kernel
theorem zd_OB_init_60 : decode zb_OB_init 60 = .ok (.iload_n 2, 1) := by decide +kernel
theorem zd_OB_init_61 : decode zb_OB_init 61 = .ok (.bipush 8, 2) := by decide +kernel
theorem zd_OB_init_63 : decode zb_OB_init 63 = .ok (.bipush 48, 2) := by decide +kernel
theorem zd_OB_init_65 : decode zb_OB_init 65 = .ok (.invokestatic 38, 3) := by decide +kernel
theorem zd_OB_init_68 : decode zb_OB_init 68 = .ok (.putfield 45, 3) := by decide +kernel
theorem zd_OB_init_71 : decode zb_OB_init 71 = .ok (.iconst 0, 1) := by decide +kernel
theorem zd_OB_init_72 : decode zb_OB_init 72 = .ok (.istore_n 3, 1) := by decide +kernel
theorem zd_OB_init_73 : decode zb_OB_init 73 = .ok (.iload_n 3, 1) := by decide +kernel
theorem zd_OB_init_74 : decode zb_OB_init 74 = .ok (.aload_n 0, 1) := by decide +kernel
theorem zd_OB_init_75 : decode zb_OB_init 75 = .ok (.getfield 16, 3) := by decide +kernel
theorem zd_OB_init_78 : decode zb_OB_init 78 = .ok (.arraylength, 1) := by decide +kernel
theorem zd_OB_init_79 : decode zb_OB_init 79 = .ok (.if_icmp .ge 22, 3) := by decide +kernel
theorem zd_OB_init_82 : decode zb_OB_init 82 = .ok (.aload_n 0, 1) := by decide +kernel
theorem zd_OB_init_83 : decode zb_OB_init 83 = .ok (.getfield 16, 3) := by decide +kernel
theorem zd_OB_init_86 : decode zb_OB_init 86 = .ok (.iload_n 3, 1) := by decide +kernel
theorem zd_OB_init_87 : decode zb_OB_init 87 = .ok (.new 14, 3) := by decide +kernel
theorem zd_OB_init_90 : decode zb_OB_init 90 = .ok (.dup, 1) := by decide +kernel
theorem zd_OB_init_91 : decode zb_OB_init 91 = .ok (.invokespecial 48, 3) := by decide +kernel
theorem zd_OB_init_94 : decode zb_OB_init 94 = .ok (.aastore, 1) := by decide +kernel
theorem zd_OB_init_95 : decode zb_OB_init 95 = .ok (.iinc 3 1, 3) := by decide +kernel
theorem zd_OB_init_98 : decode zb_OB_init 98 = .ok (.goto (-25), 3) := by decide +kernel
theorem zd_OB_init_101 : decode zb_OB_init 101 = .ok (.aload_n 0, 1) := by decide +kernel
theorem zd_OB_init_102 : decode zb_OB_init 102 = .ok (.aload_n 0, 1) := by decide +kernel
theorem zd_OB_init_103 : decode zb_OB_init 103 = .ok (.getfield 16, 3) := by decide +kernel
theorem zd_OB_init_106 : decode zb_OB_init 106 = .ok (.iconst 0, 1) := by decide +kernel
theorem zd_OB_init_107 : decode zb_OB_init 107 = .ok (.aaload, 1) := by decide +kernel
theorem zd_OB_init_108 : decode zb_OB_init 108 = .ok (.putfield 49, 3) := by decide +kernel
theorem zd_OB_init_111 : decode zb_OB_init 111 = .ok (.aload_n 0, 1) := by decide +kernel
theorem zd_OB_init_112 : decode zb_OB_init 112 = .ok (.new 53, 3) := by decide +kernel
theorem zd_OB_init_115 : decode zb_OB_init 115 = .ok (.dup, 1) := by decide +kernel
theorem zd_OB_init_116 : decode zb_OB_init 116 = .ok (.aload_n 0, 1) := by decide +kernel
theorem zd_OB_init_117 : decode zb_OB_init 117 = .ok (.getfield 42, 3) := by decide +kernel
theorem zd_OB_init_120 : decode zb_OB_init 120 = .ok (.aload_n 0, 1) := by decide +kernel
theorem zd_OB_init_121 : decode zb_OB_init 121 = .ok (.getfield 45, 3) := by decide +kernel
theorem zd_OB_init_124 : decode zb_OB_init 124 = .ok (.invokespecial 55, 3) := by decide +kernel
theorem zd_OB_init_127 : decode zb_OB_init 127 = .ok (.putfield 58, 3) := by decide +kernel
theorem zd_OB_init_130 : decode zb_OB_init 130 = .ok (.aload_n 0, 1) := by decide +kernel
theorem zd_OB_init_131 : decode zb_OB_init 131 = .ok (.new 62, 3) := by decide +kernel
theorem zd_OB_init_134 : decode zb_OB_init 134 = .ok (.dup, 1) := by decide +kernel
theorem zd_OB_init_135 : decode zb_OB_init 135 = .ok (.aload_n 0, 1) := by decide +kernel
theorem zd_OB_init_136 : decode zb_OB_init 136 = .ok (.getfield 42, 3) := by decide +kernel
theorem zd_OB_init_139 : decode zb_OB_init 139 = .ok (.aload_n 0, 1) := by decide +kernel
theorem zd_OB_init_140 : decode zb_OB_init 140 = .ok (.getfield 45, 3) := by decide +kernel
theorem zd_OB_init_143 : decode zb_OB_init 143 = .ok (.invokespecial 64, 3) := by decide +kernel
theorem zd_OB_init_146 : decode zb_OB_init 146 = .ok (.putfield 65, 3) := by decide +kernel
theorem zd_OB_init_149 : decode zb_OB_init 149 = .ok (.return_, 1) := by decide +kernel
theorem zdef_OB : ∀ j, j < 12 → defaultValue (zk_ty 0 j) = vp_V [.int 0, .int 0, .null, .int 0, .null, .null, .null, .null, .null, .null, .int 0, .int 0] j := by
  intro j hj
  match j, hj with
  | 0, _ => rfl
  | 1, _ => rfl
  | 2, _ => rfl
  | 3, _ => rfl
  | 4, _ => rfl
  | 5, _ => rfl
  | 6, _ => rfl
  | 7, _ => rfl
  | 8, _ => rfl
  | 9, _ => rfl
  | 10, _ => rfl
  | 11, _ => rfl
  | k + 12, h => exact absurd h (by omega)
theorem zw_34 : (Jvm.Cond.methodLink "OrreryBox" (3 : Nat) ({ cls := "java/lang/Object", name := "<init>", desc := "()V" } : Jvm.MethodName)) ∈ gw := gw_t 34 (by decide +kernel) rfl
theorem zw_37 : (Jvm.Cond.constant "OrreryBox" (9 : Nat) (65536 : Int32)) ∈ gw := gw_t 37 (by decide +kernel) rfl
theorem zw_490 : (Jvm.Cond.fieldLink "OrreryBox" (10 : Nat) "OrreryBox" "tape" "[B") ∈ gw := gw_t 490 (by decide +kernel) rfl
theorem zw_38 : (Jvm.Cond.classLink "OrreryBox" (14 : Nat) "OrreryBox$Scene") ∈ gw := gw_t 38 (by decide +kernel) rfl
theorem zw_492 : (Jvm.Cond.fieldLink "OrreryBox" (16 : Nat) "OrreryBox" "scenes" "[LOrreryBox$Scene;") ∈ gw := gw_t 492 (by decide +kernel) rfl
theorem zw_40 : (Jvm.Cond.classLink "OrreryBox" (20 : Nat) "OrreryBox$Reader") ∈ gw := gw_t 40 (by decide +kernel) rfl
theorem zw_41 : (Jvm.Cond.instantiable "OrreryBox$Reader" (8 : Nat)) ∈ gw := gw_t 41 (by decide +kernel) rfl
theorem zw_2 : (Jvm.Cond.initialized "OrreryBox$Reader") ∈ gw := gw_t 2 (by decide +kernel) rfl
theorem zw_42 : (Jvm.Cond.methodLinkNest "OrreryBox" (22 : Nat) ({ cls := "OrreryBox$Reader", name := "<init>", desc := "()V" } : Jvm.MethodName) "OrreryBox") ∈ gn := gn_t 42 (by decide +kernel) rfl
theorem zw_43 : (Jvm.Cond.instanceMethod ({ cls := "OrreryBox$Reader", name := "<init>", desc := "()V" } : Jvm.MethodName)) ∈ gw := gw_t 43 (by decide +kernel) rfl
theorem zs_OB_22 : zwIN "OrreryBox" 22 zy_XReader_init "OrreryBox" zb_XReader_init 1 := ⟨zw_42, zw_43, zw_2, zc_XReader_init⟩
theorem zw_494 : (Jvm.Cond.fieldLink "OrreryBox" (23 : Nat) "OrreryBox" "reader" "LOrreryBox$Reader;") ∈ gw := gw_t 494 (by decide +kernel) rfl
theorem zw_75 : (Jvm.Cond.classLink "OrreryBox" (27 : Nat) "OrreryBox$Packer") ∈ gw := gw_t 75 (by decide +kernel) rfl
theorem zw_76 : (Jvm.Cond.instantiable "OrreryBox$Packer" (11 : Nat)) ∈ gw := gw_t 76 (by decide +kernel) rfl
theorem zw_3 : (Jvm.Cond.initialized "OrreryBox$Packer") ∈ gw := gw_t 3 (by decide +kernel) rfl
theorem zw_77 : (Jvm.Cond.methodLinkNest "OrreryBox" (29 : Nat) ({ cls := "OrreryBox$Packer", name := "<init>", desc := "()V" } : Jvm.MethodName) "OrreryBox") ∈ gn := gn_t 77 (by decide +kernel) rfl
theorem zw_78 : (Jvm.Cond.instanceMethod ({ cls := "OrreryBox$Packer", name := "<init>", desc := "()V" } : Jvm.MethodName)) ∈ gw := gw_t 78 (by decide +kernel) rfl
theorem zs_OB_29 : zwIN "OrreryBox" 29 zy_XPacker_init "OrreryBox" zb_XPacker_init 1 := ⟨zw_77, zw_78, zw_3, zc_XPacker_init⟩
theorem zw_497 : (Jvm.Cond.fieldLink "OrreryBox" (30 : Nat) "OrreryBox" "packer" "LOrreryBox$Packer;") ∈ gw := gw_t 497 (by decide +kernel) rfl
theorem zw_499 : (Jvm.Cond.fieldLink "OrreryBox" (34 : Nat) "OrreryBox" "pickedFace" "I") ∈ gw := gw_t 499 (by decide +kernel) rfl
theorem zw_117 : (Jvm.Cond.methodLink "OrreryBox" (38 : Nat) ({ cls := "OrreryBox", name := "nearest", desc := "(III)I" } : Jvm.MethodName)) ∈ gw := gw_t 117 (by decide +kernel) rfl
theorem zw_118 : (Jvm.Cond.static ({ cls := "OrreryBox", name := "nearest", desc := "(III)I" } : Jvm.MethodName)) ∈ gw := gw_t 118 (by decide +kernel) rfl
theorem zw_1 : (Jvm.Cond.initialized "OrreryBox") ∈ gw := gw_t 1 (by decide +kernel) rfl
theorem zs_OB_38 : zwS "OrreryBox" 38 zy_OB_nearest zb_OB_nearest 3 (some .int) := ⟨zw_117, zw_118, zw_1, zc_OB_nearest⟩
theorem zw_488 : (Jvm.Cond.fieldLink "OrreryBox" (42 : Nat) "OrreryBox" "width" "I") ∈ gw := gw_t 488 (by decide +kernel) rfl
theorem zw_489 : (Jvm.Cond.fieldLink "OrreryBox" (45 : Nat) "OrreryBox" "height" "I") ∈ gw := gw_t 489 (by decide +kernel) rfl
theorem zw_126 : (Jvm.Cond.instantiable "OrreryBox$Scene" (11 : Nat)) ∈ gw := gw_t 126 (by decide +kernel) rfl
theorem zw_127 : (Jvm.Cond.methodLink "OrreryBox" (48 : Nat) ({ cls := "OrreryBox$Scene", name := "<init>", desc := "()V" } : Jvm.MethodName)) ∈ gw := gw_t 127 (by decide +kernel) rfl
theorem zw_128 : (Jvm.Cond.instanceMethod ({ cls := "OrreryBox$Scene", name := "<init>", desc := "()V" } : Jvm.MethodName)) ∈ gw := gw_t 128 (by decide +kernel) rfl
theorem zs_OB_48 : zwI "OrreryBox" 48 zy_XScene_init zb_XScene_init 2 := ⟨zw_127, zw_128, zw_5, zc_XScene_init⟩
theorem zw_493 : (Jvm.Cond.fieldLink "OrreryBox" (49 : Nat) "OrreryBox" "scene" "LOrreryBox$Scene;") ∈ gw := gw_t 493 (by decide +kernel) rfl
theorem zw_337 : (Jvm.Cond.classLink "OrreryBox" (53 : Nat) "OrreryBox$Sight") ∈ gw := gw_t 337 (by decide +kernel) rfl
theorem zw_338 : (Jvm.Cond.instantiable "OrreryBox$Sight" (15 : Nat)) ∈ gw := gw_t 338 (by decide +kernel) rfl
theorem zw_10 : (Jvm.Cond.initialized "OrreryBox$Sight") ∈ gw := gw_t 10 (by decide +kernel) rfl
theorem zw_339 : (Jvm.Cond.methodLink "OrreryBox" (55 : Nat) ({ cls := "OrreryBox$Sight", name := "<init>", desc := "(II)V" } : Jvm.MethodName)) ∈ gw := gw_t 339 (by decide +kernel) rfl
theorem zw_340 : (Jvm.Cond.instanceMethod ({ cls := "OrreryBox$Sight", name := "<init>", desc := "(II)V" } : Jvm.MethodName)) ∈ gw := gw_t 340 (by decide +kernel) rfl
theorem zs_OB_55 : zwI "OrreryBox" 55 zy_XSight_init zb_XSight_init 3 := ⟨zw_339, zw_340, zw_10, zc_XSight_init⟩
theorem zw_495 : (Jvm.Cond.fieldLink "OrreryBox" (58 : Nat) "OrreryBox" "sight" "LOrreryBox$Sight;") ∈ gw := gw_t 495 (by decide +kernel) rfl
theorem zw_419 : (Jvm.Cond.classLink "OrreryBox" (62 : Nat) "OrreryBox$Picture") ∈ gw := gw_t 419 (by decide +kernel) rfl
theorem zw_420 : (Jvm.Cond.instantiable "OrreryBox$Picture" (18 : Nat)) ∈ gw := gw_t 420 (by decide +kernel) rfl
theorem zw_12 : (Jvm.Cond.initialized "OrreryBox$Picture") ∈ gw := gw_t 12 (by decide +kernel) rfl
theorem zw_421 : (Jvm.Cond.methodLink "OrreryBox" (64 : Nat) ({ cls := "OrreryBox$Picture", name := "<init>", desc := "(II)V" } : Jvm.MethodName)) ∈ gw := gw_t 421 (by decide +kernel) rfl
theorem zw_422 : (Jvm.Cond.instanceMethod ({ cls := "OrreryBox$Picture", name := "<init>", desc := "(II)V" } : Jvm.MethodName)) ∈ gw := gw_t 422 (by decide +kernel) rfl
theorem zs_OB_64 : zwI "OrreryBox" 64 zy_XPicture_init zb_XPicture_init 3 := ⟨zw_421, zw_422, zw_12, zc_XPicture_init⟩
theorem zw_496 : (Jvm.Cond.fieldLink "OrreryBox" (65 : Nat) "OrreryBox" "picture" "LOrreryBox$Picture;") ∈ gw := gw_t 496 (by decide +kernel) rfl
def obW (tA : Nat → ClassId) (b : Nat) (f : zV) (W H : Nat) : zV := zu (zu (zu (zb (zu (zu (zb (zu (zu (zb (zu (zu (zb (zu (zu (zb (zu (zu (zu (zu (zu (zu (zu (zu (zu (zu (zu (zu f 1 (.inl (tA 1, 65536, .inl (fun _ => 0)))) 3 (.inr (7, [.int 0, .int 0, .null, .null, .int 0, .int 0, .int 0, .null]))) 4 (.inl (tA 0, 3072, .inl (fun _ => 0)))) 3 (.inr (7, [.int 0, .int 0, .ref (b + 4), .null, .int 0, .int 0, .int 0, .null]))) 5 (.inr (4, [.null, .int 0, .null, .null, .int 0, .null, .null, .int 0, .int 0, .int 0, .int 0]))) 6 (.inl (tA 1, 7958, .inl (fun _ => 0)))) 7 (.inl (tA 0, 6912, .inl (fun _ => 0)))) 8 (.inl (tA 0, 6960, .inl (fun _ => 0)))) 9 (.inl (tA 0, 4096, .inl (fun _ => 0)))) 10 (.inl (tA 0, 6960, .inl (fun _ => 0)))) 5 (.inr (4, [.ref (b + 6), .int 0, .ref (b + 7), .ref (b + 8), .int 0, .ref (b + 9), .ref (b + 10), .int 0, .int 0, .int 0, .int 0]))) 11 (.inr (8, [.null, .null, .null, .null, .null, .null, .null, .null, .int 0, .int 0, .null]))) 12 (zsF tA b 12)) 11 (.inr (8, zsO b 12 0 0))) 381 (.inr (8, [.null, .null, .null, .null, .null, .null, .null, .null, .int 0, .int 0, .null]))) 382 (zsF tA b 382)) 381 (.inr (8, zsO b 382 0 0))) 751 (.inr (8, [.null, .null, .null, .null, .null, .null, .null, .null, .int 0, .int 0, .null]))) 752 (zsF tA b 752)) 751 (.inr (8, zsO b 752 0 0))) 1121 (.inr (9, [.null, .int 0, .null, .int 0, .int 0, .int 0, .int 0, .null, .null, .null, .null, .int 0, .int 0, .null, .null]))) 1122 (sgL tA b 1122)) 1121 (.inr (9, sgO b 1122 (nI W) (nI H)))) 1178 (.inr (5, [.int 0, .null, .null, .null, .int 0, .int 0, .int 0, .int 0, .null, .null, .int 0, .null, .int 0, .long 0, .int 0, .int 0, .int 0, .int 0]))) 1179 (pcL tA b 1179 W H)) 1178 (.inr (5, pcO b 1179 W H))) 2 (.inl (tA 4, 3, .inr (.inr (.inr (.inr (zscn b 3))))))) 0 (.inr (0, [.int (nI W), .int (nI H), .ref (b + 1), .int 0, .ref (b + 2), .ref (b + 11), .ref (b + 3), .ref (b + 1121), .ref (b + 1178), .ref (b + 5), .int 0, .int (-1)]))
set_option maxHeartbeats 4000000 in
set_option maxRecDepth 100000 in
theorem c_OB_init (l : Launch) (D : va_G) (tA : Nat → ClassId) (b : Nat) (f : zV) (n : Nat) (x y : Int32) (W H : Nat) (hW : zx_max 8 (zx_min 48 x) = nI W) (hH : zx_max 8 (zx_min 48 y) = nI H) (hWH : W * H ≤ 2304) (hf : f 0 = some (.inr (0, [.int 0, .int 0, .null, .int 0, .null, .null, .null, .null, .null, .null, .int 0, .int 0]))) : zM l D tA b zy_OB_init zb_OB_init 4 none 3 62 1184 926590 [.ref (b + 0), .int x, .int y] f 1 (zE none (obW tA b f W H) 1185) := by
  refine zM_of (own := "OrreryBox") (plainFor_of_name (by decide)) rfl (Nat.le_of_ble_eq_true rfl) (fun p e s m below meth c F hr hin hHeap => ?_)
  refine zr_aload_n F zd_OB_init_0 rfl ?_
  refine zr_objInit F zd_OB_init_1 zw_34 zw_35 zw_36 (Nat.le_of_ble_eq_true rfl) (Nat.le_of_ble_eq_true rfl) ?_
  refine zr_norm (zu (f) 0 (.inr (0, [.int 0, .int 0, .null, .int 0, .null, .null, .null, .null, .null, .null, .int 0, .int 0]))) 1 (zu_id hf) rfl ?_
  refine zr_aload_n F zd_OB_init_4 rfl ?_
  refine zr_ldc F zd_OB_init_5 zw_37 ?_
  refine zr_newa (N := 65536) (a0 := (65536, .inl (fun _ => 0))) F 1 zd_OB_init_7 rfl rfl zw_73 (fun _ => rfl) (by decide) (by decide) (Nat.le_of_ble_eq_true rfl) (Nat.le_of_ble_eq_true rfl) (Nat.le_of_ble_eq_true rfl) ?_
  refine zr_norm (zu (zu f 1 (.inl (tA 1, 65536, .inl (fun _ => 0)))) 0 (.inr (0, [.int 0, .int 0, .null, .int 0, .null, .null, .null, .null, .null, .null, .int 0, .int 0]))) 2 (zu_swap (by decide) _ _ _) rfl ?_
  refine zr_putF F 0 2 zd_OB_init_9 (by rfl) rfl (by decide) zw_490 rfl rfl hin rfl rfl rfl (by exact (Nat.le_of_ble_eq_true rfl)) ?_
  refine zr_norm (zu (zu f 1 (.inl (tA 1, 65536, .inl (fun _ => 0)))) 0 (.inr (0, [.int 0, .int 0, .ref (b + 1), .int 0, .null, .null, .null, .null, .null, .null, .int 0, .int 0]))) 2 (zu_zu _ _ _ _) rfl ?_
  refine zr_aload_n F zd_OB_init_12 rfl ?_
  refine zr_iconstv (v := 3) F zd_OB_init_13 (by decide) ?_
  refine zr_anew (N := 3) F 4 zd_OB_init_14 rfl zw_38 (F.hG.2.1 _ (by decide)) (by decide) (by decide) (Nat.le_of_ble_eq_true rfl) (Nat.le_of_ble_eq_true rfl) (Nat.le_of_ble_eq_true rfl) ?_
  refine zr_norm (zu (zu (zu f 1 (.inl (tA 1, 65536, .inl (fun _ => 0)))) 2 (.inl (tA 4, 3, .inr (.inr (.inr (.inr (zscn b 0))))))) 0 (.inr (0, [.int 0, .int 0, .ref (b + 1), .int 0, .null, .null, .null, .null, .null, .null, .int 0, .int 0]))) 3 (by rw [zscn_0]; exact zu_swap (by decide) _ _ _) rfl ?_
  refine zr_putF F 0 4 zd_OB_init_17 (by rfl) rfl (by decide) zw_492 rfl rfl hin rfl rfl rfl (by exact (Nat.le_of_ble_eq_true rfl)) ?_
  refine zr_norm (zu (zu (zu f 1 (.inl (tA 1, 65536, .inl (fun _ => 0)))) 2 (.inl (tA 4, 3, .inr (.inr (.inr (.inr (zscn b 0))))))) 0 (.inr (0, [.int 0, .int 0, .ref (b + 1), .int 0, .ref (b + 2), .null, .null, .null, .null, .null, .int 0, .int 0]))) 3 (zu_zu _ _ _ _) rfl ?_
  refine zr_aload_n F zd_OB_init_20 rfl ?_
  refine zr_new (fs := [.int 0, .int 0, .null, .null, .int 0, .int 0, .int 0, .null]) F 7 zd_OB_init_21 rfl zw_40 zw_41 zw_2 (zdef_XReader) (Nat.le_of_ble_eq_true rfl) (Nat.le_of_ble_eq_true rfl) ?_
  refine zr_norm (zu (zu (zu (zu f 1 (.inl (tA 1, 65536, .inl (fun _ => 0)))) 3 (.inr (7, [.int 0, .int 0, .null, .null, .int 0, .int 0, .int 0, .null]))) 2 (.inl (tA 4, 3, .inr (.inr (.inr (.inr (zscn b 0))))))) 0 (.inr (0, [.int 0, .int 0, .ref (b + 1), .int 0, .ref (b + 2), .null, .null, .null, .null, .null, .int 0, .int 0]))) 4 (zn_a (by decide) (by decide)) rfl ?_
  refine zr_dup F zd_OB_init_24 rfl ?_
  refine zr_callIN0 F (c_XReader_init l D tA b _ 4 3 (by rfl)) zd_OB_init_25 zs_OB_22 rfl zq_XReader_init rfl rfl ⟨(Nat.le_of_ble_eq_true rfl), (Nat.le_of_ble_eq_true rfl)⟩ (Nat.le_of_ble_eq_true rfl) ⟨(Nat.le_of_ble_eq_true rfl), (Nat.le_of_ble_eq_true rfl)⟩ ?_
  refine zr_norm (zu (zu (zu (zu (zu (zu f 1 (.inl (tA 1, 65536, .inl (fun _ => 0)))) 3 (.inr (7, [.int 0, .int 0, .null, .null, .int 0, .int 0, .int 0, .null]))) 4 (.inl (tA 0, 3072, .inl (fun _ => 0)))) 3 (.inr (7, [.int 0, .int 0, .ref (b + 4), .null, .int 0, .int 0, .int 0, .null]))) 2 (.inl (tA 4, 3, .inr (.inr (.inr (.inr (zscn b 0))))))) 0 (.inr (0, [.int 0, .int 0, .ref (b + 1), .int 0, .ref (b + 2), .null, .null, .null, .null, .null, .int 0, .int 0]))) 5 (zn_a2 (by decide) (by decide) (by decide) (by decide)) rfl ?_
  refine zr_putF F 0 6 zd_OB_init_28 (by rfl) rfl (by decide) zw_494 rfl rfl hin rfl rfl rfl (by exact (Nat.le_of_ble_eq_true rfl)) ?_
  refine zr_norm (zu (zu (zu (zu (zu (zu f 1 (.inl (tA 1, 65536, .inl (fun _ => 0)))) 3 (.inr (7, [.int 0, .int 0, .null, .null, .int 0, .int 0, .int 0, .null]))) 4 (.inl (tA 0, 3072, .inl (fun _ => 0)))) 3 (.inr (7, [.int 0, .int 0, .ref (b + 4), .null, .int 0, .int 0, .int 0, .null]))) 2 (.inl (tA 4, 3, .inr (.inr (.inr (.inr (zscn b 0))))))) 0 (.inr (0, [.int 0, .int 0, .ref (b + 1), .int 0, .ref (b + 2), .null, .ref (b + 3), .null, .null, .null, .int 0, .int 0]))) 5 (zu_zu _ _ _ _) rfl ?_
  refine zr_aload_n F zd_OB_init_31 rfl ?_
  refine zr_new (fs := [.null, .int 0, .null, .null, .int 0, .null, .null, .int 0, .int 0, .int 0, .int 0]) F 4 zd_OB_init_32 rfl zw_75 zw_76 zw_3 (zdef_XPacker) (Nat.le_of_ble_eq_true rfl) (Nat.le_of_ble_eq_true rfl) ?_
  refine zr_norm (zu (zu (zu (zu (zu (zu (zu f 1 (.inl (tA 1, 65536, .inl (fun _ => 0)))) 3 (.inr (7, [.int 0, .int 0, .null, .null, .int 0, .int 0, .int 0, .null]))) 4 (.inl (tA 0, 3072, .inl (fun _ => 0)))) 3 (.inr (7, [.int 0, .int 0, .ref (b + 4), .null, .int 0, .int 0, .int 0, .null]))) 5 (.inr (4, [.null, .int 0, .null, .null, .int 0, .null, .null, .int 0, .int 0, .int 0, .int 0]))) 2 (.inl (tA 4, 3, .inr (.inr (.inr (.inr (zscn b 0))))))) 0 (.inr (0, [.int 0, .int 0, .ref (b + 1), .int 0, .ref (b + 2), .null, .ref (b + 3), .null, .null, .null, .int 0, .int 0]))) 6 (zn_a (by decide) (by decide)) rfl ?_
  refine zr_dup F zd_OB_init_35 rfl ?_
  refine zr_callIN0 F (c_XPacker_init l D tA b _ 6 5 (by rfl)) zd_OB_init_36 zs_OB_29 rfl zq_XPacker_init rfl rfl ⟨(Nat.le_of_ble_eq_true rfl), (Nat.le_of_ble_eq_true rfl)⟩ (Nat.le_of_ble_eq_true rfl) ⟨(Nat.le_of_ble_eq_true rfl), (Nat.le_of_ble_eq_true rfl)⟩ ?_
  refine zr_norm (zu (zu (zu (zu (zu (zu (zu (zu (zu (zu (zu (zu (zu f 1 (.inl (tA 1, 65536, .inl (fun _ => 0)))) 3 (.inr (7, [.int 0, .int 0, .null, .null, .int 0, .int 0, .int 0, .null]))) 4 (.inl (tA 0, 3072, .inl (fun _ => 0)))) 3 (.inr (7, [.int 0, .int 0, .ref (b + 4), .null, .int 0, .int 0, .int 0, .null]))) 5 (.inr (4, [.null, .int 0, .null, .null, .int 0, .null, .null, .int 0, .int 0, .int 0, .int 0]))) 6 (.inl (tA 1, 7958, .inl (fun _ => 0)))) 7 (.inl (tA 0, 6912, .inl (fun _ => 0)))) 8 (.inl (tA 0, 6960, .inl (fun _ => 0)))) 9 (.inl (tA 0, 4096, .inl (fun _ => 0)))) 10 (.inl (tA 0, 6960, .inl (fun _ => 0)))) 5 (.inr (4, [.ref (b + 6), .int 0, .ref (b + 7), .ref (b + 8), .int 0, .ref (b + 9), .ref (b + 10), .int 0, .int 0, .int 0, .int 0]))) 2 (.inl (tA 4, 3, .inr (.inr (.inr (.inr (zscn b 0))))))) 0 (.inr (0, [.int 0, .int 0, .ref (b + 1), .int 0, .ref (b + 2), .null, .ref (b + 3), .null, .null, .null, .int 0, .int 0]))) 11 (zn_a6) rfl ?_
  refine zr_putF F 0 9 zd_OB_init_39 (by rfl) rfl (by decide) zw_497 rfl rfl hin rfl rfl rfl (by exact (Nat.le_of_ble_eq_true rfl)) ?_
  refine zr_norm (zu (zu (zu (zu (zu (zu (zu (zu (zu (zu (zu (zu (zu f 1 (.inl (tA 1, 65536, .inl (fun _ => 0)))) 3 (.inr (7, [.int 0, .int 0, .null, .null, .int 0, .int 0, .int 0, .null]))) 4 (.inl (tA 0, 3072, .inl (fun _ => 0)))) 3 (.inr (7, [.int 0, .int 0, .ref (b + 4), .null, .int 0, .int 0, .int 0, .null]))) 5 (.inr (4, [.null, .int 0, .null, .null, .int 0, .null, .null, .int 0, .int 0, .int 0, .int 0]))) 6 (.inl (tA 1, 7958, .inl (fun _ => 0)))) 7 (.inl (tA 0, 6912, .inl (fun _ => 0)))) 8 (.inl (tA 0, 6960, .inl (fun _ => 0)))) 9 (.inl (tA 0, 4096, .inl (fun _ => 0)))) 10 (.inl (tA 0, 6960, .inl (fun _ => 0)))) 5 (.inr (4, [.ref (b + 6), .int 0, .ref (b + 7), .ref (b + 8), .int 0, .ref (b + 9), .ref (b + 10), .int 0, .int 0, .int 0, .int 0]))) 2 (.inl (tA 4, 3, .inr (.inr (.inr (.inr (zscn b 0))))))) 0 (.inr (0, [.int 0, .int 0, .ref (b + 1), .int 0, .ref (b + 2), .null, .ref (b + 3), .null, .null, .ref (b + 5), .int 0, .int 0]))) 11 (zu_zu _ _ _ _) rfl ?_
  refine zr_aload_n F zd_OB_init_42 rfl ?_
  refine zr_iconstv (v := (-1)) F zd_OB_init_43 (by decide) ?_
  refine zr_put F 0 11 zd_OB_init_44 (by rfl) rfl (by decide) zw_499 rfl rfl rfl rfl (by exact (Nat.le_of_ble_eq_true rfl)) ?_
  refine zr_norm (zu (zu (zu (zu (zu (zu (zu (zu (zu (zu (zu (zu (zu f 1 (.inl (tA 1, 65536, .inl (fun _ => 0)))) 3 (.inr (7, [.int 0, .int 0, .null, .null, .int 0, .int 0, .int 0, .null]))) 4 (.inl (tA 0, 3072, .inl (fun _ => 0)))) 3 (.inr (7, [.int 0, .int 0, .ref (b + 4), .null, .int 0, .int 0, .int 0, .null]))) 5 (.inr (4, [.null, .int 0, .null, .null, .int 0, .null, .null, .int 0, .int 0, .int 0, .int 0]))) 6 (.inl (tA 1, 7958, .inl (fun _ => 0)))) 7 (.inl (tA 0, 6912, .inl (fun _ => 0)))) 8 (.inl (tA 0, 6960, .inl (fun _ => 0)))) 9 (.inl (tA 0, 4096, .inl (fun _ => 0)))) 10 (.inl (tA 0, 6960, .inl (fun _ => 0)))) 5 (.inr (4, [.ref (b + 6), .int 0, .ref (b + 7), .ref (b + 8), .int 0, .ref (b + 9), .ref (b + 10), .int 0, .int 0, .int 0, .int 0]))) 2 (.inl (tA 4, 3, .inr (.inr (.inr (.inr (zscn b 0))))))) 0 (.inr (0, [.int 0, .int 0, .ref (b + 1), .int 0, .ref (b + 2), .null, .ref (b + 3), .null, .null, .ref (b + 5), .int 0, .int (-1)]))) 11 (zu_zu _ _ _ _) rfl ?_
  refine zr_aload_n F zd_OB_init_47 rfl ?_
  refine zr_iload_n F zd_OB_init_48 rfl ?_
  refine zr_bipushv (v := 8) F zd_OB_init_49 (by decide) ?_
  refine zr_bipushv (v := 48) F zd_OB_init_51 (by decide) ?_
  refine zr_callS1 F (c_OB_nearest l D tA b _ _ x 8 48) zd_OB_init_53 zs_OB_38 zq_OB_nearest rfl rfl ⟨(Nat.le_of_ble_eq_true rfl), (Nat.le_of_ble_eq_true rfl)⟩ (Nat.le_of_ble_eq_true rfl) ⟨(Nat.le_of_ble_eq_true rfl), (Nat.le_of_ble_eq_true rfl)⟩ ?_
  refine zr_topi (fun qW hqW => ?_)
  obtain rfl : qW = nI W := hqW.trans hW
  refine zr_putF F 0 0 zd_OB_init_56 (by rfl) rfl (by decide) zw_488 rfl rfl hin rfl rfl rfl (by exact (Nat.le_of_ble_eq_true rfl)) ?_
  refine zr_norm (zu (zu (zu (zu (zu (zu (zu (zu (zu (zu (zu (zu (zu f 1 (.inl (tA 1, 65536, .inl (fun _ => 0)))) 3 (.inr (7, [.int 0, .int 0, .null, .null, .int 0, .int 0, .int 0, .null]))) 4 (.inl (tA 0, 3072, .inl (fun _ => 0)))) 3 (.inr (7, [.int 0, .int 0, .ref (b + 4), .null, .int 0, .int 0, .int 0, .null]))) 5 (.inr (4, [.null, .int 0, .null, .null, .int 0, .null, .null, .int 0, .int 0, .int 0, .int 0]))) 6 (.inl (tA 1, 7958, .inl (fun _ => 0)))) 7 (.inl (tA 0, 6912, .inl (fun _ => 0)))) 8 (.inl (tA 0, 6960, .inl (fun _ => 0)))) 9 (.inl (tA 0, 4096, .inl (fun _ => 0)))) 10 (.inl (tA 0, 6960, .inl (fun _ => 0)))) 5 (.inr (4, [.ref (b + 6), .int 0, .ref (b + 7), .ref (b + 8), .int 0, .ref (b + 9), .ref (b + 10), .int 0, .int 0, .int 0, .int 0]))) 2 (.inl (tA 4, 3, .inr (.inr (.inr (.inr (zscn b 0))))))) 0 (.inr (0, [.int (nI W), .int 0, .ref (b + 1), .int 0, .ref (b + 2), .null, .ref (b + 3), .null, .null, .ref (b + 5), .int 0, .int (-1)]))) 11 (zu_zu _ _ _ _) rfl ?_
  refine zr_aload_n F zd_OB_init_59 rfl ?_
  refine zr_iload_n F zd_OB_init_60 rfl ?_
  refine zr_bipushv (v := 8) F zd_OB_init_61 (by decide) ?_
  refine zr_bipushv (v := 48) F zd_OB_init_63 (by decide) ?_
  refine zr_callS1 F (c_OB_nearest l D tA b _ _ y 8 48) zd_OB_init_65 zs_OB_38 zq_OB_nearest rfl rfl ⟨(Nat.le_of_ble_eq_true rfl), (Nat.le_of_ble_eq_true rfl)⟩ (Nat.le_of_ble_eq_true rfl) ⟨(Nat.le_of_ble_eq_true rfl), (Nat.le_of_ble_eq_true rfl)⟩ ?_
  refine zr_topi (fun qH hqH => ?_)
  obtain rfl : qH = nI H := hqH.trans hH
  refine zr_putF F 0 1 zd_OB_init_68 (by rfl) rfl (by decide) zw_489 rfl rfl hin rfl rfl rfl (by exact (Nat.le_of_ble_eq_true rfl)) ?_
  refine zr_norm (zu (zu (zu (zu (zu (zu (zu (zu (zu (zu (zu (zu (zu f 1 (.inl (tA 1, 65536, .inl (fun _ => 0)))) 3 (.inr (7, [.int 0, .int 0, .null, .null, .int 0, .int 0, .int 0, .null]))) 4 (.inl (tA 0, 3072, .inl (fun _ => 0)))) 3 (.inr (7, [.int 0, .int 0, .ref (b + 4), .null, .int 0, .int 0, .int 0, .null]))) 5 (.inr (4, [.null, .int 0, .null, .null, .int 0, .null, .null, .int 0, .int 0, .int 0, .int 0]))) 6 (.inl (tA 1, 7958, .inl (fun _ => 0)))) 7 (.inl (tA 0, 6912, .inl (fun _ => 0)))) 8 (.inl (tA 0, 6960, .inl (fun _ => 0)))) 9 (.inl (tA 0, 4096, .inl (fun _ => 0)))) 10 (.inl (tA 0, 6960, .inl (fun _ => 0)))) 5 (.inr (4, [.ref (b + 6), .int 0, .ref (b + 7), .ref (b + 8), .int 0, .ref (b + 9), .ref (b + 10), .int 0, .int 0, .int 0, .int 0]))) 2 (.inl (tA 4, 3, .inr (.inr (.inr (.inr (zscn b 0))))))) 0 (.inr (0, [.int (nI W), .int (nI H), .ref (b + 1), .int 0, .ref (b + 2), .null, .ref (b + 3), .null, .null, .ref (b + 5), .int 0, .int (-1)]))) 11 (zu_zu _ _ _ _) rfl ?_
  refine zr_iconstv (v := 0) F zd_OB_init_71 (by decide) ?_
  refine zr_istore_n F zd_OB_init_72 (by decide) ?_
  refine zr_loc (L' := [(0, .ref (b + 0)), (3, .int 0)]) ⟨rfl, rfl, trivial⟩ ?_
  refine zr_iload_n F zd_OB_init_73 rfl ?_
  refine zr_aload_n F zd_OB_init_74 rfl ?_
  refine zr_get F 0 4 zd_OB_init_75 (by rfl) rfl (by decide) zw_492 rfl (by rfl) ?_
  refine zr_alen (v := 3) F 4 zd_OB_init_78 (by rfl) rfl (by rfl) ?_
  refine zr_icmp_ge F 101 zd_OB_init_79 (by decide) (fun h => absurd h (by decide)) (fun _ => ?_)
  refine zr_aload_n F zd_OB_init_82 rfl ?_
  refine zr_get F 0 4 zd_OB_init_83 (by rfl) rfl (by decide) zw_492 rfl (by rfl) ?_
  refine zr_iload_n F zd_OB_init_86 rfl ?_
  refine zr_new (fs := [.null, .null, .null, .null, .null, .null, .null, .null, .int 0, .int 0, .null]) F 8 zd_OB_init_87 rfl zw_38 zw_126 zw_5 (zdef_XScene) (Nat.le_of_ble_eq_true rfl) (Nat.le_of_ble_eq_true rfl) ?_
  refine zr_norm (zu (zu (zu (zu (zu (zu (zu (zu (zu (zu (zu (zu (zu (zu f 1 (.inl (tA 1, 65536, .inl (fun _ => 0)))) 3 (.inr (7, [.int 0, .int 0, .null, .null, .int 0, .int 0, .int 0, .null]))) 4 (.inl (tA 0, 3072, .inl (fun _ => 0)))) 3 (.inr (7, [.int 0, .int 0, .ref (b + 4), .null, .int 0, .int 0, .int 0, .null]))) 5 (.inr (4, [.null, .int 0, .null, .null, .int 0, .null, .null, .int 0, .int 0, .int 0, .int 0]))) 6 (.inl (tA 1, 7958, .inl (fun _ => 0)))) 7 (.inl (tA 0, 6912, .inl (fun _ => 0)))) 8 (.inl (tA 0, 6960, .inl (fun _ => 0)))) 9 (.inl (tA 0, 4096, .inl (fun _ => 0)))) 10 (.inl (tA 0, 6960, .inl (fun _ => 0)))) 5 (.inr (4, [.ref (b + 6), .int 0, .ref (b + 7), .ref (b + 8), .int 0, .ref (b + 9), .ref (b + 10), .int 0, .int 0, .int 0, .int 0]))) 11 (.inr (8, [.null, .null, .null, .null, .null, .null, .null, .null, .int 0, .int 0, .null]))) 2 (.inl (tA 4, 3, .inr (.inr (.inr (.inr (zscn b 0))))))) 0 (.inr (0, [.int (nI W), .int (nI H), .ref (b + 1), .int 0, .ref (b + 2), .null, .ref (b + 3), .null, .null, .ref (b + 5), .int 0, .int (-1)]))) 12 (zn_a (by decide) (by decide)) rfl ?_
  refine zr_dup F zd_OB_init_90 rfl ?_
  refine zr_callI0 F (c_XScene_init l D tA b _ 12 11 (by rfl)) zd_OB_init_91 zs_OB_48 rfl zq_XScene_init rfl rfl ⟨(Nat.le_of_ble_eq_true rfl), (Nat.le_of_ble_eq_true rfl)⟩ (Nat.le_of_ble_eq_true rfl) ⟨(Nat.le_of_ble_eq_true rfl), (Nat.le_of_ble_eq_true rfl)⟩ ?_
  refine zr_norm (zu (zu (zu (zb (zu (zu (zu (zu (zu (zu (zu (zu (zu (zu (zu (zu f 1 (.inl (tA 1, 65536, .inl (fun _ => 0)))) 3 (.inr (7, [.int 0, .int 0, .null, .null, .int 0, .int 0, .int 0, .null]))) 4 (.inl (tA 0, 3072, .inl (fun _ => 0)))) 3 (.inr (7, [.int 0, .int 0, .ref (b + 4), .null, .int 0, .int 0, .int 0, .null]))) 5 (.inr (4, [.null, .int 0, .null, .null, .int 0, .null, .null, .int 0, .int 0, .int 0, .int 0]))) 6 (.inl (tA 1, 7958, .inl (fun _ => 0)))) 7 (.inl (tA 0, 6912, .inl (fun _ => 0)))) 8 (.inl (tA 0, 6960, .inl (fun _ => 0)))) 9 (.inl (tA 0, 4096, .inl (fun _ => 0)))) 10 (.inl (tA 0, 6960, .inl (fun _ => 0)))) 5 (.inr (4, [.ref (b + 6), .int 0, .ref (b + 7), .ref (b + 8), .int 0, .ref (b + 9), .ref (b + 10), .int 0, .int 0, .int 0, .int 0]))) 11 (.inr (8, [.null, .null, .null, .null, .null, .null, .null, .null, .int 0, .int 0, .null]))) 12 (zsF tA b 12)) 11 (.inr (8, zsO b 12 0 0))) 2 (.inl (tA 4, 3, .inr (.inr (.inr (.inr (zscn b 0))))))) 0 (.inr (0, [.int (nI W), .int (nI H), .ref (b + 1), .int 0, .ref (b + 2), .null, .ref (b + 3), .null, .null, .ref (b + 5), .int 0, .int (-1)]))) 381 (zn_ba (by decide) (by decide) (by decide)) rfl ?_
  refine zr_aast (ci := 8) (v := 11) F 4 zd_OB_init_94 (by rfl) rfl (by rfl) rfl (vp_in_nI (n := 0) (by decide) (by decide)) ?_
  refine zr_norm (zu (zu (zu (zb (zu (zu (zu (zu (zu (zu (zu (zu (zu (zu (zu (zu f 1 (.inl (tA 1, 65536, .inl (fun _ => 0)))) 3 (.inr (7, [.int 0, .int 0, .null, .null, .int 0, .int 0, .int 0, .null]))) 4 (.inl (tA 0, 3072, .inl (fun _ => 0)))) 3 (.inr (7, [.int 0, .int 0, .ref (b + 4), .null, .int 0, .int 0, .int 0, .null]))) 5 (.inr (4, [.null, .int 0, .null, .null, .int 0, .null, .null, .int 0, .int 0, .int 0, .int 0]))) 6 (.inl (tA 1, 7958, .inl (fun _ => 0)))) 7 (.inl (tA 0, 6912, .inl (fun _ => 0)))) 8 (.inl (tA 0, 6960, .inl (fun _ => 0)))) 9 (.inl (tA 0, 4096, .inl (fun _ => 0)))) 10 (.inl (tA 0, 6960, .inl (fun _ => 0)))) 5 (.inr (4, [.ref (b + 6), .int 0, .ref (b + 7), .ref (b + 8), .int 0, .ref (b + 9), .ref (b + 10), .int 0, .int 0, .int 0, .int 0]))) 11 (.inr (8, [.null, .null, .null, .null, .null, .null, .null, .null, .int 0, .int 0, .null]))) 12 (zsF tA b 12)) 11 (.inr (8, zsO b 12 0 0))) 2 (.inl (tA 4, 3, .inr (.inr (.inr (.inr (zscn b 1))))))) 0 (.inr (0, [.int (nI W), .int (nI H), .ref (b + 1), .int 0, .ref (b + 2), .null, .ref (b + 3), .null, .null, .ref (b + 5), .int 0, .int (-1)]))) 381 (zn_2s (zscn_s b 0 11 (by decide) rfl)) rfl ?_
  refine zr_iinc (v := 1) F zd_OB_init_95 rfl (by decide) (by decide) ?_
  refine zr_goto F 73 zd_OB_init_98 (by decide) ?_
  refine zr_loc (L' := [(0, .ref (b + 0)), (3, .int 1)]) ⟨rfl, rfl, trivial⟩ ?_
  refine zr_iload_n F zd_OB_init_73 rfl ?_
  refine zr_aload_n F zd_OB_init_74 rfl ?_
  refine zr_get F 0 4 zd_OB_init_75 (by rfl) rfl (by decide) zw_492 rfl (by rfl) ?_
  refine zr_alen (v := 3) F 4 zd_OB_init_78 (by rfl) rfl (by rfl) ?_
  refine zr_icmp_ge F 101 zd_OB_init_79 (by decide) (fun h => absurd h (by decide)) (fun _ => ?_)
  refine zr_aload_n F zd_OB_init_82 rfl ?_
  refine zr_get F 0 4 zd_OB_init_83 (by rfl) rfl (by decide) zw_492 rfl (by rfl) ?_
  refine zr_iload_n F zd_OB_init_86 rfl ?_
  refine zr_new (fs := [.null, .null, .null, .null, .null, .null, .null, .null, .int 0, .int 0, .null]) F 8 zd_OB_init_87 rfl zw_38 zw_126 zw_5 (zdef_XScene) (Nat.le_of_ble_eq_true rfl) (Nat.le_of_ble_eq_true rfl) ?_
  refine zr_norm (zu (zu (zu (zu (zb (zu (zu (zu (zu (zu (zu (zu (zu (zu (zu (zu (zu f 1 (.inl (tA 1, 65536, .inl (fun _ => 0)))) 3 (.inr (7, [.int 0, .int 0, .null, .null, .int 0, .int 0, .int 0, .null]))) 4 (.inl (tA 0, 3072, .inl (fun _ => 0)))) 3 (.inr (7, [.int 0, .int 0, .ref (b + 4), .null, .int 0, .int 0, .int 0, .null]))) 5 (.inr (4, [.null, .int 0, .null, .null, .int 0, .null, .null, .int 0, .int 0, .int 0, .int 0]))) 6 (.inl (tA 1, 7958, .inl (fun _ => 0)))) 7 (.inl (tA 0, 6912, .inl (fun _ => 0)))) 8 (.inl (tA 0, 6960, .inl (fun _ => 0)))) 9 (.inl (tA 0, 4096, .inl (fun _ => 0)))) 10 (.inl (tA 0, 6960, .inl (fun _ => 0)))) 5 (.inr (4, [.ref (b + 6), .int 0, .ref (b + 7), .ref (b + 8), .int 0, .ref (b + 9), .ref (b + 10), .int 0, .int 0, .int 0, .int 0]))) 11 (.inr (8, [.null, .null, .null, .null, .null, .null, .null, .null, .int 0, .int 0, .null]))) 12 (zsF tA b 12)) 11 (.inr (8, zsO b 12 0 0))) 381 (.inr (8, [.null, .null, .null, .null, .null, .null, .null, .null, .int 0, .int 0, .null]))) 2 (.inl (tA 4, 3, .inr (.inr (.inr (.inr (zscn b 1))))))) 0 (.inr (0, [.int (nI W), .int (nI H), .ref (b + 1), .int 0, .ref (b + 2), .null, .ref (b + 3), .null, .null, .ref (b + 5), .int 0, .int (-1)]))) 382 (zn_a (by decide) (by decide)) rfl ?_
  refine zr_dup F zd_OB_init_90 rfl ?_
  refine zr_callI0 F (c_XScene_init l D tA b _ 382 381 (by rfl)) zd_OB_init_91 zs_OB_48 rfl zq_XScene_init rfl rfl ⟨(Nat.le_of_ble_eq_true rfl), (Nat.le_of_ble_eq_true rfl)⟩ (Nat.le_of_ble_eq_true rfl) ⟨(Nat.le_of_ble_eq_true rfl), (Nat.le_of_ble_eq_true rfl)⟩ ?_
  refine zr_norm (zu (zu (zu (zb (zu (zu (zb (zu (zu (zu (zu (zu (zu (zu (zu (zu (zu (zu (zu f 1 (.inl (tA 1, 65536, .inl (fun _ => 0)))) 3 (.inr (7, [.int 0, .int 0, .null, .null, .int 0, .int 0, .int 0, .null]))) 4 (.inl (tA 0, 3072, .inl (fun _ => 0)))) 3 (.inr (7, [.int 0, .int 0, .ref (b + 4), .null, .int 0, .int 0, .int 0, .null]))) 5 (.inr (4, [.null, .int 0, .null, .null, .int 0, .null, .null, .int 0, .int 0, .int 0, .int 0]))) 6 (.inl (tA 1, 7958, .inl (fun _ => 0)))) 7 (.inl (tA 0, 6912, .inl (fun _ => 0)))) 8 (.inl (tA 0, 6960, .inl (fun _ => 0)))) 9 (.inl (tA 0, 4096, .inl (fun _ => 0)))) 10 (.inl (tA 0, 6960, .inl (fun _ => 0)))) 5 (.inr (4, [.ref (b + 6), .int 0, .ref (b + 7), .ref (b + 8), .int 0, .ref (b + 9), .ref (b + 10), .int 0, .int 0, .int 0, .int 0]))) 11 (.inr (8, [.null, .null, .null, .null, .null, .null, .null, .null, .int 0, .int 0, .null]))) 12 (zsF tA b 12)) 11 (.inr (8, zsO b 12 0 0))) 381 (.inr (8, [.null, .null, .null, .null, .null, .null, .null, .null, .int 0, .int 0, .null]))) 382 (zsF tA b 382)) 381 (.inr (8, zsO b 382 0 0))) 2 (.inl (tA 4, 3, .inr (.inr (.inr (.inr (zscn b 1))))))) 0 (.inr (0, [.int (nI W), .int (nI H), .ref (b + 1), .int 0, .ref (b + 2), .null, .ref (b + 3), .null, .null, .ref (b + 5), .int 0, .int (-1)]))) 751 (zn_ba (by decide) (by decide) (by decide)) rfl ?_
  refine zr_aast (ci := 8) (v := 381) F 4 zd_OB_init_94 (by rfl) rfl (by rfl) rfl (vp_in_nI (n := 1) (by decide) (by decide)) ?_
  refine zr_norm (zu (zu (zu (zb (zu (zu (zb (zu (zu (zu (zu (zu (zu (zu (zu (zu (zu (zu (zu f 1 (.inl (tA 1, 65536, .inl (fun _ => 0)))) 3 (.inr (7, [.int 0, .int 0, .null, .null, .int 0, .int 0, .int 0, .null]))) 4 (.inl (tA 0, 3072, .inl (fun _ => 0)))) 3 (.inr (7, [.int 0, .int 0, .ref (b + 4), .null, .int 0, .int 0, .int 0, .null]))) 5 (.inr (4, [.null, .int 0, .null, .null, .int 0, .null, .null, .int 0, .int 0, .int 0, .int 0]))) 6 (.inl (tA 1, 7958, .inl (fun _ => 0)))) 7 (.inl (tA 0, 6912, .inl (fun _ => 0)))) 8 (.inl (tA 0, 6960, .inl (fun _ => 0)))) 9 (.inl (tA 0, 4096, .inl (fun _ => 0)))) 10 (.inl (tA 0, 6960, .inl (fun _ => 0)))) 5 (.inr (4, [.ref (b + 6), .int 0, .ref (b + 7), .ref (b + 8), .int 0, .ref (b + 9), .ref (b + 10), .int 0, .int 0, .int 0, .int 0]))) 11 (.inr (8, [.null, .null, .null, .null, .null, .null, .null, .null, .int 0, .int 0, .null]))) 12 (zsF tA b 12)) 11 (.inr (8, zsO b 12 0 0))) 381 (.inr (8, [.null, .null, .null, .null, .null, .null, .null, .null, .int 0, .int 0, .null]))) 382 (zsF tA b 382)) 381 (.inr (8, zsO b 382 0 0))) 2 (.inl (tA 4, 3, .inr (.inr (.inr (.inr (zscn b 2))))))) 0 (.inr (0, [.int (nI W), .int (nI H), .ref (b + 1), .int 0, .ref (b + 2), .null, .ref (b + 3), .null, .null, .ref (b + 5), .int 0, .int (-1)]))) 751 (zn_2s (zscn_s b 1 381 (by decide) rfl)) rfl ?_
  refine zr_iinc (v := 2) F zd_OB_init_95 rfl (by decide) (by decide) ?_
  refine zr_goto F 73 zd_OB_init_98 (by decide) ?_
  refine zr_loc (L' := [(0, .ref (b + 0)), (3, .int 2)]) ⟨rfl, rfl, trivial⟩ ?_
  refine zr_iload_n F zd_OB_init_73 rfl ?_
  refine zr_aload_n F zd_OB_init_74 rfl ?_
  refine zr_get F 0 4 zd_OB_init_75 (by rfl) rfl (by decide) zw_492 rfl (by rfl) ?_
  refine zr_alen (v := 3) F 4 zd_OB_init_78 (by rfl) rfl (by rfl) ?_
  refine zr_icmp_ge F 101 zd_OB_init_79 (by decide) (fun h => absurd h (by decide)) (fun _ => ?_)
  refine zr_aload_n F zd_OB_init_82 rfl ?_
  refine zr_get F 0 4 zd_OB_init_83 (by rfl) rfl (by decide) zw_492 rfl (by rfl) ?_
  refine zr_iload_n F zd_OB_init_86 rfl ?_
  refine zr_new (fs := [.null, .null, .null, .null, .null, .null, .null, .null, .int 0, .int 0, .null]) F 8 zd_OB_init_87 rfl zw_38 zw_126 zw_5 (zdef_XScene) (Nat.le_of_ble_eq_true rfl) (Nat.le_of_ble_eq_true rfl) ?_
  refine zr_norm (zu (zu (zu (zu (zb (zu (zu (zb (zu (zu (zu (zu (zu (zu (zu (zu (zu (zu (zu (zu f 1 (.inl (tA 1, 65536, .inl (fun _ => 0)))) 3 (.inr (7, [.int 0, .int 0, .null, .null, .int 0, .int 0, .int 0, .null]))) 4 (.inl (tA 0, 3072, .inl (fun _ => 0)))) 3 (.inr (7, [.int 0, .int 0, .ref (b + 4), .null, .int 0, .int 0, .int 0, .null]))) 5 (.inr (4, [.null, .int 0, .null, .null, .int 0, .null, .null, .int 0, .int 0, .int 0, .int 0]))) 6 (.inl (tA 1, 7958, .inl (fun _ => 0)))) 7 (.inl (tA 0, 6912, .inl (fun _ => 0)))) 8 (.inl (tA 0, 6960, .inl (fun _ => 0)))) 9 (.inl (tA 0, 4096, .inl (fun _ => 0)))) 10 (.inl (tA 0, 6960, .inl (fun _ => 0)))) 5 (.inr (4, [.ref (b + 6), .int 0, .ref (b + 7), .ref (b + 8), .int 0, .ref (b + 9), .ref (b + 10), .int 0, .int 0, .int 0, .int 0]))) 11 (.inr (8, [.null, .null, .null, .null, .null, .null, .null, .null, .int 0, .int 0, .null]))) 12 (zsF tA b 12)) 11 (.inr (8, zsO b 12 0 0))) 381 (.inr (8, [.null, .null, .null, .null, .null, .null, .null, .null, .int 0, .int 0, .null]))) 382 (zsF tA b 382)) 381 (.inr (8, zsO b 382 0 0))) 751 (.inr (8, [.null, .null, .null, .null, .null, .null, .null, .null, .int 0, .int 0, .null]))) 2 (.inl (tA 4, 3, .inr (.inr (.inr (.inr (zscn b 2))))))) 0 (.inr (0, [.int (nI W), .int (nI H), .ref (b + 1), .int 0, .ref (b + 2), .null, .ref (b + 3), .null, .null, .ref (b + 5), .int 0, .int (-1)]))) 752 (zn_a (by decide) (by decide)) rfl ?_
  refine zr_dup F zd_OB_init_90 rfl ?_
  refine zr_callI0 F (c_XScene_init l D tA b _ 752 751 (by rfl)) zd_OB_init_91 zs_OB_48 rfl zq_XScene_init rfl rfl ⟨(Nat.le_of_ble_eq_true rfl), (Nat.le_of_ble_eq_true rfl)⟩ (Nat.le_of_ble_eq_true rfl) ⟨(Nat.le_of_ble_eq_true rfl), (Nat.le_of_ble_eq_true rfl)⟩ ?_
  refine zr_norm (zu (zu (zu (zb (zu (zu (zb (zu (zu (zb (zu (zu (zu (zu (zu (zu (zu (zu (zu (zu (zu (zu f 1 (.inl (tA 1, 65536, .inl (fun _ => 0)))) 3 (.inr (7, [.int 0, .int 0, .null, .null, .int 0, .int 0, .int 0, .null]))) 4 (.inl (tA 0, 3072, .inl (fun _ => 0)))) 3 (.inr (7, [.int 0, .int 0, .ref (b + 4), .null, .int 0, .int 0, .int 0, .null]))) 5 (.inr (4, [.null, .int 0, .null, .null, .int 0, .null, .null, .int 0, .int 0, .int 0, .int 0]))) 6 (.inl (tA 1, 7958, .inl (fun _ => 0)))) 7 (.inl (tA 0, 6912, .inl (fun _ => 0)))) 8 (.inl (tA 0, 6960, .inl (fun _ => 0)))) 9 (.inl (tA 0, 4096, .inl (fun _ => 0)))) 10 (.inl (tA 0, 6960, .inl (fun _ => 0)))) 5 (.inr (4, [.ref (b + 6), .int 0, .ref (b + 7), .ref (b + 8), .int 0, .ref (b + 9), .ref (b + 10), .int 0, .int 0, .int 0, .int 0]))) 11 (.inr (8, [.null, .null, .null, .null, .null, .null, .null, .null, .int 0, .int 0, .null]))) 12 (zsF tA b 12)) 11 (.inr (8, zsO b 12 0 0))) 381 (.inr (8, [.null, .null, .null, .null, .null, .null, .null, .null, .int 0, .int 0, .null]))) 382 (zsF tA b 382)) 381 (.inr (8, zsO b 382 0 0))) 751 (.inr (8, [.null, .null, .null, .null, .null, .null, .null, .null, .int 0, .int 0, .null]))) 752 (zsF tA b 752)) 751 (.inr (8, zsO b 752 0 0))) 2 (.inl (tA 4, 3, .inr (.inr (.inr (.inr (zscn b 2))))))) 0 (.inr (0, [.int (nI W), .int (nI H), .ref (b + 1), .int 0, .ref (b + 2), .null, .ref (b + 3), .null, .null, .ref (b + 5), .int 0, .int (-1)]))) 1121 (zn_ba (by decide) (by decide) (by decide)) rfl ?_
  refine zr_aast (ci := 8) (v := 751) F 4 zd_OB_init_94 (by rfl) rfl (by rfl) rfl (vp_in_nI (n := 2) (by decide) (by decide)) ?_
  refine zr_norm (zu (zu (zu (zb (zu (zu (zb (zu (zu (zb (zu (zu (zu (zu (zu (zu (zu (zu (zu (zu (zu (zu f 1 (.inl (tA 1, 65536, .inl (fun _ => 0)))) 3 (.inr (7, [.int 0, .int 0, .null, .null, .int 0, .int 0, .int 0, .null]))) 4 (.inl (tA 0, 3072, .inl (fun _ => 0)))) 3 (.inr (7, [.int 0, .int 0, .ref (b + 4), .null, .int 0, .int 0, .int 0, .null]))) 5 (.inr (4, [.null, .int 0, .null, .null, .int 0, .null, .null, .int 0, .int 0, .int 0, .int 0]))) 6 (.inl (tA 1, 7958, .inl (fun _ => 0)))) 7 (.inl (tA 0, 6912, .inl (fun _ => 0)))) 8 (.inl (tA 0, 6960, .inl (fun _ => 0)))) 9 (.inl (tA 0, 4096, .inl (fun _ => 0)))) 10 (.inl (tA 0, 6960, .inl (fun _ => 0)))) 5 (.inr (4, [.ref (b + 6), .int 0, .ref (b + 7), .ref (b + 8), .int 0, .ref (b + 9), .ref (b + 10), .int 0, .int 0, .int 0, .int 0]))) 11 (.inr (8, [.null, .null, .null, .null, .null, .null, .null, .null, .int 0, .int 0, .null]))) 12 (zsF tA b 12)) 11 (.inr (8, zsO b 12 0 0))) 381 (.inr (8, [.null, .null, .null, .null, .null, .null, .null, .null, .int 0, .int 0, .null]))) 382 (zsF tA b 382)) 381 (.inr (8, zsO b 382 0 0))) 751 (.inr (8, [.null, .null, .null, .null, .null, .null, .null, .null, .int 0, .int 0, .null]))) 752 (zsF tA b 752)) 751 (.inr (8, zsO b 752 0 0))) 2 (.inl (tA 4, 3, .inr (.inr (.inr (.inr (zscn b 3))))))) 0 (.inr (0, [.int (nI W), .int (nI H), .ref (b + 1), .int 0, .ref (b + 2), .null, .ref (b + 3), .null, .null, .ref (b + 5), .int 0, .int (-1)]))) 1121 (zn_2s (zscn_s b 2 751 (by decide) rfl)) rfl ?_
  refine zr_iinc (v := 3) F zd_OB_init_95 rfl (by decide) (by decide) ?_
  refine zr_goto F 73 zd_OB_init_98 (by decide) ?_
  refine zr_loc (L' := [(0, .ref (b + 0)), (3, .int 3)]) ⟨rfl, rfl, trivial⟩ ?_
  refine zr_iload_n F zd_OB_init_73 rfl ?_
  refine zr_aload_n F zd_OB_init_74 rfl ?_
  refine zr_get F 0 4 zd_OB_init_75 (by rfl) rfl (by decide) zw_492 rfl (by rfl) ?_
  refine zr_alen (v := 3) F 4 zd_OB_init_78 (by rfl) rfl (by rfl) ?_
  refine zr_icmp_ge F 101 zd_OB_init_79 (by decide) (fun _ => ?_) (fun h => absurd (by decide) h)
  refine zr_aload_n F zd_OB_init_101 rfl ?_
  refine zr_aload_n F zd_OB_init_102 rfl ?_
  refine zr_get F 0 4 zd_OB_init_103 (by rfl) rfl (by decide) zw_492 rfl (by rfl) ?_
  refine zr_iconstv (v := 0) F zd_OB_init_106 (by decide) ?_
  refine zr_aald (v := .ref (b + 11)) F 4 zd_OB_init_107 (by rfl) rfl rfl (vp_in_nI (n := 0) (by decide) (by decide)) (by rfl) ?_
  refine zr_put F 0 5 zd_OB_init_108 (by rfl) rfl (by decide) zw_493 rfl rfl rfl rfl (by exact (Nat.le_of_ble_eq_true rfl)) ?_
  refine zr_norm (zu (zu (zu (zb (zu (zu (zb (zu (zu (zb (zu (zu (zu (zu (zu (zu (zu (zu (zu (zu (zu (zu f 1 (.inl (tA 1, 65536, .inl (fun _ => 0)))) 3 (.inr (7, [.int 0, .int 0, .null, .null, .int 0, .int 0, .int 0, .null]))) 4 (.inl (tA 0, 3072, .inl (fun _ => 0)))) 3 (.inr (7, [.int 0, .int 0, .ref (b + 4), .null, .int 0, .int 0, .int 0, .null]))) 5 (.inr (4, [.null, .int 0, .null, .null, .int 0, .null, .null, .int 0, .int 0, .int 0, .int 0]))) 6 (.inl (tA 1, 7958, .inl (fun _ => 0)))) 7 (.inl (tA 0, 6912, .inl (fun _ => 0)))) 8 (.inl (tA 0, 6960, .inl (fun _ => 0)))) 9 (.inl (tA 0, 4096, .inl (fun _ => 0)))) 10 (.inl (tA 0, 6960, .inl (fun _ => 0)))) 5 (.inr (4, [.ref (b + 6), .int 0, .ref (b + 7), .ref (b + 8), .int 0, .ref (b + 9), .ref (b + 10), .int 0, .int 0, .int 0, .int 0]))) 11 (.inr (8, [.null, .null, .null, .null, .null, .null, .null, .null, .int 0, .int 0, .null]))) 12 (zsF tA b 12)) 11 (.inr (8, zsO b 12 0 0))) 381 (.inr (8, [.null, .null, .null, .null, .null, .null, .null, .null, .int 0, .int 0, .null]))) 382 (zsF tA b 382)) 381 (.inr (8, zsO b 382 0 0))) 751 (.inr (8, [.null, .null, .null, .null, .null, .null, .null, .null, .int 0, .int 0, .null]))) 752 (zsF tA b 752)) 751 (.inr (8, zsO b 752 0 0))) 2 (.inl (tA 4, 3, .inr (.inr (.inr (.inr (zscn b 3))))))) 0 (.inr (0, [.int (nI W), .int (nI H), .ref (b + 1), .int 0, .ref (b + 2), .ref (b + 11), .ref (b + 3), .null, .null, .ref (b + 5), .int 0, .int (-1)]))) 1121 (zu_zu _ _ _ _) rfl ?_
  refine zr_aload_n F zd_OB_init_111 rfl ?_
  refine zr_new (fs := [.null, .int 0, .null, .int 0, .int 0, .int 0, .int 0, .null, .null, .null, .null, .int 0, .int 0, .null, .null]) F 9 zd_OB_init_112 rfl zw_337 zw_338 zw_10 (zdef_XSight) (Nat.le_of_ble_eq_true rfl) (Nat.le_of_ble_eq_true rfl) ?_
  refine zr_norm (zu (zu (zu (zu (zb (zu (zu (zb (zu (zu (zb (zu (zu (zu (zu (zu (zu (zu (zu (zu (zu (zu (zu f 1 (.inl (tA 1, 65536, .inl (fun _ => 0)))) 3 (.inr (7, [.int 0, .int 0, .null, .null, .int 0, .int 0, .int 0, .null]))) 4 (.inl (tA 0, 3072, .inl (fun _ => 0)))) 3 (.inr (7, [.int 0, .int 0, .ref (b + 4), .null, .int 0, .int 0, .int 0, .null]))) 5 (.inr (4, [.null, .int 0, .null, .null, .int 0, .null, .null, .int 0, .int 0, .int 0, .int 0]))) 6 (.inl (tA 1, 7958, .inl (fun _ => 0)))) 7 (.inl (tA 0, 6912, .inl (fun _ => 0)))) 8 (.inl (tA 0, 6960, .inl (fun _ => 0)))) 9 (.inl (tA 0, 4096, .inl (fun _ => 0)))) 10 (.inl (tA 0, 6960, .inl (fun _ => 0)))) 5 (.inr (4, [.ref (b + 6), .int 0, .ref (b + 7), .ref (b + 8), .int 0, .ref (b + 9), .ref (b + 10), .int 0, .int 0, .int 0, .int 0]))) 11 (.inr (8, [.null, .null, .null, .null, .null, .null, .null, .null, .int 0, .int 0, .null]))) 12 (zsF tA b 12)) 11 (.inr (8, zsO b 12 0 0))) 381 (.inr (8, [.null, .null, .null, .null, .null, .null, .null, .null, .int 0, .int 0, .null]))) 382 (zsF tA b 382)) 381 (.inr (8, zsO b 382 0 0))) 751 (.inr (8, [.null, .null, .null, .null, .null, .null, .null, .null, .int 0, .int 0, .null]))) 752 (zsF tA b 752)) 751 (.inr (8, zsO b 752 0 0))) 1121 (.inr (9, [.null, .int 0, .null, .int 0, .int 0, .int 0, .int 0, .null, .null, .null, .null, .int 0, .int 0, .null, .null]))) 2 (.inl (tA 4, 3, .inr (.inr (.inr (.inr (zscn b 3))))))) 0 (.inr (0, [.int (nI W), .int (nI H), .ref (b + 1), .int 0, .ref (b + 2), .ref (b + 11), .ref (b + 3), .null, .null, .ref (b + 5), .int 0, .int (-1)]))) 1122 (zn_a (by decide) (by decide)) rfl ?_
  refine zr_dup F zd_OB_init_115 rfl ?_
  refine zr_aload_n F zd_OB_init_116 rfl ?_
  refine zr_get F 0 0 zd_OB_init_117 (by rfl) rfl (by decide) zw_488 rfl (by rfl) ?_
  refine zr_aload_n F zd_OB_init_120 rfl ?_
  refine zr_get F 0 1 zd_OB_init_121 (by rfl) rfl (by decide) zw_489 rfl (by rfl) ?_
  refine zr_callI0 F (c_XSight_init l D tA b _ 1122 1121 (nI W) (nI H) (by rfl)) zd_OB_init_124 zs_OB_55 rfl zq_XSight_init rfl rfl ⟨(Nat.le_of_ble_eq_true rfl), (Nat.le_of_ble_eq_true rfl)⟩ (Nat.le_of_ble_eq_true rfl) ⟨(Nat.le_of_ble_eq_true rfl), (Nat.le_of_ble_eq_true rfl)⟩ ?_
  refine zr_norm (zu (zu (zu (zb (zu (zu (zb (zu (zu (zb (zu (zu (zb (zu (zu (zu (zu (zu (zu (zu (zu (zu (zu (zu (zu f 1 (.inl (tA 1, 65536, .inl (fun _ => 0)))) 3 (.inr (7, [.int 0, .int 0, .null, .null, .int 0, .int 0, .int 0, .null]))) 4 (.inl (tA 0, 3072, .inl (fun _ => 0)))) 3 (.inr (7, [.int 0, .int 0, .ref (b + 4), .null, .int 0, .int 0, .int 0, .null]))) 5 (.inr (4, [.null, .int 0, .null, .null, .int 0, .null, .null, .int 0, .int 0, .int 0, .int 0]))) 6 (.inl (tA 1, 7958, .inl (fun _ => 0)))) 7 (.inl (tA 0, 6912, .inl (fun _ => 0)))) 8 (.inl (tA 0, 6960, .inl (fun _ => 0)))) 9 (.inl (tA 0, 4096, .inl (fun _ => 0)))) 10 (.inl (tA 0, 6960, .inl (fun _ => 0)))) 5 (.inr (4, [.ref (b + 6), .int 0, .ref (b + 7), .ref (b + 8), .int 0, .ref (b + 9), .ref (b + 10), .int 0, .int 0, .int 0, .int 0]))) 11 (.inr (8, [.null, .null, .null, .null, .null, .null, .null, .null, .int 0, .int 0, .null]))) 12 (zsF tA b 12)) 11 (.inr (8, zsO b 12 0 0))) 381 (.inr (8, [.null, .null, .null, .null, .null, .null, .null, .null, .int 0, .int 0, .null]))) 382 (zsF tA b 382)) 381 (.inr (8, zsO b 382 0 0))) 751 (.inr (8, [.null, .null, .null, .null, .null, .null, .null, .null, .int 0, .int 0, .null]))) 752 (zsF tA b 752)) 751 (.inr (8, zsO b 752 0 0))) 1121 (.inr (9, [.null, .int 0, .null, .int 0, .int 0, .int 0, .int 0, .null, .null, .null, .null, .int 0, .int 0, .null, .null]))) 1122 (sgL tA b 1122)) 1121 (.inr (9, sgO b 1122 (nI W) (nI H)))) 2 (.inl (tA 4, 3, .inr (.inr (.inr (.inr (zscn b 3))))))) 0 (.inr (0, [.int (nI W), .int (nI H), .ref (b + 1), .int 0, .ref (b + 2), .ref (b + 11), .ref (b + 3), .null, .null, .ref (b + 5), .int 0, .int (-1)]))) 1178 (zn_ba (by decide) (by decide) (by decide)) rfl ?_
  refine zr_putF F 0 7 zd_OB_init_127 (by rfl) rfl (by decide) zw_495 rfl rfl hin rfl rfl rfl (by exact (Nat.le_of_ble_eq_true rfl)) ?_
  refine zr_norm (zu (zu (zu (zb (zu (zu (zb (zu (zu (zb (zu (zu (zb (zu (zu (zu (zu (zu (zu (zu (zu (zu (zu (zu (zu f 1 (.inl (tA 1, 65536, .inl (fun _ => 0)))) 3 (.inr (7, [.int 0, .int 0, .null, .null, .int 0, .int 0, .int 0, .null]))) 4 (.inl (tA 0, 3072, .inl (fun _ => 0)))) 3 (.inr (7, [.int 0, .int 0, .ref (b + 4), .null, .int 0, .int 0, .int 0, .null]))) 5 (.inr (4, [.null, .int 0, .null, .null, .int 0, .null, .null, .int 0, .int 0, .int 0, .int 0]))) 6 (.inl (tA 1, 7958, .inl (fun _ => 0)))) 7 (.inl (tA 0, 6912, .inl (fun _ => 0)))) 8 (.inl (tA 0, 6960, .inl (fun _ => 0)))) 9 (.inl (tA 0, 4096, .inl (fun _ => 0)))) 10 (.inl (tA 0, 6960, .inl (fun _ => 0)))) 5 (.inr (4, [.ref (b + 6), .int 0, .ref (b + 7), .ref (b + 8), .int 0, .ref (b + 9), .ref (b + 10), .int 0, .int 0, .int 0, .int 0]))) 11 (.inr (8, [.null, .null, .null, .null, .null, .null, .null, .null, .int 0, .int 0, .null]))) 12 (zsF tA b 12)) 11 (.inr (8, zsO b 12 0 0))) 381 (.inr (8, [.null, .null, .null, .null, .null, .null, .null, .null, .int 0, .int 0, .null]))) 382 (zsF tA b 382)) 381 (.inr (8, zsO b 382 0 0))) 751 (.inr (8, [.null, .null, .null, .null, .null, .null, .null, .null, .int 0, .int 0, .null]))) 752 (zsF tA b 752)) 751 (.inr (8, zsO b 752 0 0))) 1121 (.inr (9, [.null, .int 0, .null, .int 0, .int 0, .int 0, .int 0, .null, .null, .null, .null, .int 0, .int 0, .null, .null]))) 1122 (sgL tA b 1122)) 1121 (.inr (9, sgO b 1122 (nI W) (nI H)))) 2 (.inl (tA 4, 3, .inr (.inr (.inr (.inr (zscn b 3))))))) 0 (.inr (0, [.int (nI W), .int (nI H), .ref (b + 1), .int 0, .ref (b + 2), .ref (b + 11), .ref (b + 3), .ref (b + 1121), .null, .ref (b + 5), .int 0, .int (-1)]))) 1178 (zu_zu _ _ _ _) rfl ?_
  refine zr_aload_n F zd_OB_init_130 rfl ?_
  refine zr_new (fs := [.int 0, .null, .null, .null, .int 0, .int 0, .int 0, .int 0, .null, .null, .int 0, .null, .int 0, .long 0, .int 0, .int 0, .int 0, .int 0]) F 5 zd_OB_init_131 rfl zw_419 zw_420 zw_12 (zdef_XPicture) (Nat.le_of_ble_eq_true rfl) (Nat.le_of_ble_eq_true rfl) ?_
  refine zr_norm (zu (zu (zu (zu (zb (zu (zu (zb (zu (zu (zb (zu (zu (zb (zu (zu (zu (zu (zu (zu (zu (zu (zu (zu (zu (zu f 1 (.inl (tA 1, 65536, .inl (fun _ => 0)))) 3 (.inr (7, [.int 0, .int 0, .null, .null, .int 0, .int 0, .int 0, .null]))) 4 (.inl (tA 0, 3072, .inl (fun _ => 0)))) 3 (.inr (7, [.int 0, .int 0, .ref (b + 4), .null, .int 0, .int 0, .int 0, .null]))) 5 (.inr (4, [.null, .int 0, .null, .null, .int 0, .null, .null, .int 0, .int 0, .int 0, .int 0]))) 6 (.inl (tA 1, 7958, .inl (fun _ => 0)))) 7 (.inl (tA 0, 6912, .inl (fun _ => 0)))) 8 (.inl (tA 0, 6960, .inl (fun _ => 0)))) 9 (.inl (tA 0, 4096, .inl (fun _ => 0)))) 10 (.inl (tA 0, 6960, .inl (fun _ => 0)))) 5 (.inr (4, [.ref (b + 6), .int 0, .ref (b + 7), .ref (b + 8), .int 0, .ref (b + 9), .ref (b + 10), .int 0, .int 0, .int 0, .int 0]))) 11 (.inr (8, [.null, .null, .null, .null, .null, .null, .null, .null, .int 0, .int 0, .null]))) 12 (zsF tA b 12)) 11 (.inr (8, zsO b 12 0 0))) 381 (.inr (8, [.null, .null, .null, .null, .null, .null, .null, .null, .int 0, .int 0, .null]))) 382 (zsF tA b 382)) 381 (.inr (8, zsO b 382 0 0))) 751 (.inr (8, [.null, .null, .null, .null, .null, .null, .null, .null, .int 0, .int 0, .null]))) 752 (zsF tA b 752)) 751 (.inr (8, zsO b 752 0 0))) 1121 (.inr (9, [.null, .int 0, .null, .int 0, .int 0, .int 0, .int 0, .null, .null, .null, .null, .int 0, .int 0, .null, .null]))) 1122 (sgL tA b 1122)) 1121 (.inr (9, sgO b 1122 (nI W) (nI H)))) 1178 (.inr (5, [.int 0, .null, .null, .null, .int 0, .int 0, .int 0, .int 0, .null, .null, .int 0, .null, .int 0, .long 0, .int 0, .int 0, .int 0, .int 0]))) 2 (.inl (tA 4, 3, .inr (.inr (.inr (.inr (zscn b 3))))))) 0 (.inr (0, [.int (nI W), .int (nI H), .ref (b + 1), .int 0, .ref (b + 2), .ref (b + 11), .ref (b + 3), .ref (b + 1121), .null, .ref (b + 5), .int 0, .int (-1)]))) 1179 (zn_a (by decide) (by decide)) rfl ?_
  refine zr_dup F zd_OB_init_134 rfl ?_
  refine zr_aload_n F zd_OB_init_135 rfl ?_
  refine zr_get F 0 0 zd_OB_init_136 (by rfl) rfl (by decide) zw_488 rfl (by rfl) ?_
  refine zr_aload_n F zd_OB_init_139 rfl ?_
  refine zr_get F 0 1 zd_OB_init_140 (by rfl) rfl (by decide) zw_489 rfl (by rfl) ?_
  refine zr_callI0 F (c_XPicture_init l D tA b _ 1179 1178 W H hWH (by rfl)) zd_OB_init_143 zs_OB_64 rfl zq_XPicture_init rfl rfl ⟨(Nat.le_of_ble_eq_true rfl), (Nat.le_of_ble_eq_true rfl)⟩ (Nat.le_of_ble_eq_true rfl) ⟨(Nat.le_of_ble_eq_true rfl), (Nat.le_of_ble_eq_true rfl)⟩ ?_
  refine zr_norm (zu (zu (zu (zb (zu (zu (zb (zu (zu (zb (zu (zu (zb (zu (zu (zb (zu (zu (zu (zu (zu (zu (zu (zu (zu (zu (zu (zu f 1 (.inl (tA 1, 65536, .inl (fun _ => 0)))) 3 (.inr (7, [.int 0, .int 0, .null, .null, .int 0, .int 0, .int 0, .null]))) 4 (.inl (tA 0, 3072, .inl (fun _ => 0)))) 3 (.inr (7, [.int 0, .int 0, .ref (b + 4), .null, .int 0, .int 0, .int 0, .null]))) 5 (.inr (4, [.null, .int 0, .null, .null, .int 0, .null, .null, .int 0, .int 0, .int 0, .int 0]))) 6 (.inl (tA 1, 7958, .inl (fun _ => 0)))) 7 (.inl (tA 0, 6912, .inl (fun _ => 0)))) 8 (.inl (tA 0, 6960, .inl (fun _ => 0)))) 9 (.inl (tA 0, 4096, .inl (fun _ => 0)))) 10 (.inl (tA 0, 6960, .inl (fun _ => 0)))) 5 (.inr (4, [.ref (b + 6), .int 0, .ref (b + 7), .ref (b + 8), .int 0, .ref (b + 9), .ref (b + 10), .int 0, .int 0, .int 0, .int 0]))) 11 (.inr (8, [.null, .null, .null, .null, .null, .null, .null, .null, .int 0, .int 0, .null]))) 12 (zsF tA b 12)) 11 (.inr (8, zsO b 12 0 0))) 381 (.inr (8, [.null, .null, .null, .null, .null, .null, .null, .null, .int 0, .int 0, .null]))) 382 (zsF tA b 382)) 381 (.inr (8, zsO b 382 0 0))) 751 (.inr (8, [.null, .null, .null, .null, .null, .null, .null, .null, .int 0, .int 0, .null]))) 752 (zsF tA b 752)) 751 (.inr (8, zsO b 752 0 0))) 1121 (.inr (9, [.null, .int 0, .null, .int 0, .int 0, .int 0, .int 0, .null, .null, .null, .null, .int 0, .int 0, .null, .null]))) 1122 (sgL tA b 1122)) 1121 (.inr (9, sgO b 1122 (nI W) (nI H)))) 1178 (.inr (5, [.int 0, .null, .null, .null, .int 0, .int 0, .int 0, .int 0, .null, .null, .int 0, .null, .int 0, .long 0, .int 0, .int 0, .int 0, .int 0]))) 1179 (pcL tA b 1179 W H)) 1178 (.inr (5, pcO b 1179 W H))) 2 (.inl (tA 4, 3, .inr (.inr (.inr (.inr (zscn b 3))))))) 0 (.inr (0, [.int (nI W), .int (nI H), .ref (b + 1), .int 0, .ref (b + 2), .ref (b + 11), .ref (b + 3), .ref (b + 1121), .null, .ref (b + 5), .int 0, .int (-1)]))) 1185 (zn_ba (by decide) (by decide) (by decide)) rfl ?_
  refine zr_putF F 0 8 zd_OB_init_146 (by rfl) rfl (by decide) zw_496 rfl rfl hin rfl rfl rfl (by exact (Nat.le_of_ble_eq_true rfl)) ?_
  refine zr_norm (zu (zu (zu (zb (zu (zu (zb (zu (zu (zb (zu (zu (zb (zu (zu (zb (zu (zu (zu (zu (zu (zu (zu (zu (zu (zu (zu (zu f 1 (.inl (tA 1, 65536, .inl (fun _ => 0)))) 3 (.inr (7, [.int 0, .int 0, .null, .null, .int 0, .int 0, .int 0, .null]))) 4 (.inl (tA 0, 3072, .inl (fun _ => 0)))) 3 (.inr (7, [.int 0, .int 0, .ref (b + 4), .null, .int 0, .int 0, .int 0, .null]))) 5 (.inr (4, [.null, .int 0, .null, .null, .int 0, .null, .null, .int 0, .int 0, .int 0, .int 0]))) 6 (.inl (tA 1, 7958, .inl (fun _ => 0)))) 7 (.inl (tA 0, 6912, .inl (fun _ => 0)))) 8 (.inl (tA 0, 6960, .inl (fun _ => 0)))) 9 (.inl (tA 0, 4096, .inl (fun _ => 0)))) 10 (.inl (tA 0, 6960, .inl (fun _ => 0)))) 5 (.inr (4, [.ref (b + 6), .int 0, .ref (b + 7), .ref (b + 8), .int 0, .ref (b + 9), .ref (b + 10), .int 0, .int 0, .int 0, .int 0]))) 11 (.inr (8, [.null, .null, .null, .null, .null, .null, .null, .null, .int 0, .int 0, .null]))) 12 (zsF tA b 12)) 11 (.inr (8, zsO b 12 0 0))) 381 (.inr (8, [.null, .null, .null, .null, .null, .null, .null, .null, .int 0, .int 0, .null]))) 382 (zsF tA b 382)) 381 (.inr (8, zsO b 382 0 0))) 751 (.inr (8, [.null, .null, .null, .null, .null, .null, .null, .null, .int 0, .int 0, .null]))) 752 (zsF tA b 752)) 751 (.inr (8, zsO b 752 0 0))) 1121 (.inr (9, [.null, .int 0, .null, .int 0, .int 0, .int 0, .int 0, .null, .null, .null, .null, .int 0, .int 0, .null, .null]))) 1122 (sgL tA b 1122)) 1121 (.inr (9, sgO b 1122 (nI W) (nI H)))) 1178 (.inr (5, [.int 0, .null, .null, .null, .int 0, .int 0, .int 0, .int 0, .null, .null, .int 0, .null, .int 0, .long 0, .int 0, .int 0, .int 0, .int 0]))) 1179 (pcL tA b 1179 W H)) 1178 (.inr (5, pcO b 1179 W H))) 2 (.inl (tA 4, 3, .inr (.inr (.inr (.inr (zscn b 3))))))) 0 (.inr (0, [.int (nI W), .int (nI H), .ref (b + 1), .int 0, .ref (b + 2), .ref (b + 11), .ref (b + 3), .ref (b + 1121), .ref (b + 1178), .ref (b + 5), .int 0, .int (-1)]))) 1185 (zu_zu _ _ _ _) rfl ?_
  exact zr_vret F hr zd_OB_init_149 (Nat.le_of_ble_eq_true rfl) (Nat.le_of_ble_eq_true rfl) ⟨rfl, rfl, rfl⟩
