theorem zb_lo {f : zV} {n : Nat} {l : List va_E} {a : Nat} (h : a < n) : zb f n l a = f a := by unfold zb; rw [if_pos h]
theorem zb_in {f : zV} {n : Nat} {l : List va_E} {i : Nat} {x : va_E} (h : l[i]? = some x) : zb f n l (n + i) = some x := by
  unfold zb
  rw [if_neg (by omega), show n + i - n = i by omega, h]
theorem zb_out {f : zV} {n : Nat} {l : List va_E} {a : Nat} (h : n + l.length ≤ a) : zb f n l a = f a := by
  unfold zb
  rw [if_neg (by omega), List.getElem?_eq_none (by omega)]
theorem zb_ext {f : zV} {n : Nat} {l l' : List va_E} (h : ∀ i : Nat, l[i]? = l'[i]?) : zb f n l = zb f n l' := by
  funext a
  unfold zb
  rw [h]
/-- a cell is made behind the block -/
theorem zb_p {f : zV} {n q : Nat} {l : List va_E} {A : va_E} (hq : n + l.length = q) : zu (zb f n l) q A = zb f n (l ++ [A]) := by
  subst hq
  funext a
  by_cases h2 : a = n + l.length
  · subst h2
    rw [zu_s]
    exact (zb_in (by simp)).symm
  · rw [zu_n _ h2]
    unfold zb
    by_cases h3 : a < n
    · rw [if_pos h3, if_pos h3]
    · rw [if_neg h3, if_neg h3]
      by_cases h4 : a - n < l.length
      · rw [List.getElem?_append_left h4]
      · rw [List.getElem?_eq_none (by omega), List.getElem?_eq_none (by rw [List.length_append]; simp; omega)]
/-- a cell of the block is written -/
theorem zb_w {f : zV} {n q i : Nat} {l : List va_E} {A : va_E} (hq : n + i = q) (hi : i < l.length) : zu (zb f n l) q A = zb f n (l.set i A) := by
  subst hq
  funext a
  by_cases h2 : a = n + i
  · subst h2
    rw [zu_s]
    exact (zb_in (by simp [hi])).symm
  · rw [zu_n _ h2]
    unfold zb
    by_cases h3 : a < n
    · rw [if_pos h3, if_pos h3]
    · rw [if_neg h3, if_neg h3, List.getElem?_set_ne (by omega)]
/-- the same under the object that is made -/
theorem zb_a {f : zV} {n k q : Nat} {l l' : List va_E} {o A : va_E} (hk : k < n) (hq : n + l.length = q) (hl : l ++ [A] = l') : zu (zu (zb f n l) k o) q A = zu (zb f n l') k o := by
  rw [zu_swap (by omega), zb_p hq, hl]
theorem zb_s {f : zV} {n k q i : Nat} {l l' : List va_E} {o A : va_E} (hk : k < n) (hq : n + i = q) (hi : i < l.length) (hl : l.set i A = l') : zu (zu (zb f n l) k o) q A = zu (zb f n l') k o := by
  rw [zu_swap (by omega), zb_w hq hi, hl]
theorem zb_g {f : zV} {n k q i : Nat} {l : List va_E} {o x : va_E} (hk : k < n) (hq : n + i = q) (h : l[i]? = some x) : zu (zb f n l) k o q = some x := by
  subst hq
  rw [zu_n _ (by omega)]
  exact zb_in h
def zrow (tA : Nat → ClassId) (K : Nat) : va_E := .inl (tA 0, K, .inl (fun _ => 0))
def zouter (tA : Nat → ClassId) (b q N : Nat) : va_E := .inl (tA 9, N, .inr (.inr (.inr (.inr (fun j => if j < N then some (b + (q + 1 + j)) else none)))))
theorem zb_m {f : zV} {n k q N K b : Nat} {tA : Nat → ClassId} {l l' : List va_E} {o : va_E} (hk : k < n) (hq : n + l.length = q) (hl : l ++ (zouter tA b q N :: List.replicate N (zrow tA K)) = l') : zmw tA b (zu (zb f n l) k o) q N K = zu (zb f n l') k o := by
  subst hq
  subst hl
  funext a
  unfold zmw
  by_cases h1 : a = n + l.length
  · rw [if_pos h1, zu_n _ (by omega), h1]
    exact (zb_in (by simp [zouter])).symm
  · rw [if_neg h1]
    by_cases h2 : n + l.length < a ∧ a < n + l.length + 1 + N
    · rw [if_pos h2, zu_n _ (by omega)]
      have e : a = n + (a - n) := by omega
      rw [e]
      refine (zb_in ?_).symm
      rw [List.getElem?_append_right (by omega)]
      rw [show a - n - l.length = (a - n - l.length - 1) + 1 by omega, List.getElem?_cons_succ, List.getElem?_replicate, if_pos (by omega)]
      rfl
    · rw [if_neg h2]
      by_cases h3 : a = k
      · subst h3
        rw [zu_s, zu_s]
      · rw [zu_n _ h3, zu_n _ h3]
        unfold zb
        by_cases h4 : a < n
        · rw [if_pos h4, if_pos h4]
        · rw [if_neg h4, if_neg h4]
          by_cases h5 : a - n < l.length
          · rw [List.getElem?_append_left h5]
          · rw [List.getElem?_eq_none (by omega), List.getElem?_eq_none (by rw [List.length_append, List.length_cons, List.length_replicate]; omega)]
theorem zr_cs {p : Program} {l : Launch} {e : Env} {R : Room} {s : State} {m : MethodId} {args : Array Value} {below : List Frame} {meth : Method} {c : Code} {Q : State → Prop} {nL : Nat} {D : va_G} {b : Nat} {n cells slots pc : Nat} {L : List (Nat × Value)} {st : List Value} {f : zV} (cells' slots' : Nat) (h1 : cells = cells') (h2 : slots = slots') (kk : Z p l e R s m args below meth c D b nL Q f n cells' slots' pc L st) : Z p l e R s m args below meth c D b nL Q f n cells slots pc L st := by
  subst h1
  subst h2
  exact kk
abbrev zb_XSight_init : ByteArray := prog_10_method_1_code
def zy_XSight_init : MethodName := ⟨"OrreryBox$Sight", "<init>", "(II)V"⟩
theorem zc_XSight_init : Cond.code zy_XSight_init zb_XSight_init 3 none ∈ gw := gw_t 341 (by decide +kernel) rfl
theorem zq_XSight_init : zy_XSight_init.cls ≠ "java/lang/invoke/MethodHandle" ∧ zy_XSight_init.cls ≠ "java/lang/invoke/VarHandle" ∧ (parseMethodDescriptor zy_XSight_init.desc).map (fun d => d.parameters.length) = some 2 := by decide +kernel
theorem zd_XSight_init_0 : decode zb_XSight_init 0 = .ok (.aload_n 0, 1) := by decide +kernel
theorem zd_XSight_init_1 : decode zb_XSight_init 1 = .ok (.invokespecial 3, 3) := by decide +kernel
theorem zd_XSight_init_4 : decode zb_XSight_init 4 = .ok (.aload_n 0, 1) := by decide +kernel
theorem zd_XSight_init_5 : decode zb_XSight_init 5 = .ok (.new 9, 3) := by decide +kernel
theorem zd_XSight_init_8 : decode zb_XSight_init 8 = .ok (.dup, 1) := by decide +kernel
theorem zd_XSight_init_9 : decode zb_XSight_init 9 = .ok (.invokespecial 11, 3) := by decide +kernel
theorem zd_XSight_init_12 : decode zb_XSight_init 12 = .ok (.putfield 12, 3) := by decide +kernel
theorem zd_XSight_init_15 : decode zb_XSight_init 15 = .ok (.aload_n 0, 1) := by decide +kernel
theorem zd_XSight_init_16 : decode zb_XSight_init 16 = .ok (.sipush 144, 3) := by decide +kernel
theorem zd_XSight_init_19 : decode zb_XSight_init 19 = .ok (.newarray .int, 2) := by decide +kernel
theorem zd_XSight_init_21 : decode zb_XSight_init 21 = .ok (.putfield 18, 3) := by decide +kernel
theorem zd_XSight_init_24 : decode zb_XSight_init 24 = .ok (.aload_n 0, 1) := by decide +kernel
theorem zd_XSight_init_25 : decode zb_XSight_init 25 = .ok (.bipush 12, 2) := by decide +kernel
theorem zd_XSight_init_27 : decode zb_XSight_init 27 = .ok (.newarray .int, 2) := by decide +kernel
theorem zd_XSight_init_29 : decode zb_XSight_init 29 = .ok (.putfield 22, 3) := by decide +kernel
theorem zd_XSight_init_32 : decode zb_XSight_init 32 = .ok (.aload_n 0, 1) := by decide +kernel
theorem zd_XSight_init_33 : decode zb_XSight_init 33 = .ok (.getstatic 25, 3) := by decide +kernel
theorem zd_XSight_init_36 : decode zb_XSight_init 36 = .ok (.iconst 3, 1) := by decide +kernel
theorem zd_XSight_init_37 : decode zb_XSight_init 37 = .ok (.iaload, 1) := by decide +kernel
theorem zd_XSight_init_38 : decode zb_XSight_init 38 = .ok (.bipush 12, 2) := by decide +kernel
theorem zd_XSight_init_40 : decode zb_XSight_init 40 = .ok (.multianewarray 28 2, 4) := by decide +kernel
theorem zd_XSight_init_44 : decode zb_XSight_init 44 = .ok (.putfield 30, 3) := by decide +kernel
theorem zd_XSight_init_47 : decode zb_XSight_init 47 = .ok (.aload_n 0, 1) := by decide +kernel
theorem zd_XSight_init_48 : decode zb_XSight_init 48 = .ok (.getstatic 25, 3) := by decide +kernel
theorem zd_XSight_init_51 : decode zb_XSight_init 51 = .ok (.iconst 3, 1) := by decide +kernel
theorem zd_XSight_init_52 : decode zb_XSight_init 52 = .ok (.iaload, 1) := by decide +kernel
theorem zd_XSight_init_53 : decode zb_XSight_init 53 = .ok (.newarray .int, 2) := by decide +kernel
theorem zd_XSight_init_55 : decode zb_XSight_init 55 = .ok (.putfield 33, 3) := by decide +kernel
theorem zd_XSight_init_58 : decode zb_XSight_init 58 = .ok (.aload_n 0, 1) := by decide +kernel
theorem zd_XSight_init_59 : decode zb_XSight_init 59 = .ok (.sipush 512, 3) := by decide +kernel
theorem zd_XSight_init_62 : decode zb_XSight_init 62 = .ok (.newarray .int, 2) := by decide +kernel
theorem zd_XSight_init_64 : decode zb_XSight_init 64 = .ok (.putfield 36, 3) := by decide +kernel
theorem zd_XSight_init_67 : decode zb_XSight_init 67 = .ok (.aload_n 0, 1) := by decide +kernel
theorem zd_XSight_init_68 : decode zb_XSight_init 68 = .ok (.sipush 144, 3) := by decide +kernel
theorem zd_XSight_init_71 : decode zb_XSight_init 71 = .ok (.newarray .int, 2) := by decide +kernel
theorem zd_XSight_init_73 : decode zb_XSight_init 73 = .ok (.putfield 39, 3) := by decide +kernel
theorem zd_XSight_init_76 : decode zb_XSight_init 76 = .ok (.aload_n 0, 1) := by decide +kernel
theorem zd_XSight_init_77 : decode zb_XSight_init 77 = .ok (.iload_n 1, 1) := by decide +kernel
theorem zd_XSight_init_78 : decode zb_XSight_init 78 = .ok (.putfield 42, 3) := by decide +kernel
theorem zd_XSight_init_81 : decode zb_XSight_init 81 = .ok (.aload_n 0, 1) := by decide +kernel
theorem zd_XSight_init_82 : decode zb_XSight_init 82 = .ok (.iload_n 2, 1) := by decide +kernel
theorem zd_XSight_init_83 : decode zb_XSight_init 83 = .ok (.putfield 46, 3) := by decide +kernel
theorem zd_XSight_init_86 : decode zb_XSight_init 86 = .ok (.return_, 1) := by decide +kernel
theorem zdef_XSight : ∀ j, j < 15 → defaultValue (zk_ty 9 j) = vp_V [.null, .int 0, .null, .int 0, .int 0, .int 0, .int 0, .null, .null, .null, .null, .int 0, .int 0, .null, .null] j := by
  intro j hj
  match j, hj with
  | 0, _ => rfl
  | 1, _ => rfl
  | 2, _ => rfl
  | 3, _ => rfl
  | 4, _ => rfl
  | 5, _ => rfl
  | 6, _ => rfl
  | 7, _ => rfl
  | 8, _ => rfl
  | 9, _ => rfl
  | 10, _ => rfl
  | 11, _ => rfl
  | 12, _ => rfl
  | 13, _ => rfl
  | 14, _ => rfl
  | k + 15, h => exact absurd h (by omega)
theorem zw_342 : (Jvm.Cond.methodLink "OrreryBox$Sight" (3 : Nat) ({ cls := "java/lang/Object", name := "<init>", desc := "()V" } : Jvm.MethodName)) ∈ gw := gw_t 342 (by decide +kernel) rfl
theorem zw_343 : (Jvm.Cond.classLink "OrreryBox$Sight" (9 : Nat) "OrreryBox$Piece") ∈ gw := gw_t 343 (by decide +kernel) rfl
theorem zw_344 : (Jvm.Cond.instantiable "OrreryBox$Piece" (6 : Nat)) ∈ gw := gw_t 344 (by decide +kernel) rfl
theorem zw_11 : (Jvm.Cond.initialized "OrreryBox$Piece") ∈ gw := gw_t 11 (by decide +kernel) rfl
theorem zw_345 : (Jvm.Cond.methodLinkNest "OrreryBox$Sight" (11 : Nat) ({ cls := "OrreryBox$Piece", name := "<init>", desc := "()V" } : Jvm.MethodName) "OrreryBox") ∈ gn := gn_t 345 (by decide +kernel) rfl
theorem zw_346 : (Jvm.Cond.instanceMethod ({ cls := "OrreryBox$Piece", name := "<init>", desc := "()V" } : Jvm.MethodName)) ∈ gw := gw_t 346 (by decide +kernel) rfl
theorem zs_XSight_11 : zwIN "OrreryBox$Sight" 11 zy_XPiece_init "OrreryBox" zb_XPiece_init 1 := ⟨zw_345, zw_346, zw_11, zc_XPiece_init⟩
theorem zw_371 : (Jvm.Cond.fieldLink "OrreryBox$Sight" (12 : Nat) "OrreryBox$Sight" "piece" "LOrreryBox$Piece;") ∈ gw := gw_t 371 (by decide +kernel) rfl
theorem zw_375 : (Jvm.Cond.fieldLink "OrreryBox$Sight" (18 : Nat) "OrreryBox$Sight" "corners" "[I") ∈ gw := gw_t 375 (by decide +kernel) rfl
theorem zw_381 : (Jvm.Cond.fieldLink "OrreryBox$Sight" (22 : Nat) "OrreryBox$Sight" "view" "[I") ∈ gw := gw_t 381 (by decide +kernel) rfl
theorem zw_369 : (Jvm.Cond.fieldLinkNest "OrreryBox$Sight" (25 : Nat) "OrreryBox" "LIMITS" "[I" "OrreryBox") ∈ gn := gn_t 369 (by decide +kernel) rfl
theorem zw_370 : (Jvm.Cond.classLink "OrreryBox$Sight" (28 : Nat) "[[I") ∈ gw := gw_t 370 (by decide +kernel) rfl
theorem zw_382 : (Jvm.Cond.fieldLink "OrreryBox$Sight" (30 : Nat) "OrreryBox$Sight" "sights" "[[I") ∈ gw := gw_t 382 (by decide +kernel) rfl
theorem zw_383 : (Jvm.Cond.fieldLink "OrreryBox$Sight" (33 : Nat) "OrreryBox$Sight" "order" "[I") ∈ gw := gw_t 383 (by decide +kernel) rfl
theorem zw_386 : (Jvm.Cond.fieldLink "OrreryBox$Sight" (36 : Nat) "OrreryBox$Sight" "stood" "[I") ∈ gw := gw_t 386 (by decide +kernel) rfl
theorem zw_387 : (Jvm.Cond.fieldLink "OrreryBox$Sight" (39 : Nat) "OrreryBox$Sight" "cutCorners" "[I") ∈ gw := gw_t 387 (by decide +kernel) rfl
theorem zw_378 : (Jvm.Cond.fieldLink "OrreryBox$Sight" (42 : Nat) "OrreryBox$Sight" "width" "I") ∈ gw := gw_t 378 (by decide +kernel) rfl
theorem zw_379 : (Jvm.Cond.fieldLink "OrreryBox$Sight" (46 : Nat) "OrreryBox$Sight" "height" "I") ∈ gw := gw_t 379 (by decide +kernel) rfl
def sgL (tA : Nat → ClassId) (b n : Nat) : List va_E := (([.inr (6, [.long 0, .ref (b + (n + 1)), .long 0, .long 0, .long 0, .long 0]), .inl (tA 0, 18, .inl (fun _ => 0)), .inl (tA 0, 144, .inl (fun _ => 0)), .inl (tA 0, 12, .inl (fun _ => 0))] ++ (zouter tA b (n + 4) 48 :: List.replicate 48 (zrow tA 12))) ++ [.inl (tA 0, 48, .inl (fun _ => 0)), .inl (tA 0, 512, .inl (fun _ => 0)), .inl (tA 0, 144, .inl (fun _ => 0))])
def sgO (b n : Nat) (w h : Int32) : List Value := [.ref (b + (n)), .int 0, .ref (b + (n + 2)), .int 0, .int 0, .int w, .int h, .null, .ref (b + (n + 3)), .ref (b + (n + 4)), .ref (b + (n + 53)), .int 0, .int 0, .ref (b + (n + 54)), .ref (b + (n + 55))]
set_option maxHeartbeats 4000000 in
set_option maxRecDepth 100000 in
theorem c_XSight_init (l : Launch) (D : va_G) (tA : Nat → ClassId) (b : Nat) (f : zV) (n : Nat) (k : Nat) (w h : Int32) (hf : f k = some (.inr (9, [.null, .int 0, .null, .int 0, .int 0, .int 0, .int 0, .null, .null, .null, .null, .int 0, .int 0, .null, .null]))) : zM l D tA b zy_XSight_init zb_XSight_init 3 none 2 40 56 1508 [.ref (b + k), .int w, .int h] f n (zE none (zu (zb f n (sgL tA b n)) k (.inr (9, sgO b n w h))) (n + 56)) := by
  refine zM_of (own := "OrreryBox$Sight") (plainFor_of_name (by decide)) rfl (Nat.le_of_ble_eq_true rfl) (fun p e s m below meth c F hr hin hH => ?_)
  have hk := hH.lt hf
  refine zr_aload_n F zd_XSight_init_0 rfl ?_
  refine zr_objInit F zd_XSight_init_1 zw_342 zw_35 zw_36 (Nat.le_of_ble_eq_true rfl) (Nat.le_of_ble_eq_true rfl) ?_
  refine zr_norm (zu (zb f n []) k (.inr (9, [.null, .int 0, .null, .int 0, .int 0, .int 0, .int 0, .null, .null, .null, .null, .int 0, .int 0, .null, .null]))) (n) (zb_0 hf) rfl ?_
  refine zr_aload_n F zd_XSight_init_4 rfl ?_
  refine zr_new (fs := [.long 0, .null, .long 0, .long 0, .long 0, .long 0]) F 6 zd_XSight_init_5 rfl zw_343 zw_344 zw_11 (zdef_XPiece) (Nat.le_of_ble_eq_true rfl) (Nat.le_of_ble_eq_true rfl) ?_
  refine zr_norm (zu (zb f n [.inr (6, [.long 0, .null, .long 0, .long 0, .long 0, .long 0])]) k (.inr (9, [.null, .int 0, .null, .int 0, .int 0, .int 0, .int 0, .null, .null, .null, .null, .int 0, .int 0, .null, .null]))) (n + 1) (zb_a hk rfl rfl) rfl ?_
  refine zr_dup F zd_XSight_init_8 rfl ?_
  refine zr_callIN0 F (c_XPiece_init l D tA b _ _ (n) (zb_g (i := 0) hk rfl rfl)) zd_XSight_init_9 zs_XSight_11 rfl zq_XPiece_init rfl rfl ⟨(Nat.le_of_ble_eq_true rfl), (Nat.le_of_ble_eq_true rfl)⟩ (Nat.le_of_ble_eq_true rfl) ⟨(Nat.le_of_ble_eq_true rfl), (Nat.le_of_ble_eq_true rfl)⟩ ?_
  refine zr_norm (zu (zu (zb f n [.inr (6, [.long 0, .null, .long 0, .long 0, .long 0, .long 0]), .inl (tA 0, 18, .inl (fun _ => 0))]) k (.inr (9, [.null, .int 0, .null, .int 0, .int 0, .int 0, .int 0, .null, .null, .null, .null, .int 0, .int 0, .null, .null]))) (n) (.inr (6, [.long 0, .ref (b + (n + 1)), .long 0, .long 0, .long 0, .long 0]))) (n + 2) (congrArg (fun g => zu g (n) (.inr (6, [.long 0, .ref (b + (n + 1)), .long 0, .long 0, .long 0, .long 0]))) (zb_a hk rfl rfl)) rfl ?_
  refine zr_norm (zu (zb f n [.inr (6, [.long 0, .ref (b + (n + 1)), .long 0, .long 0, .long 0, .long 0]), .inl (tA 0, 18, .inl (fun _ => 0))]) k (.inr (9, [.null, .int 0, .null, .int 0, .int 0, .int 0, .int 0, .null, .null, .null, .null, .int 0, .int 0, .null, .null]))) (n + 2) (zb_s (i := 0) hk rfl (Nat.le_of_ble_eq_true rfl) rfl) rfl ?_
  refine zr_putF F 9 0 zd_XSight_init_12 (zu_s _ _ _) rfl (by decide) zw_371 rfl rfl hin rfl rfl rfl (by exact (Nat.le_of_ble_eq_true rfl)) ?_
  refine zr_norm (zu (zb f n [.inr (6, [.long 0, .ref (b + (n + 1)), .long 0, .long 0, .long 0, .long 0]), .inl (tA 0, 18, .inl (fun _ => 0))]) k (.inr (9, [.ref (b + (n)), .int 0, .null, .int 0, .int 0, .int 0, .int 0, .null, .null, .null, .null, .int 0, .int 0, .null, .null]))) (n + 2) (zu_zu _ _ _ _) rfl ?_
  refine zr_aload_n F zd_XSight_init_15 rfl ?_
  refine zr_sipushv (v := 144) F zd_XSight_init_16 (by decide) ?_
  refine zr_newa (N := 144) (a0 := (144, .inl (fun _ => 0))) F 0 zd_XSight_init_19 rfl rfl zw_74 (fun _ => rfl) (by decide) (by decide) (Nat.le_of_ble_eq_true rfl) (Nat.le_of_ble_eq_true rfl) (Nat.le_of_ble_eq_true rfl) ?_
  refine zr_norm (zu (zb f n [.inr (6, [.long 0, .ref (b + (n + 1)), .long 0, .long 0, .long 0, .long 0]), .inl (tA 0, 18, .inl (fun _ => 0)), .inl (tA 0, 144, .inl (fun _ => 0))]) k (.inr (9, [.ref (b + (n)), .int 0, .null, .int 0, .int 0, .int 0, .int 0, .null, .null, .null, .null, .int 0, .int 0, .null, .null]))) (n + 3) (zb_a hk rfl rfl) rfl ?_
  refine zr_put F 9 2 zd_XSight_init_21 (zu_s _ _ _) rfl (by decide) zw_375 rfl rfl rfl rfl (by exact (Nat.le_of_ble_eq_true rfl)) ?_
  refine zr_norm (zu (zb f n [.inr (6, [.long 0, .ref (b + (n + 1)), .long 0, .long 0, .long 0, .long 0]), .inl (tA 0, 18, .inl (fun _ => 0)), .inl (tA 0, 144, .inl (fun _ => 0))]) k (.inr (9, [.ref (b + (n)), .int 0, .ref (b + (n + 2)), .int 0, .int 0, .int 0, .int 0, .null, .null, .null, .null, .int 0, .int 0, .null, .null]))) (n + 3) (zu_zu _ _ _ _) rfl ?_
  refine zr_aload_n F zd_XSight_init_24 rfl ?_
  refine zr_bipushv (v := 12) F zd_XSight_init_25 (by decide) ?_
  refine zr_newa (N := 12) (a0 := (12, .inl (fun _ => 0))) F 0 zd_XSight_init_27 rfl rfl zw_74 (fun _ => rfl) (by decide) (by decide) (Nat.le_of_ble_eq_true rfl) (Nat.le_of_ble_eq_true rfl) (Nat.le_of_ble_eq_true rfl) ?_
  refine zr_norm (zu (zb f n [.inr (6, [.long 0, .ref (b + (n + 1)), .long 0, .long 0, .long 0, .long 0]), .inl (tA 0, 18, .inl (fun _ => 0)), .inl (tA 0, 144, .inl (fun _ => 0)), .inl (tA 0, 12, .inl (fun _ => 0))]) k (.inr (9, [.ref (b + (n)), .int 0, .ref (b + (n + 2)), .int 0, .int 0, .int 0, .int 0, .null, .null, .null, .null, .int 0, .int 0, .null, .null]))) (n + 4) (zb_a hk rfl rfl) rfl ?_
  refine zr_putF F 9 8 zd_XSight_init_29 (zu_s _ _ _) rfl (by decide) zw_381 rfl rfl hin rfl rfl rfl (by exact (Nat.le_of_ble_eq_true rfl)) ?_
  refine zr_norm (zu (zb f n [.inr (6, [.long 0, .ref (b + (n + 1)), .long 0, .long 0, .long 0, .long 0]), .inl (tA 0, 18, .inl (fun _ => 0)), .inl (tA 0, 144, .inl (fun _ => 0)), .inl (tA 0, 12, .inl (fun _ => 0))]) k (.inr (9, [.ref (b + (n)), .int 0, .ref (b + (n + 2)), .int 0, .int 0, .int 0, .int 0, .null, .ref (b + (n + 3)), .null, .null, .int 0, .int 0, .null, .null]))) (n + 4) (zu_zu _ _ _ _) rfl ?_
  refine zr_aload_n F zd_XSight_init_32 rfl ?_
  refine zr_gl F zd_XSight_init_33 zw_369 (fun tl hT => ?_)
  refine zr_iconstv (v := 3) F zd_XSight_init_36 (by decide) ?_
  refine zr_ti (v := .int 48) F zd_XSight_init_37 hT (vp_in_nI (n := 3) (by decide) (by decide)) rfl ?_
  refine zr_bipushv (v := 12) F zd_XSight_init_38 (by decide) ?_
  refine zr_multi (N := 48) (K := 12) F zd_XSight_init_40 zw_370 (by decide) (by decide) (by decide) (by decide) (Nat.le_of_ble_eq_true rfl) (Nat.le_of_ble_eq_true rfl) (Nat.le_of_ble_eq_true rfl) (Nat.le_of_ble_eq_true rfl) ?_
  refine zr_norm (zu (zb f n ([.inr (6, [.long 0, .ref (b + (n + 1)), .long 0, .long 0, .long 0, .long 0]), .inl (tA 0, 18, .inl (fun _ => 0)), .inl (tA 0, 144, .inl (fun _ => 0)), .inl (tA 0, 12, .inl (fun _ => 0))] ++ (zouter tA b (n + 4) 48 :: List.replicate 48 (zrow tA 12)))) k (.inr (9, [.ref (b + (n)), .int 0, .ref (b + (n + 2)), .int 0, .int 0, .int 0, .int 0, .null, .ref (b + (n + 3)), .null, .null, .int 0, .int 0, .null, .null]))) (n + 53) (zb_m hk rfl rfl) rfl ?_
  refine zr_putF F 9 9 zd_XSight_init_44 (zu_s _ _ _) rfl (by decide) zw_382 rfl rfl hin rfl rfl rfl (by exact (Nat.le_of_ble_eq_true rfl)) ?_
  refine zr_norm (zu (zb f n ([.inr (6, [.long 0, .ref (b + (n + 1)), .long 0, .long 0, .long 0, .long 0]), .inl (tA 0, 18, .inl (fun _ => 0)), .inl (tA 0, 144, .inl (fun _ => 0)), .inl (tA 0, 12, .inl (fun _ => 0))] ++ (zouter tA b (n + 4) 48 :: List.replicate 48 (zrow tA 12)))) k (.inr (9, [.ref (b + (n)), .int 0, .ref (b + (n + 2)), .int 0, .int 0, .int 0, .int 0, .null, .ref (b + (n + 3)), .ref (b + (n + 4)), .null, .int 0, .int 0, .null, .null]))) (n + 53) (zu_zu _ _ _ _) rfl ?_
  refine zr_aload_n F zd_XSight_init_47 rfl ?_
  refine zr_gl F zd_XSight_init_48 zw_369 (fun tl hT => ?_)
  refine zr_iconstv (v := 3) F zd_XSight_init_51 (by decide) ?_
  refine zr_ti (v := .int 48) F zd_XSight_init_52 hT (vp_in_nI (n := 3) (by decide) (by decide)) rfl ?_
  refine zr_newa (N := 48) (a0 := (48, .inl (fun _ => 0))) F 0 zd_XSight_init_53 rfl rfl zw_74 (fun _ => rfl) (by decide) (by decide) (Nat.le_of_ble_eq_true rfl) (Nat.le_of_ble_eq_true rfl) (Nat.le_of_ble_eq_true rfl) ?_
  refine zr_norm (zu (zb f n (([.inr (6, [.long 0, .ref (b + (n + 1)), .long 0, .long 0, .long 0, .long 0]), .inl (tA 0, 18, .inl (fun _ => 0)), .inl (tA 0, 144, .inl (fun _ => 0)), .inl (tA 0, 12, .inl (fun _ => 0))] ++ (zouter tA b (n + 4) 48 :: List.replicate 48 (zrow tA 12))) ++ [.inl (tA 0, 48, .inl (fun _ => 0))])) k (.inr (9, [.ref (b + (n)), .int 0, .ref (b + (n + 2)), .int 0, .int 0, .int 0, .int 0, .null, .ref (b + (n + 3)), .ref (b + (n + 4)), .null, .int 0, .int 0, .null, .null]))) (n + 54) (zb_a hk rfl rfl) rfl ?_
  refine zr_putF F 9 10 zd_XSight_init_55 (zu_s _ _ _) rfl (by decide) zw_383 rfl rfl hin rfl rfl rfl (by exact (Nat.le_of_ble_eq_true rfl)) ?_
  refine zr_norm (zu (zb f n (([.inr (6, [.long 0, .ref (b + (n + 1)), .long 0, .long 0, .long 0, .long 0]), .inl (tA 0, 18, .inl (fun _ => 0)), .inl (tA 0, 144, .inl (fun _ => 0)), .inl (tA 0, 12, .inl (fun _ => 0))] ++ (zouter tA b (n + 4) 48 :: List.replicate 48 (zrow tA 12))) ++ [.inl (tA 0, 48, .inl (fun _ => 0))])) k (.inr (9, [.ref (b + (n)), .int 0, .ref (b + (n + 2)), .int 0, .int 0, .int 0, .int 0, .null, .ref (b + (n + 3)), .ref (b + (n + 4)), .ref (b + (n + 53)), .int 0, .int 0, .null, .null]))) (n + 54) (zu_zu _ _ _ _) rfl ?_
  refine zr_aload_n F zd_XSight_init_58 rfl ?_
  refine zr_sipushv (v := 512) F zd_XSight_init_59 (by decide) ?_
  refine zr_newa (N := 512) (a0 := (512, .inl (fun _ => 0))) F 0 zd_XSight_init_62 rfl rfl zw_74 (fun _ => rfl) (by decide) (by decide) (Nat.le_of_ble_eq_true rfl) (Nat.le_of_ble_eq_true rfl) (Nat.le_of_ble_eq_true rfl) ?_
  refine zr_norm (zu (zb f n (([.inr (6, [.long 0, .ref (b + (n + 1)), .long 0, .long 0, .long 0, .long 0]), .inl (tA 0, 18, .inl (fun _ => 0)), .inl (tA 0, 144, .inl (fun _ => 0)), .inl (tA 0, 12, .inl (fun _ => 0))] ++ (zouter tA b (n + 4) 48 :: List.replicate 48 (zrow tA 12))) ++ [.inl (tA 0, 48, .inl (fun _ => 0)), .inl (tA 0, 512, .inl (fun _ => 0))])) k (.inr (9, [.ref (b + (n)), .int 0, .ref (b + (n + 2)), .int 0, .int 0, .int 0, .int 0, .null, .ref (b + (n + 3)), .ref (b + (n + 4)), .ref (b + (n + 53)), .int 0, .int 0, .null, .null]))) (n + 55) (zb_a hk rfl rfl) rfl ?_
  refine zr_putF F 9 13 zd_XSight_init_64 (zu_s _ _ _) rfl (by decide) zw_386 rfl rfl hin rfl rfl rfl (by exact (Nat.le_of_ble_eq_true rfl)) ?_
  refine zr_norm (zu (zb f n (([.inr (6, [.long 0, .ref (b + (n + 1)), .long 0, .long 0, .long 0, .long 0]), .inl (tA 0, 18, .inl (fun _ => 0)), .inl (tA 0, 144, .inl (fun _ => 0)), .inl (tA 0, 12, .inl (fun _ => 0))] ++ (zouter tA b (n + 4) 48 :: List.replicate 48 (zrow tA 12))) ++ [.inl (tA 0, 48, .inl (fun _ => 0)), .inl (tA 0, 512, .inl (fun _ => 0))])) k (.inr (9, [.ref (b + (n)), .int 0, .ref (b + (n + 2)), .int 0, .int 0, .int 0, .int 0, .null, .ref (b + (n + 3)), .ref (b + (n + 4)), .ref (b + (n + 53)), .int 0, .int 0, .ref (b + (n + 54)), .null]))) (n + 55) (zu_zu _ _ _ _) rfl ?_
  refine zr_aload_n F zd_XSight_init_67 rfl ?_
  refine zr_sipushv (v := 144) F zd_XSight_init_68 (by decide) ?_
  refine zr_newa (N := 144) (a0 := (144, .inl (fun _ => 0))) F 0 zd_XSight_init_71 rfl rfl zw_74 (fun _ => rfl) (by decide) (by decide) (Nat.le_of_ble_eq_true rfl) (Nat.le_of_ble_eq_true rfl) (Nat.le_of_ble_eq_true rfl) ?_
  refine zr_norm (zu (zb f n (([.inr (6, [.long 0, .ref (b + (n + 1)), .long 0, .long 0, .long 0, .long 0]), .inl (tA 0, 18, .inl (fun _ => 0)), .inl (tA 0, 144, .inl (fun _ => 0)), .inl (tA 0, 12, .inl (fun _ => 0))] ++ (zouter tA b (n + 4) 48 :: List.replicate 48 (zrow tA 12))) ++ [.inl (tA 0, 48, .inl (fun _ => 0)), .inl (tA 0, 512, .inl (fun _ => 0)), .inl (tA 0, 144, .inl (fun _ => 0))])) k (.inr (9, [.ref (b + (n)), .int 0, .ref (b + (n + 2)), .int 0, .int 0, .int 0, .int 0, .null, .ref (b + (n + 3)), .ref (b + (n + 4)), .ref (b + (n + 53)), .int 0, .int 0, .ref (b + (n + 54)), .null]))) (n + 56) (zb_a hk rfl rfl) rfl ?_
  refine zr_put F 9 14 zd_XSight_init_73 (zu_s _ _ _) rfl (by decide) zw_387 rfl rfl rfl rfl (by exact (Nat.le_of_ble_eq_true rfl)) ?_
  refine zr_norm (zu (zb f n (([.inr (6, [.long 0, .ref (b + (n + 1)), .long 0, .long 0, .long 0, .long 0]), .inl (tA 0, 18, .inl (fun _ => 0)), .inl (tA 0, 144, .inl (fun _ => 0)), .inl (tA 0, 12, .inl (fun _ => 0))] ++ (zouter tA b (n + 4) 48 :: List.replicate 48 (zrow tA 12))) ++ [.inl (tA 0, 48, .inl (fun _ => 0)), .inl (tA 0, 512, .inl (fun _ => 0)), .inl (tA 0, 144, .inl (fun _ => 0))])) k (.inr (9, [.ref (b + (n)), .int 0, .ref (b + (n + 2)), .int 0, .int 0, .int 0, .int 0, .null, .ref (b + (n + 3)), .ref (b + (n + 4)), .ref (b + (n + 53)), .int 0, .int 0, .ref (b + (n + 54)), .ref (b + (n + 55))]))) (n + 56) (zu_zu _ _ _ _) rfl ?_
  refine zr_aload_n F zd_XSight_init_76 rfl ?_
  refine zr_iload_n F zd_XSight_init_77 rfl ?_
  refine zr_putF F 9 5 zd_XSight_init_78 (zu_s _ _ _) rfl (by decide) zw_378 rfl rfl hin rfl rfl rfl (by exact (Nat.le_of_ble_eq_true rfl)) ?_
  refine zr_norm (zu (zb f n (([.inr (6, [.long 0, .ref (b + (n + 1)), .long 0, .long 0, .long 0, .long 0]), .inl (tA 0, 18, .inl (fun _ => 0)), .inl (tA 0, 144, .inl (fun _ => 0)), .inl (tA 0, 12, .inl (fun _ => 0))] ++ (zouter tA b (n + 4) 48 :: List.replicate 48 (zrow tA 12))) ++ [.inl (tA 0, 48, .inl (fun _ => 0)), .inl (tA 0, 512, .inl (fun _ => 0)), .inl (tA 0, 144, .inl (fun _ => 0))])) k (.inr (9, [.ref (b + (n)), .int 0, .ref (b + (n + 2)), .int 0, .int 0, .int w, .int 0, .null, .ref (b + (n + 3)), .ref (b + (n + 4)), .ref (b + (n + 53)), .int 0, .int 0, .ref (b + (n + 54)), .ref (b + (n + 55))]))) (n + 56) (zu_zu _ _ _ _) rfl ?_
  refine zr_aload_n F zd_XSight_init_81 rfl ?_
  refine zr_iload_n F zd_XSight_init_82 rfl ?_
  refine zr_putF F 9 6 zd_XSight_init_83 (zu_s _ _ _) rfl (by decide) zw_379 rfl rfl hin rfl rfl rfl (by exact (Nat.le_of_ble_eq_true rfl)) ?_
  refine zr_norm (zu (zb f n (([.inr (6, [.long 0, .ref (b + (n + 1)), .long 0, .long 0, .long 0, .long 0]), .inl (tA 0, 18, .inl (fun _ => 0)), .inl (tA 0, 144, .inl (fun _ => 0)), .inl (tA 0, 12, .inl (fun _ => 0))] ++ (zouter tA b (n + 4) 48 :: List.replicate 48 (zrow tA 12))) ++ [.inl (tA 0, 48, .inl (fun _ => 0)), .inl (tA 0, 512, .inl (fun _ => 0)), .inl (tA 0, 144, .inl (fun _ => 0))])) k (.inr (9, [.ref (b + (n)), .int 0, .ref (b + (n + 2)), .int 0, .int 0, .int w, .int h, .null, .ref (b + (n + 3)), .ref (b + (n + 4)), .ref (b + (n + 53)), .int 0, .int 0, .ref (b + (n + 54)), .ref (b + (n + 55))]))) (n + 56) (zu_zu _ _ _ _) rfl ?_
  exact zr_vret F hr zd_XSight_init_86 (Nat.le_of_ble_eq_true rfl) (Nat.le_of_ble_eq_true rfl) ⟨rfl, rfl, rfl⟩
