/-! TEXTS: the constants by their numbers -/
theorem zst_of {i : Nat} (h : i < 67) : ∃ q, zstr[i]? = some q := ⟨_, List.getElem?_eq_getElem (show i < zstr.length from h)⟩
/-- a text's char -/
def ztxc (i j : Nat) : Int32 := (ztxb i).getD j 0 &&& 255
def ztxn (i : Nat) : Int32 := Int32.ofNat (ztxb i).length
theorem ztx_len : ∀ i, i < 67 → Int32.ofNat (ztxb i).length >>> ((0 : Int32) &&& 31) = ztxn i := by decide +kernel
theorem ztx_chr : ∀ i, i < 67 → ∀ j, j < (ztxb i).length → (((ztxb i).getD j 0 &&& 255).toUInt32 % 65536).toInt32 = ztxc i j ∧ narrow .char (.int (ztxc i j)) = .int (ztxc i j) := by decide +kernel
theorem ztx_sml : ∀ i, i < 67 → (ztxb i).length < 100 := by decide +kernel
theorem ztx_in {i : Nat} {x : Int32} (hi : i < 67) (h0 : ¬ x < 0) (h1 : x < ztxn i) : vp_in x (ztxb i).length := by
  obtain ⟨j, hj, rfl⟩ := nI_of h0
  have hs := ztx_sml i hi
  refine vp_in_nI ?_ (by omega)
  refine Nat.not_le.mp fun q => ?_
  have h2 : ¬ nI j < nI (ztxb i).length := nI_nlt (by omega) (by omega)
  exact h2 h1
section ZST
variable {p : Program} {l : Launch} {e : Env} {R : Room} {s : State} {m : MethodId} {args : Array Value} {below : List Frame} {meth : Method} {c : Code} {Q : State → Prop}
variable {cc : ByteArray} {nL : Nat} {own : String} {D : va_G} {tA : Nat → ClassId} {b : Nat} {f : zV} {n cells slots pc : Nat} {L : List (Nat × Value)} {st : List Value}
theorem zF.hSt (F : zF p s m args meth c cc nL own D tA b) : zSt D b s s.heap := F.hG.2.2.2.2.2.2
theorem zr_ldcS (F : zF p s m args meth c cc nL own D tA b) {index : Nat} (i : Nat) (tx : String) (hd : decode cc pc = .ok (.ldc index, 2)) (hq : zstr[i]? = some (own, index, tx)) (kk : Z p l e R s m args below meth c D b nL Q f n cells slots (pc + 2) L (.ref (D.2 1000 i) :: st)) : Z p l e R s m args below meth c D b nL Q f n cells slots pc L st := fun H locs ls hH hS hL => va_ldcS F.hx F.hb F.hown (F.hSt.1 i _ hq).1 hd (kk H locs ls hH hS hL)
theorem zr_ldcSW (F : zF p s m args meth c cc nL own D tA b) {index : Nat} (i : Nat) (tx : String) (hd : decode cc pc = .ok (.ldc_w index, 3)) (hq : zstr[i]? = some (own, index, tx)) (kk : Z p l e R s m args below meth c D b nL Q f n cells slots (pc + 3) L (.ref (D.2 1000 i) :: st)) : Z p l e R s m args below meth c D b nL Q f n cells slots pc L st := fun H locs ls hH hS hL => by
  intro T hT X
  obtain ⟨t, a1, b1⟩ := kk H locs ls hH hS hL T hT X
  have hZ := (F.hSt.1 i _ hq).1
  exact ⟨t, X.ldcStringW F.hx F.hown (text := tx) (a := D.2 1000 i) hZ.1 hZ.2 (g := F0 m pc ls st) rfl (by rw [F.hb]; exact hd) t a1, b1⟩
theorem zr_getSc (F : zF p s m args meth c cc nL own D tA b) {index i : Nat} (hi : i < 67) (hd : decode cc pc = .ok (.getfield index, 3)) (hw : Cond.fieldLink own index "java/lang/String" "coder" "B" ∈ gw) (kk : Z p l e R s m args below meth c D b nL Q f n cells slots (pc + 3) L (.int 0 :: st)) : Z p l e R s m args below meth c D b nL Q f n cells slots pc L (.ref (D.2 1000 i) :: st) := fun H locs ls hH hS hL => by
  obtain ⟨q, hq⟩ := zst_of hi
  exact vk_getf F.hx F.hb (F.hSt.1 i q hq).2.2.1 hS F.hown (F.hts _ hw) (fun x h => h) hd (kk H locs ls hH hS hL)
theorem zr_getSv (F : zF p s m args meth c cc nL own D tA b) {index i : Nat} (hi : i < 67) (hd : decode cc pc = .ok (.getfield index, 3)) (hw : Cond.fieldLink own index "java/lang/String" "value" "[B" ∈ gw) (kk : Z p l e R s m args below meth c D b nL Q f n cells slots (pc + 3) L (.ref (D.2 1001 i) :: st)) : Z p l e R s m args below meth c D b nL Q f n cells slots pc L (.ref (D.2 1000 i) :: st) := fun H locs ls hH hS hL => by
  obtain ⟨q, hq⟩ := zst_of hi
  exact vk_getf F.hx F.hb (F.hSt.1 i q hq).2.2.2.1 hS F.hown (F.hts _ hw) (fun x h => h) hd (kk H locs ls hH hS hL)
theorem zr_slenS (F : zF p s m args meth c cc nL own D tA b) {i : Nat} (hi : i < 67) (hd : decode cc pc = .ok (.arraylength, 1)) (kk : Z p l e R s m args below meth c D b nL Q f n cells slots (pc + 1) L (.int (ztxn i) :: st)) : Z p l e R s m args below meth c D b nL Q f n cells slots pc L (.ref (D.2 1001 i) :: st) := fun H locs ls hH hS hL => by
  obtain ⟨q, hq⟩ := zst_of hi
  exact va_tlen F.hx F.hb (F.hSt.1 i q hq).2.2.2.2 hS rfl hd (kk H locs ls hH hS hL)
theorem zr_sldS (F : zF p s m args meth c cc nL own D tA b) {i : Nat} {x : Int32} (hi : i < 67) (hin : vp_in x (ztxb i).length) (hd : decode cc pc = .ok (.baload, 1)) (kk : Z p l e R s m args below meth c D b nL Q f n cells slots (pc + 1) L (.int ((ztxb i).getD x.toNatClampNeg 0) :: st)) : Z p l e R s m args below meth c D b nL Q f n cells slots pc L (.int x :: .ref (D.2 1001 i) :: st) := fun H locs ls hH hS hL => by
  obtain ⟨q, hq⟩ := zst_of hi
  exact va_tb F.hx F.hb (F.hSt.1 i q hq).2.2.2.2 hS hin rfl hd (kk H locs ls hH hS hL)
theorem zr_getCS (F : zF p s m args meth c cc nL own D tA b) {index : Nat} (hd : decode cc pc = .ok (.getstatic index, 3)) (hw : Cond.fieldLink own index "java/lang/String" "COMPACT_STRINGS" "Z" ∈ gw) (kk : Z p l e R s m args below meth c D b nL Q f n cells slots (pc + 3) L (.int 1 :: st)) : Z p l e R s m args below meth c D b nL Q f n cells slots pc L st := fun H locs ls hH hS hL =>
  va_gets F.hx F.hb F.hSt.2.1 hS F.hown (F.hts _ hw) (fun x h => h) hd (kk H locs ls hH hS hL)
theorem zr_getPF (F : zF p s m args meth c cc nL own D tA b) {index : Nat} (hd : decode cc pc = .ok (.getstatic index, 3)) (hw : Cond.fieldLink own index "jdk/internal/util/Preconditions" "SIOOBE_FORMATTER" "Ljava/util/function/BiFunction;" ∈ gw) (kk : ∀ v : Value, v = .null ∨ (∃ t, v = .ref t) → Z p l e R s m args below meth c D b nL Q f n cells slots (pc + 3) L (v :: st)) : Z p l e R s m args below meth c D b nL Q f n cells slots pc L st := fun H locs ls hH hS hL => by
  rcases F.hSt.2.2 with h | ⟨t, h⟩
  · exact va_gets F.hx F.hb h hS F.hown (F.hts _ hw) (fun x h => h) hd (kk _ (Or.inl rfl) H locs ls hH hS hL)
  · exact va_gets F.hx F.hb h hS F.hown (F.hts _ hw) (fun x h => h) hd (kk _ (Or.inr ⟨t, rfl⟩) H locs ls hH hS hL)
variable {index maxL d lo mc ms na : Nat} {y : MethodName} {bytes : ByteArray} {ret : Option FieldType} {As rest : List Value} {post : Option Value → zV → Nat → Prop}
/-- a call at a text -/
theorem zr_callT (F : zF p s m args meth c cc nL own D tA b) {i : Nat} {v : Value} {f1 : zV} {n1 : Nat} (hi : i < 67) (hM : zM l D tA b y bytes maxL ret d lo mc ms (.ref (D.2 1000 i) :: As) f n (zE (some v) f1 n1)) (hd : decode cc pc = .ok (.invokevirtual index, 3)) (hw : zwV own index "java/lang/String" y bytes maxL ret) (hyc : y.cls = "java/lang/String") (hy : y.cls ≠ "java/lang/invoke/MethodHandle" ∧ y.cls ≠ "java/lang/invoke/VarHandle" ∧ (parseMethodDescriptor y.desc).map (fun d => d.parameters.length) = some na) (hna : As.length = na) (hst : st = As.reverse ++ .ref (D.2 1000 i) :: rest) (hroom : d + 1 ≤ R.frames ∧ 8 + (maxL + 11) + lo ≤ R.locals) (hrest : (rest.map fun v => v.category).sum ≤ 8) (hcs : cells + mc ≤ R.cells ∧ slots + ms ≤ R.slots) (kk : Z p l e R s m args below meth c D b nL Q f1 n1 (cells + mc) (slots + ms) (pc + 3) L (v :: rest)) : Z p l e R s m args below meth c D b nL Q f n cells slots pc L st := by
  obtain ⟨w1, w2, w3, w4, w5⟩ := hw
  subst hna
  obtain ⟨q, hq⟩ := zst_of hi
  refine zr_run (as' := (Value.ref (D.2 1000 i) :: As).toArray) (fun H locs ls hH hS hL => va_runV (Ts := gw) (own := own) (C := "java/lang/String") (n := As.length) ⟨F.hx, F.hb, F.hml, F.hown, F.hts⟩ hM (cwV As.length F.hts (gw_in (fun w hw => ?_)) rfl rfl rfl ⟨hyc, hy.1, hy.2.1, hy.2.2⟩ hroom) ⟨zP_blind, ?_, zP_pre F hH hS _⟩ rfl rfl hL.1 hst (lv_room hrest) hd hcs) (fun v' f' n' h => by obtain ⟨rfl, rfl, rfl⟩ := h; exact kk)
  · unfold wsV at hw
    rcases List.mem_append.mp hw with h | h
    · simp only [List.mem_cons, List.not_mem_nil, or_false] at h
      rcases h with rfl | rfl | rfl | rfl
      · exact w1
      · exact w2
      · exact w3
      · exact w4
    · exact z_ws w5 w h
  · obtain ⟨cell, h1, h2, h3, -⟩ := (F.hSt.1 i q hq).2.1.kept hS.2.1
    exact ⟨cell, h1, h2, h3⟩
end ZST
abbrev zb_JString_coder : ByteArray := prog_23_method_152_code
def zy_JString_coder : MethodName := ⟨"java/lang/String", "coder", "()B"⟩
theorem zc_JString_coder : Cond.code zy_JString_coder zb_JString_coder 1 (some .byte) ∈ gw := gw_t 957 (by decide +kernel) rfl
theorem zq_JString_coder : zy_JString_coder.cls ≠ "java/lang/invoke/MethodHandle" ∧ zy_JString_coder.cls ≠ "java/lang/invoke/VarHandle" ∧ (parseMethodDescriptor zy_JString_coder.desc).map (fun d => d.parameters.length) = some 0 := by decide +kernel
theorem zd_JString_coder_0 : decode zb_JString_coder 0 = .ok (.getstatic 38, 3) := by decide +kernel
theorem zd_JString_coder_3 : decode zb_JString_coder 3 = .ok (.ifCond .eq 10, 3) := by decide +kernel
theorem zd_JString_coder_6 : decode zb_JString_coder 6 = .ok (.aload_n 0, 1) := by decide +kernel
theorem zd_JString_coder_7 : decode zb_JString_coder 7 = .ok (.getfield 15, 3) := by decide +kernel
theorem zd_JString_coder_10 : decode zb_JString_coder 10 = .ok (.goto 4, 3) := by decide +kernel
theorem zd_JString_coder_13 : decode zb_JString_coder 13 = .ok (.iconst 1, 1) := by decide +kernel
theorem zd_JString_coder_14 : decode zb_JString_coder 14 = .ok (.ireturn, 1) := by decide +kernel
theorem zw_958 : (Jvm.Cond.fieldLink "java/lang/String" (38 : Nat) "java/lang/String" "COMPACT_STRINGS" "Z") ∈ gw := gw_t 958 (by decide +kernel) rfl
theorem zw_2276 : (Jvm.Cond.fieldLink "java/lang/String" (15 : Nat) "java/lang/String" "coder" "B") ∈ gw := gw_t 2276 (by decide +kernel) rfl
theorem zw_2275 : (Jvm.Cond.fieldLink "java/lang/String" (9 : Nat) "java/lang/String" "value" "[B") ∈ gw := gw_t 2275 (by decide +kernel) rfl
set_option maxHeartbeats 4000000 in
set_option maxRecDepth 100000 in
theorem c_JString_coder (l : Launch) (D : va_G) (tA : Nat → ClassId) (b : Nat) (f : zV) (n : Nat) (i : Nat) (hi : i < 67) : zM l D tA b zy_JString_coder zb_JString_coder 1 (some .byte) 0 0 0 0 [.ref (D.2 1000 i)] f n (zE (some (.int 0)) f n) := by
  refine zM_of (own := "java/lang/String") (by decide +kernel) rfl (Nat.le_of_ble_eq_true rfl) (fun p e s m below meth c F hr hin hH => ?_)
  refine zr_getCS F zd_JString_coder_0 zw_958 ?_
  refine zr_if_eq F 13 zd_JString_coder_3 (by decide) (fun h => absurd h (by decide)) (fun h => ?_)
  refine zr_aload_n F zd_JString_coder_6 rfl ?_
  refine zr_getSc F hi zd_JString_coder_7 zw_2276 ?_
  refine zr_goto F 14 zd_JString_coder_10 (by decide) ?_
  exact zr_zret F hr rfl zd_JString_coder_14 (Nat.le_of_ble_eq_true rfl) (Nat.le_of_ble_eq_true rfl) ⟨rfl, rfl, rfl⟩
abbrev zb_JString_isLatin1 : ByteArray := prog_23_method_154_code
def zy_JString_isLatin1 : MethodName := ⟨"java/lang/String", "isLatin1", "()Z"⟩
theorem zc_JString_isLatin1 : Cond.code zy_JString_isLatin1 zb_JString_isLatin1 1 (some .boolean) ∈ gw := gw_t 967 (by decide +kernel) rfl
theorem zq_JString_isLatin1 : zy_JString_isLatin1.cls ≠ "java/lang/invoke/MethodHandle" ∧ zy_JString_isLatin1.cls ≠ "java/lang/invoke/VarHandle" ∧ (parseMethodDescriptor zy_JString_isLatin1.desc).map (fun d => d.parameters.length) = some 0 := by decide +kernel
theorem zd_JString_isLatin1_0 : decode zb_JString_isLatin1 0 = .ok (.getstatic 38, 3) := by decide +kernel
theorem zd_JString_isLatin1_3 : decode zb_JString_isLatin1 3 = .ok (.ifCond .eq 14, 3) := by decide +kernel
theorem zd_JString_isLatin1_6 : decode zb_JString_isLatin1 6 = .ok (.aload_n 0, 1) := by decide +kernel
theorem zd_JString_isLatin1_7 : decode zb_JString_isLatin1 7 = .ok (.getfield 15, 3) := by decide +kernel
theorem zd_JString_isLatin1_10 : decode zb_JString_isLatin1 10 = .ok (.ifCond .ne 7, 3) := by decide +kernel
theorem zd_JString_isLatin1_13 : decode zb_JString_isLatin1 13 = .ok (.iconst 1, 1) := by decide +kernel
theorem zd_JString_isLatin1_14 : decode zb_JString_isLatin1 14 = .ok (.goto 4, 3) := by decide +kernel
theorem zd_JString_isLatin1_17 : decode zb_JString_isLatin1 17 = .ok (.iconst 0, 1) := by decide +kernel
theorem zd_JString_isLatin1_18 : decode zb_JString_isLatin1 18 = .ok (.ireturn, 1) := by decide +kernel
set_option maxHeartbeats 4000000 in
set_option maxRecDepth 100000 in
theorem c_JString_isLatin1 (l : Launch) (D : va_G) (tA : Nat → ClassId) (b : Nat) (f : zV) (n : Nat) (i : Nat) (hi : i < 67) : zM l D tA b zy_JString_isLatin1 zb_JString_isLatin1 1 (some .boolean) 0 0 0 0 [.ref (D.2 1000 i)] f n (zE (some (.int 1)) f n) := by
  refine zM_of (own := "java/lang/String") (by decide +kernel) rfl (Nat.le_of_ble_eq_true rfl) (fun p e s m below meth c F hr hin hH => ?_)
  refine zr_getCS F zd_JString_isLatin1_0 zw_958 ?_
  refine zr_if_eq F 17 zd_JString_isLatin1_3 (by decide) (fun h => absurd h (by decide)) (fun h => ?_)
  refine zr_aload_n F zd_JString_isLatin1_6 rfl ?_
  refine zr_getSc F hi zd_JString_isLatin1_7 zw_2276 ?_
  refine zr_if_ne F 17 zd_JString_isLatin1_10 (by decide) (fun h => absurd rfl h) (fun h => ?_)
  refine zr_iconstv (v := 1) F zd_JString_isLatin1_13 (by decide) ?_
  refine zr_goto F 18 zd_JString_isLatin1_14 (by decide) ?_
  exact zr_zret F hr rfl zd_JString_isLatin1_18 (Nat.le_of_ble_eq_true rfl) (Nat.le_of_ble_eq_true rfl) ⟨rfl, rfl, rfl⟩
abbrev zb_JString_length : ByteArray := prog_23_method_54_code
def zy_JString_length : MethodName := ⟨"java/lang/String", "length", "()I"⟩
theorem zc_JString_length : Cond.code zy_JString_length zb_JString_length 1 (some .int) ∈ gw := gw_t 953 (by decide +kernel) rfl
theorem zq_JString_length : zy_JString_length.cls ≠ "java/lang/invoke/MethodHandle" ∧ zy_JString_length.cls ≠ "java/lang/invoke/VarHandle" ∧ (parseMethodDescriptor zy_JString_length.desc).map (fun d => d.parameters.length) = some 0 := by decide +kernel
theorem zd_JString_length_0 : decode zb_JString_length 0 = .ok (.aload_n 0, 1) := by decide +kernel
theorem zd_JString_length_1 : decode zb_JString_length 1 = .ok (.getfield 9, 3) := by decide +kernel
theorem zd_JString_length_4 : decode zb_JString_length 4 = .ok (.arraylength, 1) := by decide +kernel
theorem zd_JString_length_5 : decode zb_JString_length 5 = .ok (.aload_n 0, 1) := by decide +kernel
theorem zd_JString_length_6 : decode zb_JString_length 6 = .ok (.invokevirtual 335, 3) := by decide +kernel
theorem zd_JString_length_9 : decode zb_JString_length 9 = .ok (.ishr, 1) := by decide +kernel
theorem zd_JString_length_10 : decode zb_JString_length 10 = .ok (.ireturn, 1) := by decide +kernel
theorem zw_954 : (Jvm.Cond.methodLink "java/lang/String" (335 : Nat) ({ cls := "java/lang/String", name := "coder", desc := "()B" } : Jvm.MethodName)) ∈ gw := gw_t 954 (by decide +kernel) rfl
theorem zw_955 : (Jvm.Cond.instanceMethod ({ cls := "java/lang/String", name := "coder", desc := "()B" } : Jvm.MethodName)) ∈ gw := gw_t 955 (by decide +kernel) rfl
theorem zw_956 : (Jvm.Cond.selects "java/lang/String" ({ cls := "java/lang/String", name := "coder", desc := "()B" } : Jvm.MethodName) ({ cls := "java/lang/String", name := "coder", desc := "()B" } : Jvm.MethodName)) ∈ gw := gw_t 956 (by decide +kernel) rfl
theorem zw_22 : (Jvm.Cond.initialized "java/lang/String") ∈ gw := gw_t 22 (by decide +kernel) rfl
theorem zs_JString_335 : zwV "java/lang/String" 335 "java/lang/String" zy_JString_coder zb_JString_coder 1 (some .byte) := ⟨zw_954, zw_955, zw_956, zw_22, zc_JString_coder⟩
set_option maxHeartbeats 4000000 in
set_option maxRecDepth 100000 in
theorem c_JString_length (l : Launch) (D : va_G) (tA : Nat → ClassId) (b : Nat) (f : zV) (n : Nat) (i : Nat) (hi : i < 67) : zM l D tA b zy_JString_length zb_JString_length 1 (some .int) 1 20 0 0 [.ref (D.2 1000 i)] f n (zE (some (.int (ztxn i))) f n) := by
  refine zM_of (own := "java/lang/String") (by decide +kernel) rfl (Nat.le_of_ble_eq_true rfl) (fun p e s m below meth c F hr hin hH => ?_)
  refine zr_aload_n F zd_JString_length_0 rfl ?_
  refine zr_getSv F hi zd_JString_length_1 zw_2275 ?_
  refine zr_slenS F hi zd_JString_length_4 ?_
  refine zr_aload_n F zd_JString_length_5 rfl ?_
  refine zr_callT F hi (c_JString_coder l D tA b f n i hi) zd_JString_length_6 zs_JString_335 rfl zq_JString_coder rfl rfl ⟨(Nat.le_of_ble_eq_true rfl), (Nat.le_of_ble_eq_true rfl)⟩ (Nat.le_of_ble_eq_true rfl) ⟨(Nat.le_of_ble_eq_true rfl), (Nat.le_of_ble_eq_true rfl)⟩ ?_
  refine zr_ishr F zd_JString_length_9 ?_
  exact zr_iret F hr zd_JString_length_10 (Nat.le_of_ble_eq_true rfl) (Nat.le_of_ble_eq_true rfl) ⟨congrArg (fun z => some (Value.int z)) (ztx_len i hi), rfl, rfl⟩
abbrev zb_JPreconditions_checkIndex : ByteArray := prog_29_method_11_code
def zy_JPreconditions_checkIndex : MethodName := ⟨"jdk/internal/util/Preconditions", "checkIndex", "(IILjava/util/function/BiFunction;)I"⟩
theorem zc_JPreconditions_checkIndex : Cond.code zy_JPreconditions_checkIndex zb_JPreconditions_checkIndex 3 (some .int) ∈ gw := gw_t 978 (by decide +kernel) rfl
theorem zq_JPreconditions_checkIndex : zy_JPreconditions_checkIndex.cls ≠ "java/lang/invoke/MethodHandle" ∧ zy_JPreconditions_checkIndex.cls ≠ "java/lang/invoke/VarHandle" ∧ (parseMethodDescriptor zy_JPreconditions_checkIndex.desc).map (fun d => d.parameters.length) = some 3 := by decide +kernel
theorem zd_JPreconditions_checkIndex_0 : decode zb_JPreconditions_checkIndex 0 = .ok (.iload_n 0, 1) := by decide +kernel
theorem zd_JPreconditions_checkIndex_1 : decode zb_JPreconditions_checkIndex 1 = .ok (.ifCond .lt 8, 3) := by decide +kernel
theorem zd_JPreconditions_checkIndex_4 : decode zb_JPreconditions_checkIndex 4 = .ok (.iload_n 0, 1) := by decide +kernel
theorem zd_JPreconditions_checkIndex_5 : decode zb_JPreconditions_checkIndex 5 = .ok (.iload_n 1, 1) := by decide +kernel
theorem zd_JPreconditions_checkIndex_6 : decode zb_JPreconditions_checkIndex 6 = .ok (.if_icmp .lt 10, 3) := by decide +kernel
theorem zd_JPreconditions_checkIndex_9 : decode zb_JPreconditions_checkIndex 9 = .ok (.aload_n 2, 1) := by decide +kernel
theorem zd_JPreconditions_checkIndex_10 : decode zb_JPreconditions_checkIndex 10 = .ok (.iload_n 0, 1) := by decide +kernel
theorem zd_JPreconditions_checkIndex_11 : decode zb_JPreconditions_checkIndex 11 = .ok (.iload_n 1, 1) := by decide +kernel
theorem zd_JPreconditions_checkIndex_12 : decode zb_JPreconditions_checkIndex 12 = .ok (.invokestatic 95, 3) := by decide +kernel
theorem zd_JPreconditions_checkIndex_15 : decode zb_JPreconditions_checkIndex 15 = .ok (.athrow, 1) := by decide +kernel
theorem zd_JPreconditions_checkIndex_16 : decode zb_JPreconditions_checkIndex 16 = .ok (.iload_n 0, 1) := by decide +kernel
theorem zd_JPreconditions_checkIndex_17 : decode zb_JPreconditions_checkIndex 17 = .ok (.ireturn, 1) := by decide +kernel
set_option maxHeartbeats 4000000 in
set_option maxRecDepth 100000 in
theorem c_JPreconditions_checkIndex (l : Launch) (D : va_G) (tA : Nat → ClassId) (b : Nat) (f : zV) (n : Nat) (x y : Int32) (v : Value) (hv : v = .null ∨ ∃ t, v = .ref t) (h0 : ¬ x < 0) (h1 : x < y) : zM l D tA b zy_JPreconditions_checkIndex zb_JPreconditions_checkIndex 3 (some .int) 0 0 0 0 [.int x, .int y, v] f n (zE (some (.int x)) f n) := by
  refine zM_of (own := "jdk/internal/util/Preconditions") (by decide +kernel) rfl (by rcases hv with rfl | ⟨t, rfl⟩ <;> exact (Nat.le_of_ble_eq_true rfl)) (fun p e s m below meth c F hr hin hH => ?_)
  rcases hv with rfl | ⟨t, rfl⟩
  · refine zr_iload_n F zd_JPreconditions_checkIndex_0 rfl ?_
    refine zr_if_lt F 9 zd_JPreconditions_checkIndex_1 (by decide) (fun h => absurd h h0) (fun h => ?_)
    refine zr_iload_n F zd_JPreconditions_checkIndex_4 rfl ?_
    refine zr_iload_n F zd_JPreconditions_checkIndex_5 rfl ?_
    refine zr_icmp_lt F 16 zd_JPreconditions_checkIndex_6 (by decide) (fun h => ?_) (fun h => absurd h1 h)
    refine zr_iload_n F zd_JPreconditions_checkIndex_16 rfl ?_
    exact zr_iret F hr zd_JPreconditions_checkIndex_17 (Nat.le_of_ble_eq_true rfl) (Nat.le_of_ble_eq_true rfl) ⟨rfl, rfl, rfl⟩
  · refine zr_iload_n F zd_JPreconditions_checkIndex_0 rfl ?_
    refine zr_if_lt F 9 zd_JPreconditions_checkIndex_1 (by decide) (fun h => absurd h h0) (fun h => ?_)
    refine zr_iload_n F zd_JPreconditions_checkIndex_4 rfl ?_
    refine zr_iload_n F zd_JPreconditions_checkIndex_5 rfl ?_
    refine zr_icmp_lt F 16 zd_JPreconditions_checkIndex_6 (by decide) (fun h => ?_) (fun h => absurd h1 h)
    refine zr_iload_n F zd_JPreconditions_checkIndex_16 rfl ?_
    exact zr_iret F hr zd_JPreconditions_checkIndex_17 (Nat.le_of_ble_eq_true rfl) (Nat.le_of_ble_eq_true rfl) ⟨rfl, rfl, rfl⟩
abbrev zb_JString_checkIndex : ByteArray := prog_23_method_155_code
def zy_JString_checkIndex : MethodName := ⟨"java/lang/String", "checkIndex", "(II)V"⟩
theorem zc_JString_checkIndex : Cond.code zy_JString_checkIndex zb_JString_checkIndex 2 none ∈ gw := gw_t 973 (by decide +kernel) rfl
theorem zq_JString_checkIndex : zy_JString_checkIndex.cls ≠ "java/lang/invoke/MethodHandle" ∧ zy_JString_checkIndex.cls ≠ "java/lang/invoke/VarHandle" ∧ (parseMethodDescriptor zy_JString_checkIndex.desc).map (fun d => d.parameters.length) = some 2 := by decide +kernel
theorem zd_JString_checkIndex_0 : decode zb_JString_checkIndex 0 = .ok (.iload_n 0, 1) := by decide +kernel
theorem zd_JString_checkIndex_1 : decode zb_JString_checkIndex 1 = .ok (.iload_n 1, 1) := by decide +kernel
theorem zd_JString_checkIndex_2 : decode zb_JString_checkIndex 2 = .ok (.getstatic 1053, 3) := by decide +kernel
theorem zd_JString_checkIndex_5 : decode zb_JString_checkIndex 5 = .ok (.invokestatic 1059, 3) := by decide +kernel
theorem zd_JString_checkIndex_8 : decode zb_JString_checkIndex 8 = .ok (.pop, 1) := by decide +kernel
theorem zd_JString_checkIndex_9 : decode zb_JString_checkIndex 9 = .ok (.return_, 1) := by decide +kernel
theorem zw_976 : (Jvm.Cond.methodLink "java/lang/String" (1059 : Nat) ({ cls := "jdk/internal/util/Preconditions", name := "checkIndex", desc := "(IILjava/util/function/BiFunction;)I" } : Jvm.MethodName)) ∈ gw := gw_t 976 (by decide +kernel) rfl
theorem zw_977 : (Jvm.Cond.static ({ cls := "jdk/internal/util/Preconditions", name := "checkIndex", desc := "(IILjava/util/function/BiFunction;)I" } : Jvm.MethodName)) ∈ gw := gw_t 977 (by decide +kernel) rfl
theorem zw_24 : (Jvm.Cond.initialized "jdk/internal/util/Preconditions") ∈ gw := gw_t 24 (by decide +kernel) rfl
theorem zs_JString_1059 : zwS "java/lang/String" 1059 zy_JPreconditions_checkIndex zb_JPreconditions_checkIndex 3 (some .int) := ⟨zw_976, zw_977, zw_24, zc_JPreconditions_checkIndex⟩
theorem zw_974 : (Jvm.Cond.fieldLink "java/lang/String" (1053 : Nat) "jdk/internal/util/Preconditions" "SIOOBE_FORMATTER" "Ljava/util/function/BiFunction;") ∈ gw := gw_t 974 (by decide +kernel) rfl
set_option maxHeartbeats 4000000 in
set_option maxRecDepth 100000 in
theorem c_JString_checkIndex (l : Launch) (D : va_G) (tA : Nat → ClassId) (b : Nat) (f : zV) (n : Nat) (x y : Int32) (h0 : ¬ x < 0) (h1 : x < y) : zM l D tA b zy_JString_checkIndex zb_JString_checkIndex 2 none 1 22 0 0 [.int x, .int y] f n (zE none f n) := by
  refine zM_of (own := "java/lang/String") (by decide +kernel) rfl (Nat.le_of_ble_eq_true rfl) (fun p e s m below meth c F hr hin hH => ?_)
  refine zr_iload_n F zd_JString_checkIndex_0 rfl ?_
  refine zr_iload_n F zd_JString_checkIndex_1 rfl ?_
  refine zr_getPF F zd_JString_checkIndex_2 zw_974 (fun v hv => ?_)
  refine zr_callS1 F (c_JPreconditions_checkIndex l D tA b f n x y v hv h0 h1) zd_JString_checkIndex_5 zs_JString_1059 zq_JPreconditions_checkIndex rfl rfl ⟨(Nat.le_of_ble_eq_true rfl), (Nat.le_of_ble_eq_true rfl)⟩ (Nat.le_of_ble_eq_true rfl) ⟨(Nat.le_of_ble_eq_true rfl), (Nat.le_of_ble_eq_true rfl)⟩ ?_
  refine zr_pop F zd_JString_checkIndex_8 rfl ?_
  exact zr_vret F hr zd_JString_checkIndex_9 (Nat.le_of_ble_eq_true rfl) (Nat.le_of_ble_eq_true rfl) ⟨rfl, rfl, rfl⟩
abbrev zb_JStringLatin1_charAt : ByteArray := prog_24_method_2_code
def zy_JStringLatin1_charAt : MethodName := ⟨"java/lang/StringLatin1", "charAt", "([BI)C"⟩
theorem zc_JStringLatin1_charAt : Cond.code zy_JStringLatin1_charAt zb_JStringLatin1_charAt 2 (some .char) ∈ gw := gw_t 970 (by decide +kernel) rfl
theorem zq_JStringLatin1_charAt : zy_JStringLatin1_charAt.cls ≠ "java/lang/invoke/MethodHandle" ∧ zy_JStringLatin1_charAt.cls ≠ "java/lang/invoke/VarHandle" ∧ (parseMethodDescriptor zy_JStringLatin1_charAt.desc).map (fun d => d.parameters.length) = some 2 := by decide +kernel
theorem zd_JStringLatin1_charAt_0 : decode zb_JStringLatin1_charAt 0 = .ok (.iload_n 1, 1) := by decide +kernel
theorem zd_JStringLatin1_charAt_1 : decode zb_JStringLatin1_charAt 1 = .ok (.aload_n 0, 1) := by decide +kernel
theorem zd_JStringLatin1_charAt_2 : decode zb_JStringLatin1_charAt 2 = .ok (.arraylength, 1) := by decide +kernel
theorem zd_JStringLatin1_charAt_3 : decode zb_JStringLatin1_charAt 3 = .ok (.invokestatic 9, 3) := by decide +kernel
theorem zd_JStringLatin1_charAt_6 : decode zb_JStringLatin1_charAt 6 = .ok (.aload_n 0, 1) := by decide +kernel
theorem zd_JStringLatin1_charAt_7 : decode zb_JStringLatin1_charAt 7 = .ok (.iload_n 1, 1) := by decide +kernel
theorem zd_JStringLatin1_charAt_8 : decode zb_JStringLatin1_charAt 8 = .ok (.baload, 1) := by decide +kernel
theorem zd_JStringLatin1_charAt_9 : decode zb_JStringLatin1_charAt 9 = .ok (.sipush 255, 3) := by decide +kernel
theorem zd_JStringLatin1_charAt_12 : decode zb_JStringLatin1_charAt 12 = .ok (.iand, 1) := by decide +kernel
theorem zd_JStringLatin1_charAt_13 : decode zb_JStringLatin1_charAt 13 = .ok (.i2c, 1) := by decide +kernel
theorem zd_JStringLatin1_charAt_14 : decode zb_JStringLatin1_charAt 14 = .ok (.ireturn, 1) := by decide +kernel
theorem zw_971 : (Jvm.Cond.methodLink "java/lang/StringLatin1" (9 : Nat) ({ cls := "java/lang/String", name := "checkIndex", desc := "(II)V" } : Jvm.MethodName)) ∈ gw := gw_t 971 (by decide +kernel) rfl
theorem zw_972 : (Jvm.Cond.static ({ cls := "java/lang/String", name := "checkIndex", desc := "(II)V" } : Jvm.MethodName)) ∈ gw := gw_t 972 (by decide +kernel) rfl
theorem zs_JStringLatin1_9 : zwS "java/lang/StringLatin1" 9 zy_JString_checkIndex zb_JString_checkIndex 2 none := ⟨zw_971, zw_972, zw_22, zc_JString_checkIndex⟩
set_option maxHeartbeats 4000000 in
set_option maxRecDepth 100000 in
theorem c_JStringLatin1_charAt (l : Launch) (D : va_G) (tA : Nat → ClassId) (b : Nat) (f : zV) (n : Nat) (i : Nat) (x : Int32) (hi : i < 67) (h0 : ¬ x < 0) (h1 : x < ztxn i) : zM l D tA b zy_JStringLatin1_charAt zb_JStringLatin1_charAt 2 (some .char) 2 43 0 0 [.ref (D.2 1001 i), .int x] f n (zE (some (.int (ztxc i x.toNatClampNeg))) f n) := by
  refine zM_of (own := "java/lang/StringLatin1") (by decide +kernel) rfl (Nat.le_of_ble_eq_true rfl) (fun p e s m below meth c F hr hin hH => ?_)
  have hin := ztx_in hi h0 h1
  have hlt : x.toNatClampNeg < (ztxb i).length := Nat.not_le.mp fun q => hin (Or.inr q)
  obtain ⟨g1, g2⟩ := ztx_chr i hi _ hlt
  refine zr_iload_n F zd_JStringLatin1_charAt_0 rfl ?_
  refine zr_aload_n F zd_JStringLatin1_charAt_1 rfl ?_
  refine zr_slenS F hi zd_JStringLatin1_charAt_2 ?_
  refine zr_callS0 F (c_JString_checkIndex l D tA b f n x (ztxn i) h0 h1) zd_JStringLatin1_charAt_3 zs_JStringLatin1_9 zq_JString_checkIndex rfl rfl ⟨(Nat.le_of_ble_eq_true rfl), (Nat.le_of_ble_eq_true rfl)⟩ (Nat.le_of_ble_eq_true rfl) ⟨(Nat.le_of_ble_eq_true rfl), (Nat.le_of_ble_eq_true rfl)⟩ ?_
  refine zr_aload_n F zd_JStringLatin1_charAt_6 rfl ?_
  refine zr_iload_n F zd_JStringLatin1_charAt_7 rfl ?_
  refine zr_sldS F hi hin zd_JStringLatin1_charAt_8 ?_
  refine zr_sipushv (v := 255) F zd_JStringLatin1_charAt_9 (by decide) ?_
  refine zr_iand F zd_JStringLatin1_charAt_12 ?_
  refine zr_i2c F zd_JStringLatin1_charAt_13 ?_
  rw [g1]
  exact zr_zret F hr g2 zd_JStringLatin1_charAt_14 (Nat.le_of_ble_eq_true rfl) (Nat.le_of_ble_eq_true rfl) ⟨rfl, rfl, rfl⟩
abbrev zb_JString_charAt : ByteArray := prog_23_method_56_code
def zy_JString_charAt : MethodName := ⟨"java/lang/String", "charAt", "(I)C"⟩
theorem zc_JString_charAt : Cond.code zy_JString_charAt zb_JString_charAt 2 (some .char) ∈ gw := gw_t 963 (by decide +kernel) rfl
theorem zq_JString_charAt : zy_JString_charAt.cls ≠ "java/lang/invoke/MethodHandle" ∧ zy_JString_charAt.cls ≠ "java/lang/invoke/VarHandle" ∧ (parseMethodDescriptor zy_JString_charAt.desc).map (fun d => d.parameters.length) = some 1 := by decide +kernel
theorem zd_JString_charAt_0 : decode zb_JString_charAt 0 = .ok (.aload_n 0, 1) := by decide +kernel
theorem zd_JString_charAt_1 : decode zb_JString_charAt 1 = .ok (.invokevirtual 492, 3) := by decide +kernel
theorem zd_JString_charAt_4 : decode zb_JString_charAt 4 = .ok (.ifCond .eq 12, 3) := by decide +kernel
theorem zd_JString_charAt_7 : decode zb_JString_charAt 7 = .ok (.aload_n 0, 1) := by decide +kernel
theorem zd_JString_charAt_8 : decode zb_JString_charAt 8 = .ok (.getfield 9, 3) := by decide +kernel
theorem zd_JString_charAt_11 : decode zb_JString_charAt 11 = .ok (.iload_n 1, 1) := by decide +kernel
theorem zd_JString_charAt_12 : decode zb_JString_charAt 12 = .ok (.invokestatic 495, 3) := by decide +kernel
theorem zd_JString_charAt_15 : decode zb_JString_charAt 15 = .ok (.ireturn, 1) := by decide +kernel
theorem zd_JString_charAt_16 : decode zb_JString_charAt 16 = .ok (.aload_n 0, 1) := by decide +kernel
theorem zd_JString_charAt_17 : decode zb_JString_charAt 17 = .ok (.getfield 9, 3) := by decide +kernel
theorem zd_JString_charAt_20 : decode zb_JString_charAt 20 = .ok (.iload_n 1, 1) := by decide +kernel
theorem zd_JString_charAt_21 : decode zb_JString_charAt 21 = .ok (.invokestatic 498, 3) := by decide +kernel
theorem zd_JString_charAt_24 : decode zb_JString_charAt 24 = .ok (.ireturn, 1) := by decide +kernel
theorem zw_964 : (Jvm.Cond.methodLink "java/lang/String" (492 : Nat) ({ cls := "java/lang/String", name := "isLatin1", desc := "()Z" } : Jvm.MethodName)) ∈ gw := gw_t 964 (by decide +kernel) rfl
theorem zw_965 : (Jvm.Cond.instanceMethod ({ cls := "java/lang/String", name := "isLatin1", desc := "()Z" } : Jvm.MethodName)) ∈ gw := gw_t 965 (by decide +kernel) rfl
theorem zw_966 : (Jvm.Cond.selects "java/lang/String" ({ cls := "java/lang/String", name := "isLatin1", desc := "()Z" } : Jvm.MethodName) ({ cls := "java/lang/String", name := "isLatin1", desc := "()Z" } : Jvm.MethodName)) ∈ gw := gw_t 966 (by decide +kernel) rfl
theorem zs_JString_492 : zwV "java/lang/String" 492 "java/lang/String" zy_JString_isLatin1 zb_JString_isLatin1 1 (some .boolean) := ⟨zw_964, zw_965, zw_966, zw_22, zc_JString_isLatin1⟩
theorem zw_968 : (Jvm.Cond.methodLink "java/lang/String" (495 : Nat) ({ cls := "java/lang/StringLatin1", name := "charAt", desc := "([BI)C" } : Jvm.MethodName)) ∈ gw := gw_t 968 (by decide +kernel) rfl
theorem zw_969 : (Jvm.Cond.static ({ cls := "java/lang/StringLatin1", name := "charAt", desc := "([BI)C" } : Jvm.MethodName)) ∈ gw := gw_t 969 (by decide +kernel) rfl
theorem zw_23 : (Jvm.Cond.initialized "java/lang/StringLatin1") ∈ gw := gw_t 23 (by decide +kernel) rfl
theorem zs_JString_495 : zwS "java/lang/String" 495 zy_JStringLatin1_charAt zb_JStringLatin1_charAt 2 (some .char) := ⟨zw_968, zw_969, zw_23, zc_JStringLatin1_charAt⟩
set_option maxHeartbeats 4000000 in
set_option maxRecDepth 100000 in
theorem c_JString_charAt (l : Launch) (D : va_G) (tA : Nat → ClassId) (b : Nat) (f : zV) (n : Nat) (i : Nat) (x : Int32) (hi : i < 67) (h0 : ¬ x < 0) (h1 : x < ztxn i) : zM l D tA b zy_JString_charAt zb_JString_charAt 2 (some .char) 3 64 0 0 [.ref (D.2 1000 i), .int x] f n (zE (some (.int (ztxc i x.toNatClampNeg))) f n) := by
  refine zM_of (own := "java/lang/String") (by decide +kernel) rfl (Nat.le_of_ble_eq_true rfl) (fun p e s m below meth c F hr hin hH => ?_)
  have hin := ztx_in hi h0 h1
  have hlt : x.toNatClampNeg < (ztxb i).length := Nat.not_le.mp fun q => hin (Or.inr q)
  obtain ⟨g1, g2⟩ := ztx_chr i hi _ hlt
  refine zr_aload_n F zd_JString_charAt_0 rfl ?_
  refine zr_callT F hi (c_JString_isLatin1 l D tA b f n i hi) zd_JString_charAt_1 zs_JString_492 rfl zq_JString_isLatin1 rfl rfl ⟨(Nat.le_of_ble_eq_true rfl), (Nat.le_of_ble_eq_true rfl)⟩ (Nat.le_of_ble_eq_true rfl) ⟨(Nat.le_of_ble_eq_true rfl), (Nat.le_of_ble_eq_true rfl)⟩ ?_
  refine zr_if_eq F 16 zd_JString_charAt_4 (by decide) (fun h => absurd h (by decide)) (fun h => ?_)
  refine zr_aload_n F zd_JString_charAt_7 rfl ?_
  refine zr_getSv F hi zd_JString_charAt_8 zw_2275 ?_
  refine zr_iload_n F zd_JString_charAt_11 rfl ?_
  refine zr_callS1 F (c_JStringLatin1_charAt l D tA b f n i x hi h0 h1) zd_JString_charAt_12 zs_JString_495 zq_JStringLatin1_charAt rfl rfl ⟨(Nat.le_of_ble_eq_true rfl), (Nat.le_of_ble_eq_true rfl)⟩ (Nat.le_of_ble_eq_true rfl) ⟨(Nat.le_of_ble_eq_true rfl), (Nat.le_of_ble_eq_true rfl)⟩ ?_
  exact zr_zret F hr g2 zd_JString_charAt_15 (Nat.le_of_ble_eq_true rfl) (Nat.le_of_ble_eq_true rfl) ⟨rfl, rfl, rfl⟩
