/-! THE CLAIM OUT OF ONE WALK OF THE LAW'S BODY. Your part is whole_start (and what it stands on); all else here is the same for every law, but numbers. -/
def R_law : String := "OrreryBoxLaw"
def lw_P (b : Addr) (xs : List Int32) (args : Array Value) (s : State) : Prop := args = #[.ref b] ∧ s.IntsAt b xs ∧ xs.length ≤ 3074 ∧ (Jvm.Cond.and given_1 narrow_1).before args s = true
def lw_Q (_ : Array Value) (s : State) (o : Outcome) (t : State) : Prop := o = .returned (some (.int 1)) ∧ Framed s o t [] 466700 7695972
def lw_Z (below : List Frame) (a : Array Value) (s : State) : State → Prop := fun t => ∃ o, t.status = .running ∧ Ended t below o ∧ lw_Q a s o t
/-- the law's own end, with 1 on the stack, nothing written that was there before, its room as the claim has it -/
theorem lw_ret {p : Program} {l : Launch} {e : Env} {s : State} {m : MethodId} {below : List Frame} {meth : Method} {c : Code} {b : Nat} (hx : p.tables.exec = Jvm.exec) (hb : c.code = code) (hr : meth.sig.returnType = ret) (hlocks : meth.locks = false) {pc : Nat} {H : Heap} {ls : Array Slot} (hdg : decode code pc = .ok (.ireturn, 1)) : W p l e room_1 s m #[Value.ref b] below meth c H [] 466700 7695972 (lw_Z below #[Value.ref b] s) (F0 m pc ls [.int 1]) := by
  intro T hT X
  obtain ⟨fs, hret, hrun, hended, hW, hframe⟩ := X.leave (v := some (.int 1)) (hlocks := hlocks) (fun h => by rw [hr] at h; cases h)
  have hmeth' : T.vm.method? m = some meth := X.method'
  refine ⟨T.setFrames fs, ?_, .returned (some (.int 1)), hrun, hended, rfl, ⟨_, rfl⟩, hW, hframe⟩
  jvm_step X.here [X.here.top, hx, hb, hdg, hmeth', hr, ret, narrow_b1]
  (try refine ⟨rfl, ?_⟩); (try refine ⟨rfl, ?_⟩)
  first | (intro acts; rw [hret _ acts rfl rfl rfl]) | rw [hret _ _ rfl rfl rfl]
  exact Steps.refl _
/-- what holds at the law's entry: the machine, the code, the tables' words (any of lw_tbl by 'hts w (by decide +kernel)'), the script of L ints xs at the cell b, what the Statement gives of the start (any of its parts by flat_of_before) -/
def lw_At (p : Program) (s : State) (m : MethodId) (meth : Method) (c : Code) (b L : Nat) (xs : Nat → Int32) : Prop :=
  p.tables.exec = Jvm.exec ∧ c.code = code ∧ meth.sig.returnType = ret ∧ c.maxLocals = 7 ∧ s.vm.findClass R_law = some m.cls ∧ (∀ w ∈ lw_tbl, w.before #[Value.ref b] s = true) ∧ va_X b L xs s s.heap ∧ b < s.heap.size ∧ meth.locks = false ∧ (Jvm.Cond.and given_1 narrow_1).before #[Value.ref b] s = true
theorem zx_clips (x : Int32) : ∃ W : Nat, 8 ≤ W ∧ W ≤ 48 ∧ zx_clip x = nI W ∧ zx_max 8 (zx_min 48 x) = nI W := by
  have e8 : (8 : Int32).toInt = 8 := by decide
  have e48 : (48 : Int32).toInt = 48 := by decide
  by_cases h1 : (8 : Int32) ≤ x
  · by_cases h2 : x ≤ 48
    · obtain ⟨j, hj, rfl⟩ := nI_of2 (M := 48) (n := 48) e48 (fun h => by rw [Int32.le_iff_toInt_le, e8] at h1; rw [Int32.lt_iff_toInt_lt] at h; have h0 : (0 : Int32).toInt = 0 := (by decide); omega) h2
      have hj8 : 8 ≤ j := by
        rw [Int32.le_iff_toInt_le, e8, nI_toInt (by omega)] at h1
        omega
      refine ⟨j, hj8, hj, by rw [zx_clip, if_pos h1, if_pos h2], ?_⟩
      have a1 : zx_min 48 (nI j) = nI j := by
        unfold zx_min
        split
        · rfl
        · rename_i h
          apply Int32.toInt_inj.mp
          rw [Int32.lt_iff_toInt_lt, e48, nI_toInt (by omega)] at h
          rw [e48, nI_toInt (by omega)]
          omega
      rw [a1]
      unfold zx_max
      split
      · rfl
      · rename_i h
        apply Int32.toInt_inj.mp
        rw [Int32.lt_iff_toInt_lt, e8, nI_toInt (by omega)] at h
        rw [e8, nI_toInt (by omega)]
        omega
    · refine ⟨48, by omega, by omega, by rw [zx_clip, if_pos h1, if_neg h2]; rfl, ?_⟩
      have a1 : zx_min 48 x = 48 := by
        unfold zx_min
        rw [if_neg]
        intro h
        rw [Int32.lt_iff_toInt_lt] at h
        rw [Int32.le_iff_toInt_le] at h2
        omega
      rw [a1]
      decide
  · refine ⟨8, by omega, by omega, by rw [zx_clip, if_neg h1]; rfl, ?_⟩
    have a1 : zx_min 48 x = x := by
      unfold zx_min
      rw [if_pos]
      rw [Int32.le_iff_toInt_le, e8] at h1
      rw [Int32.lt_iff_toInt_lt, e48]
      omega
    rw [a1]
    unfold zx_max
    rw [if_neg]
    · rfl
    · intro h
      rw [Int32.lt_iff_toInt_lt] at h
      rw [Int32.le_iff_toInt_le] at h1
      omega
theorem zx_arrA {args : Array Value} {s : State} (h : (Cond.arrayOver (.array .int)).before args s = true) : ∃ comp cA kA, s.vm.findClass "[I" = some comp ∧ s.vm.classes[cA]? = some kA ∧ kA.kind = .array comp (.array .int) ∧ s.vm.findClass "[[I" = some cA := by
  have h : (Cond.arrayOver (.array .int)).holds args s none s [] = true := h
  simp only [Cond.holds, Cond.value, beq_iff_eq] at h
  cases hc : s.vm.findClass (FieldType.array .int).toString with
  | none => simp [hc] at h
  | some comp =>
    simp only [hc, Option.bind_some, Option.bind_eq_some_iff, Option.map_eq_some_iff] at h
    obtain ⟨cA, hi, k, hk, hb⟩ := h
    obtain ⟨hlt, hp, -⟩ := Array.findIdx?_eq_some_iff_getElem.mp hi
    have hkk : s.vm.classes[cA] = k := (Array.getElem?_eq_some_iff.mp hk).2
    rw [hkk] at hp
    cases hkind : k.kind with
    | array component ty =>
      rw [hkind] at hb hp
      simp at hb hp
      exact ⟨comp, cA, k, hc, hk, by rw [hkind, hp, hb.1], hb.2⟩
    | _ => rw [hkind] at hb; simp at hb
theorem zw_30 : (Jvm.Cond.instantiable "OrreryBox" (12 : Nat)) ∈ gw := gw_t 30 (by decide +kernel) rfl
theorem zw_1303 : (Jvm.Cond.instantiable "OrreryBoxModel" (20 : Nat)) ∈ gw := gw_t 1303 (by decide +kernel) rfl
theorem gw_sub : ∀ w ∈ gw, w ∈ lw_tbl := fun w h => (List.mem_filter.mp h).1
theorem gn_sub : ∀ w ∈ gn, w ∈ lw_tbl := fun w h => (List.mem_filter.mp h).1
theorem law_K1 {s : State} {args : Array Value} (hts : ∀ w ∈ gw, w.before args s = true) : ∀ k : Nat, ∃ q : ClassId × (Nat → Nat), ∀ r : vw_C, classes[k]? = some r → u_Kn s r.1 r.2.1 r.2.2 q.1 q.2 := by
  intro k
  match k with
  | 0 =>
    obtain ⟨cC, iS, h⟩ := u_known (C := "OrreryBox") (T := zT_OB) (N := 12) (n := 12) hts zi_OB (hts _ zw_30)
    exact ⟨(cC, iS), fun r hr => by cases hr; exact h⟩
  | 1 =>
    obtain ⟨cC, iS, h⟩ := u_known (C := "OrreryBoxModel") (T := zT_MD) (N := 20) (n := 20) hts zi_MD (hts _ zw_1303)
    exact ⟨(cC, iS), fun r hr => by cases hr; exact h⟩
  | 2 =>
    obtain ⟨cC, iS, h⟩ := u_known (C := "OrreryBox$Mesh") (T := zT_XMesh) (N := 7) (n := 7) hts zi_XMesh (hts _ zw_170)
    exact ⟨(cC, iS), fun r hr => by cases hr; exact h⟩
  | 3 =>
    obtain ⟨cC, iS, h⟩ := u_known (C := "OrreryBox$Node") (T := zT_XNode) (N := 6) (n := 6) hts zi_XNode (hts _ zw_209)
    exact ⟨(cC, iS), fun r hr => by cases hr; exact h⟩
  | 4 =>
    obtain ⟨cC, iS, h⟩ := u_known (C := "OrreryBox$Packer") (T := zT_XPacker) (N := 11) (n := 11) hts zi_XPacker (hts _ zw_76)
    exact ⟨(cC, iS), fun r hr => by cases hr; exact h⟩
  | 5 =>
    obtain ⟨cC, iS, h⟩ := u_known (C := "OrreryBox$Picture") (T := zT_XPicture) (N := 18) (n := 18) hts zi_XPicture (hts _ zw_420)
    exact ⟨(cC, iS), fun r hr => by cases hr; exact h⟩
  | 6 =>
    obtain ⟨cC, iS, h⟩ := u_known (C := "OrreryBox$Piece") (T := zT_XPiece) (N := 6) (n := 6) hts zi_XPiece (hts _ zw_344)
    exact ⟨(cC, iS), fun r hr => by cases hr; exact h⟩
  | 7 =>
    obtain ⟨cC, iS, h⟩ := u_known (C := "OrreryBox$Reader") (T := zT_XReader) (N := 8) (n := 8) hts zi_XReader (hts _ zw_41)
    exact ⟨(cC, iS), fun r hr => by cases hr; exact h⟩
  | 8 =>
    obtain ⟨cC, iS, h⟩ := u_known (C := "OrreryBox$Scene") (T := zT_XScene) (N := 11) (n := 11) hts zi_XScene (hts _ zw_126)
    exact ⟨(cC, iS), fun r hr => by cases hr; exact h⟩
  | 9 =>
    obtain ⟨cC, iS, h⟩ := u_known (C := "OrreryBox$Sight") (T := zT_XSight) (N := 15) (n := 15) hts zi_XSight (hts _ zw_338)
    exact ⟨(cC, iS), fun r hr => by cases hr; exact h⟩
  | 10 =>
    obtain ⟨cC, iS, h⟩ := u_known (C := "OrreryBox$Texture") (T := zT_XTexture) (N := 6) (n := 6) hts zi_XTexture (hts _ zw_143)
    exact ⟨(cC, iS), fun r hr => by cases hr; exact h⟩
  | 11 =>
    obtain ⟨cC, iS, h⟩ := u_known (C := "OrreryBox$Track") (T := zT_XTrack) (N := 6) (n := 6) hts zi_XTrack (hts _ zw_246)
    exact ⟨(cC, iS), fun r hr => by cases hr; exact h⟩
  | 12 =>
    obtain ⟨cC, iS, h⟩ := u_known (C := "OrreryBoxModel$Packer") (T := zT_MPacker) (N := 7) (n := 7) hts zi_MPacker (hts _ zw_1541)
    exact ⟨(cC, iS), fun r hr => by cases hr; exact h⟩
  | 13 =>
    obtain ⟨cC, iS, h⟩ := u_known (C := "OrreryBoxModel$Painter") (T := zT_MPainter) (N := 31) (n := 31) hts zi_MPainter (hts _ zw_1571)
    exact ⟨(cC, iS), fun r hr => by cases hr; exact h⟩
  | 14 =>
    obtain ⟨cC, iS, h⟩ := u_known (C := "OrreryBoxModel$Reader") (T := zT_MReader) (N := 11) (n := 11) hts zi_MReader (hts _ zw_1499)
    exact ⟨(cC, iS), fun r hr => by cases hr; exact h⟩
  | 15 =>
    obtain ⟨cC, iS, h⟩ := u_known (C := "OrreryBoxModel$Scene") (T := zT_MScene) (N := 36) (n := 36) hts zi_MScene (hts _ zw_1310)
    exact ⟨(cC, iS), fun r hr => by cases hr; exact h⟩
  | k + 16 => exact ⟨(0, fun _ => 0), fun r hr => by simp [classes] at hr⟩
theorem law_prim {s : State} {args : Array Value} {ty : FieldType} (hp : ∀ C, ty ≠ .object C) (h : (Cond.arrayClass ty).before args s = true) : ∃ cA : ClassId, ArrOfT s cA ty ∧ va_RA s cA ty := by
  obtain ⟨cA, kA, comp, h1, h2, h3⟩ := Cond.arrayClass_spec h
  refine ⟨cA, fun n z => ⟨(fun k h => by cases h), kA, h2, comp, h3⟩, ?_⟩
  cases ty <;> first | exact absurd rfl (hp _) | exact h1
theorem law_obj {s : State} {args : Array Value} {C : String} (h : (Cond.arrayOver (.object C)).before args s = true) : ∃ cA : ClassId, ArrOfT s cA (.object C) ∧ va_RA s cA (.object C) := by
  obtain ⟨comp, cA, kA, h1, -, h3, h4, h5⟩ := Cond.arrayOver_spec h
  exact ⟨cA, fun n z => ⟨(fun k h => by cases h), kA, h3, comp, h4⟩, kA, comp, h3, h4, h1, h5⟩
/-! the constant texts at the law's entry -/
def ztxW (q : String × Nat × String) (bs : List Int32) : List Cond := [.exactly (.string q.1 q.2.1) "java/lang/String", .eq (.field (.string q.1 q.2.1) "java/lang/String" "coder" "B") (.int 0), .arrayOf (.field (.string q.1 q.2.1) "java/lang/String" "value" "[B") .byte, .eq (.length (.field (.string q.1 q.2.1) "java/lang/String" "value" "[B")) (.int (Int32.ofNat bs.length))] ++ (List.range bs.length).map (fun j => .eq (.elem (.field (.string q.1 q.2.1) "java/lang/String" "value" "[B") (.int (Int32.ofNat j))) (.int (bs.getD j 0)))
def ztxP : List Nat := [53, 61, 69, 77, 89, 102, 112, 121, 131, 141, 150, 158, 166, 175, 185, 196, 204, 212, 220, 230, 240, 251, 259, 271, 281, 292, 302, 311, 321, 329, 337, 345, 353, 360, 369, 379, 392, 406, 417, 427, 438, 449, 459, 468, 477, 486, 497, 508, 520, 529, 542, 553, 565, 576, 586, 597, 606, 615, 624, 633, 642, 651, 659, 669, 680, 690, 701]
def ztxX : List Nat := [945, 1007, 1057, 1163, 1164, 1165, 1166, 1167, 1168, 1169, 1184, 1203, 1206, 1215, 1218, 1228, 1229, 1230, 1231, 1247, 1248, 1249, 1254, 1255, 1256, 1257, 1260, 1265, 1266, 1267, 1272, 1273, 1274, 1275, 1278, 1788, 1789, 1790, 1791, 1792, 1793, 1794, 1817, 1838, 1839, 1840, 1862, 1863, 1864, 1869, 1870, 1871, 1872, 1873, 1878, 1879, 1880, 1885, 1886, 1891, 1892, 1893, 1894, 1895, 1900, 1905, 1906]
theorem ztxW_in : ∀ i, i < 67 → (zstr[i]?).map (fun q => ztxW q (ztxb i)) = some (((flatC (Jvm.Cond.and given_1 narrow_1)).drop (ztxP.getD i 0)).take (4 + (ztxb i).length)) := by decide +kernel
theorem ztxR_in : ∀ i, i < 67 → tables_1[ztxX.getD i 0]? = (zstr[i]?).map (fun q => Cond.stringRef q.1 q.2.1 q.2.2) := by decide +kernel
theorem ztxL_in : ∀ i, i < 67 → (ztxb i).length < 2 ^ 31 := by decide +kernel
theorem zst_lt {i : Nat} {q : String × Nat × String} (h : zstr[i]? = some q) : i < 67 := (List.getElem?_eq_some_iff.mp h).1
theorem zst_one {args : Array Value} {s : State} {A : Nat → Prop} {i : Nat} {q : String × Nat × String} (hq : zstr[i]? = some q) (hg : (Jvm.Cond.and given_1 narrow_1).before args s = true) (hts : ∀ w ∈ lw_tbl, w.before args s = true) (hA : ∀ a : Nat, a < s.heap.size → ¬ A a) : ∃ p : Nat × Nat, vk_R q.1 q.2.1 q.2.2 p.1 s ∧ va_O "java/lang/String" p.1 A s s.heap ∧ va_OF "java/lang/String" "coder" "B" (.int 0) p.1 A s s.heap ∧ va_OF "java/lang/String" "value" "[B" (.ref p.2) p.1 A s s.heap ∧ va_T .byte p.2 (ztxb i).length (fun j => .int ((ztxb i).getD j 0)) A s s.heap := by
  have hi := zst_lt hq
  have hw : ∀ w ∈ ztxW q (ztxb i), w.before args s = true := fun w hw => by
    have e := ztxW_in i hi
    rw [hq] at e
    have e2 : ztxW q (ztxb i) = _ := Option.some.inj e
    rw [e2] at hw
    exact flat_of_before _ hg w (List.mem_of_mem_drop (List.mem_of_mem_take hw))
  have hr : (Cond.stringRef q.1 q.2.1 q.2.2).before args s = true := by
    have e := ztxR_in i hi
    rw [hq] at e
    exact hts _ (List.mem_append_right _ (List.mem_of_getElem? e))
  obtain ⟨a, c, cA, kA, q1, q2, q3, q4, q5, q6, -⟩ := Cond.exactly_spec (args := args) (first := s) (o := none) (s := s) (idx := []) (t := .string q.1 q.2.1) (cls := "java/lang/String") (hw _ (List.mem_append_left _ List.mem_cons_self))
  have ha : (Cond.arrayOf (.field (.string q.1 q.2.1) "java/lang/String" "value" "[B") .byte).before args s = true := hw _ (List.mem_append_left _ (by simp))
  have hl : (Cond.eq (.length (.field (.string q.1 q.2.1) "java/lang/String" "value" "[B")) (.int (Int32.ofNat (ztxb i).length))).before args s = true := hw _ (List.mem_append_left _ (by simp))
  have hc : (Cond.eq (.field (.string q.1 q.2.1) "java/lang/String" "coder" "B") (.int 0)).before args s = true := hw _ (List.mem_append_left _ (by simp))
  obtain ⟨t, ht, hT⟩ := va_Tof (f := fun j => .int ((ztxb i).getD j 0)) (A := A) (ztxL_in i hi) ha (va_eqt hl) (fun j hj => va_eqt (hw _ (List.mem_append_right _ (List.mem_map.mpr ⟨j, List.mem_range.mpr hj, rfl⟩)))) hA
  exact ⟨(a, t), vk_R.of hr q1, ⟨cA, q3, q5, by rw [q6]; exact q2, hA a (Array.getElem?_eq_some_iff.mp q3).1⟩, vk_OFof q1 (va_eqt hc) hA, vk_OFof q1 ht hA, hT⟩
set_option maxHeartbeats 4000000 in
/-- all that a walk needs at the law's entry -/
theorem law_F {p : Program} {s : State} {m : MethodId} {meth : Method} {c : Code} {bs L : Nat} {xs : Nat → Int32} (C0 : lw_At p s m meth c bs L xs) : ∃ (D : va_G) (tA : Nat → ClassId), zF p s m #[Value.ref bs] meth c code 7 "OrreryBoxLaw" D tA s.heap.size := by
  obtain ⟨hx, hb, hr, hml, hown, hts, hX, hbl, hlocks, hgv⟩ := C0
  have hgw : ∀ w ∈ gw, w.before #[Value.ref bs] s = true := fun w h => hts w (gw_sub w h)
  have hA : ∀ a : Nat, a < s.heap.size → ¬ (fun q => s.heap.size ≤ q) a := fun a h => Nat.not_le.mpr h
  have hs := flat_of_before _ hgv
  obtain ⟨comp, cA9, kA9, j1, j2, j3, j4⟩ := zx_arrA (hts _ (List.mem_append_right _ (List.mem_of_getElem? (i := 136) (by decide +kernel))))
  obtain ⟨c0, a0⟩ := law_prim (ty := .int) (fun C h => by cases h) (hts _ (List.mem_append_right _ (List.mem_of_getElem? (i := 74) (by decide +kernel))))
  obtain ⟨c1, a1⟩ := law_prim (ty := .byte) (fun C h => by cases h) (hts _ (List.mem_append_right _ (List.mem_of_getElem? (i := 73) (by decide +kernel))))
  obtain ⟨c2, a2⟩ := law_prim (ty := .long) (fun C h => by cases h) (hts _ (List.mem_append_right _ (List.mem_of_getElem? (i := 1674) (by decide +kernel))))
  obtain ⟨c3, a3⟩ := law_prim (ty := .boolean) (fun C h => by cases h) (hts _ (List.mem_append_right _ (List.mem_of_getElem? (i := 1497) (by decide +kernel))))
  obtain ⟨c4, a4⟩ := law_obj (C := "OrreryBox$Scene") (hts _ (List.mem_append_right _ (List.mem_of_getElem? (i := 39) (by decide +kernel))))
  obtain ⟨c5, a5⟩ := law_obj (C := "OrreryBox$Texture") (hts _ (List.mem_append_right _ (List.mem_of_getElem? (i := 134) (by decide +kernel))))
  obtain ⟨c6, a6⟩ := law_obj (C := "OrreryBox$Mesh") (hts _ (List.mem_append_right _ (List.mem_of_getElem? (i := 138) (by decide +kernel))))
  obtain ⟨c7, a7⟩ := law_obj (C := "OrreryBox$Node") (hts _ (List.mem_append_right _ (List.mem_of_getElem? (i := 140) (by decide +kernel))))
  obtain ⟨c8, a8⟩ := law_obj (C := "OrreryBox$Track") (hts _ (List.mem_append_right _ (List.mem_of_getElem? (i := 142) (by decide +kernel))))
  obtain ⟨cI, kI, cc, i1, i2, i3⟩ := Cond.arrayClass_spec (type := .int) (hts _ (List.mem_append_right _ (List.mem_of_getElem? (i := 74) (by decide +kernel))))
  have eI : comp = cI := Option.some.inj (j1.symm.trans i1)
  subst eI
  have h := law_K1 hgw
  have hst : ∀ i : Nat, ∃ p : Nat × Nat, ∀ q, zstr[i]? = some q → vk_R q.1 q.2.1 q.2.2 p.1 s ∧ va_O "java/lang/String" p.1 (fun a => s.heap.size ≤ a) s s.heap ∧ va_OF "java/lang/String" "coder" "B" (.int 0) p.1 (fun a => s.heap.size ≤ a) s s.heap ∧ va_OF "java/lang/String" "value" "[B" (.ref p.2) p.1 (fun a => s.heap.size ≤ a) s s.heap ∧ va_T .byte p.2 (ztxb i).length (fun j => .int ((ztxb i).getD j 0)) (fun a => s.heap.size ≤ a) s s.heap := fun i => by
    cases hq : zstr[i]? with
    | none => exact ⟨(0, 0), fun q h => by cases h⟩
    | some q =>
      obtain ⟨p, hp⟩ := zst_one hq hgv hts hA
      exact ⟨p, fun q' h => by cases h; exact hp⟩
  refine ⟨(fun k => (Classical.choose (h k)).1, fun k => if k = 1000 then (fun i => (Classical.choose (hst i)).1) else if k = 1001 then (fun i => (Classical.choose (hst i)).2) else (Classical.choose (h k)).2), fun k => match k with | 0 => c0 | 1 => c1 | 2 => c2 | 3 => c3 | 4 => c4 | 5 => c5 | 6 => c6 | 7 => c7 | 8 => c8 | _ => cA9, hx, hb, hml, hown, hgw, ⟨fun k r hr => ?_, ?_⟩, hlocks, ⟨fun w hw => va_Nw.of (zb_on (List.mem_filter.mp hw).2) (hts w (gn_sub w hw)), ?_, ⟨comp, cA9, cc, kA9, kI, j1, j4, j2, j3, i2, i3⟩, ?_, zLS.of (hts _ (List.mem_append_right _ (List.mem_of_getElem? (i := 1125) (by decide +kernel)))) (hs _ (by decide +kernel)), zLS.of (hts _ (List.mem_append_right _ (List.mem_of_getElem? (i := 1127) (by decide +kernel)))) (hs _ (by decide +kernel)), fun i q hq => Classical.choose_spec (hst i) q hq, va_Zof (hts _ (List.mem_append_right _ (List.mem_of_getElem? (i := 959) (by decide +kernel)))) (hts _ (List.mem_append_right _ (List.mem_of_getElem? (i := 22) (by decide +kernel)))) (va_eqt (hs _ (by decide +kernel))) hA, va_Zqof (hts _ (List.mem_append_right _ (List.mem_of_getElem? (i := 975) (by decide +kernel)))) (hts _ (List.mem_append_right _ (List.mem_of_getElem? (i := 24) (by decide +kernel)))) (hs _ (by decide +kernel)) hA⟩, Nat.le_refl _⟩
  · have hk : k < 16 := (List.getElem?_eq_some_iff.mp hr).1
    have e1 : (if k = 1000 then (fun i => (Classical.choose (hst i)).1) else if k = 1001 then (fun i => (Classical.choose (hst i)).2) else (Classical.choose (h k)).2) = (Classical.choose (h k)).2 := by rw [if_neg (by omega), if_neg (by omega)]
    show u_Kn s r.1 r.2.1 r.2.2 (Classical.choose (h k)).1 (if k = 1000 then (fun i => (Classical.choose (hst i)).1) else if k = 1001 then (fun i => (Classical.choose (hst i)).2) else (Classical.choose (h k)).2)
    rw [e1]
    exact Classical.choose_spec (h k) r hr
  · intro k q hq
    match k, hq with
    | 0, hq => cases hq; exact a0
    | 1, hq => cases hq; exact a1
    | 2, hq => cases hq; exact a2
    | 3, hq => cases hq; exact a3
    | 4, hq => cases hq; exact a4
    | 5, hq => cases hq; exact a5
    | 6, hq => cases hq; exact a6
    | 7, hq => cases hq; exact a7
    | 8, hq => cases hq; exact a8
    | 9, hq => cases hq; exact ⟨fun n z => ⟨(fun k h => by cases h), kA9, j2, comp, j3⟩, j4⟩
    | k + 10, hq => simp [zt] at hq
  · intro C hC
    simp only [zao, List.mem_cons, List.not_mem_nil, or_false] at hC
    rcases hC with rfl | rfl | rfl | rfl | rfl
    · exact va_AO.of (hts _ (List.mem_append_right _ (List.mem_of_getElem? (i := 39) (by decide +kernel))))
    · exact va_AO.of (hts _ (List.mem_append_right _ (List.mem_of_getElem? (i := 134) (by decide +kernel))))
    · exact va_AO.of (hts _ (List.mem_append_right _ (List.mem_of_getElem? (i := 138) (by decide +kernel))))
    · exact va_AO.of (hts _ (List.mem_append_right _ (List.mem_of_getElem? (i := 140) (by decide +kernel))))
    · exact va_AO.of (hts _ (List.mem_append_right _ (List.mem_of_getElem? (i := 142) (by decide +kernel))))
  · have q1 : (Cond.arrayOf (.static "OrreryBox" "LIMITS" "[I") .int).before #[Value.ref bs] s = true := hs _ (by decide +kernel)
    have q2 : (Cond.eq (.length (.static "OrreryBox" "LIMITS" "[I")) (.int 5)).before #[Value.ref bs] s = true := hs _ (by decide +kernel)
    have e0 : (Cond.eq (.elem (.static "OrreryBox" "LIMITS" "[I") (.int 0)) (.int 8)).before #[Value.ref bs] s = true := hs _ (by decide +kernel)
    have e1 : (Cond.eq (.elem (.static "OrreryBox" "LIMITS" "[I") (.int 1)) (.int 16)).before #[Value.ref bs] s = true := hs _ (by decide +kernel)
    have e2 : (Cond.eq (.elem (.static "OrreryBox" "LIMITS" "[I") (.int 2)) (.int 16)).before #[Value.ref bs] s = true := hs _ (by decide +kernel)
    have e3 : (Cond.eq (.elem (.static "OrreryBox" "LIMITS" "[I") (.int 3)) (.int 48)).before #[Value.ref bs] s = true := hs _ (by decide +kernel)
    have e4 : (Cond.eq (.elem (.static "OrreryBox" "LIMITS" "[I") (.int 4)) (.int 32)).before #[Value.ref bs] s = true := hs _ (by decide +kernel)
    obtain ⟨t, ht, hT⟩ := va_Tof (N := 5) (f := zlim) (A := fun q => s.heap.size ≤ q) (by decide) q1 (va_eqt q2) (fun j hj => by
      match j, hj with
      | 0, _ => exact va_eqt e0
      | 1, _ => exact va_eqt e1
      | 2, _ => exact va_eqt e2
      | 3, _ => exact va_eqt e3
      | 4, _ => exact va_eqt e4
      | j + 5, h => exact absurd h (by omega)) hA
    exact ⟨t, va_Zref (hts _ (List.mem_append_right _ (List.mem_of_getElem? (i := 132) (by decide +kernel)))) (hts _ (List.mem_append_right _ (List.mem_of_getElem? (i := 1) (by decide +kernel)))) ht hA, hT⟩
