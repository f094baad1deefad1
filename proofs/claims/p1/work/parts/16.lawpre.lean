abbrev zb_LW_cell : ByteArray := method_2_code
def zy_LW_cell : MethodName := ⟨"OrreryBoxLaw", "cell", "([II)I"⟩
theorem zc_LW_cell : Cond.code zy_LW_cell zb_LW_cell 2 (some .int) ∈ gw := gw_t 1064 (by decide +kernel) rfl
theorem zq_LW_cell : zy_LW_cell.cls ≠ "java/lang/invoke/MethodHandle" ∧ zy_LW_cell.cls ≠ "java/lang/invoke/VarHandle" ∧ (parseMethodDescriptor zy_LW_cell.desc).map (fun d => d.parameters.length) = some 2 := by decide +kernel
theorem zd_LW_cell_0 : decode zb_LW_cell 0 = .ok (.iload_n 1, 1) := by decide +kernel
theorem zd_LW_cell_1 : decode zb_LW_cell 1 = .ok (.aload_n 0, 1) := by decide +kernel
theorem zd_LW_cell_2 : decode zb_LW_cell 2 = .ok (.arraylength, 1) := by decide +kernel
theorem zd_LW_cell_3 : decode zb_LW_cell 3 = .ok (.if_icmp .ge 9, 3) := by decide +kernel
theorem zd_LW_cell_6 : decode zb_LW_cell 6 = .ok (.aload_n 0, 1) := by decide +kernel
theorem zd_LW_cell_7 : decode zb_LW_cell 7 = .ok (.iload_n 1, 1) := by decide +kernel
theorem zd_LW_cell_8 : decode zb_LW_cell 8 = .ok (.iaload, 1) := by decide +kernel
theorem zd_LW_cell_9 : decode zb_LW_cell 9 = .ok (.goto 4, 3) := by decide +kernel
theorem zd_LW_cell_12 : decode zb_LW_cell 12 = .ok (.iconst 0, 1) := by decide +kernel
theorem zd_LW_cell_13 : decode zb_LW_cell 13 = .ok (.ireturn, 1) := by decide +kernel
def zx_cell (L : Nat) (xs : Nat → Int32) (k : Int32) : Int32 := if nI L ≤ k then 0 else xs k.toNatClampNeg
set_option maxHeartbeats 4000000 in
theorem c_LW_cell (l : Launch) (bs L : Nat) (xs : Nat → Int32) (k : Int32) (hk : ¬ nI L ≤ k → vp_in k L) : Met l zy_LW_cell (Cond.code zy_LW_cell zb_LW_cell 2 (some .int) :: gw) { frames := 0, cells := 0, slots := 0, locals := 0 } (fun a U => a = ([.ref bs, .int k] : List Value).toArray ∧ va_X bs L xs U U.heap) (fun _ st oc t => oc = .returned (some (.int (zx_cell L xs k))) ∧ t.heap = st.heap) 0 0 (fun _ => False) := by
  refine Met.ofW (cc := zb_LW_cell) (maxL := 2) (ret := some .int) (by decide) rfl ?_
  intro p e s m args below meth c s₁ B hml hv
  obtain ⟨rfl, hX⟩ := hv
  have hx := B.exec
  have hb := B.bytes
  have hr := B.returns
  have hlocks := B.notSynchronized
  have hbl : bs < s.heap.size := by obtain ⟨scr, h, -⟩ := hX; exact (Array.getElem?_eq_some_iff.mp h).1
  have hS : va_S (fun _ => False) s.heap s.heap [] := va_S.rf
  have hl := lv_entry ([.ref bs, .int k]) (n := 2) (Nat.le_of_ble_eq_true rfl)
  rw [lg_entry_eq]
  generalize (lg_sl ([.ref bs, .int k]) ++ List.replicate (2 - (lg_sl ([.ref bs, .int k])).length) Slot.unset).toArray = ls at hl ⊢
  have hl : lv_has ls 2 [(0, .ref bs), (1, .int k)] := hl
  refine lv_iload_n hx hb zd_LW_cell_0 rfl (lv_at hl 1 rfl) ?_
  refine lv_aload_n hx hb zd_LW_cell_1 rfl (lv_at hl 0 rfl) ?_
  refine va_slen hx hb hX hbl (fun h => h) hS zd_LW_cell_2 ?_
  refine lv_icmp_ge (tgt := 12) hx hb zd_LW_cell_3 (by decide) (fun h => ?_) (fun h => ?_)
  · refine lv_iconst (v := 0) hx hb zd_LW_cell_12 (by decide) ?_
    exact W.iret (v := 0) hx hb hr (fun t ht hW => ⟨by rw [zx_cell, if_pos (show nI L ≤ k from h)], ht⟩) hS.2.2 zd_LW_cell_13
  · refine lv_aload_n hx hb zd_LW_cell_6 rfl (lv_at hl 0 rfl) ?_
    refine lv_iload_n hx hb zd_LW_cell_7 rfl (lv_at hl 1 rfl) ?_
    refine va_sld hx hb hX hbl (fun h => h) hS (hk h) zd_LW_cell_8 ?_
    refine lv_goto (tgt := 13) hx hb zd_LW_cell_9 (by decide) ?_
    exact W.iret hx hb hr (fun t ht hW => ⟨by rw [zx_cell, if_neg (show ¬ nI L ≤ k from h)], ht⟩) hS.2.2 zd_LW_cell_13
theorem zr_cell {p : Program} {l : Launch} {e : Env} {R : Room} {s : State} {m : MethodId} {args : Array Value} {below : List Frame} {meth : Method} {c : Code} {Q : State → Prop} {cc : ByteArray} {nL : Nat} {own : String} {D : va_G} {tA : Nat → ClassId} {b : Nat} {f : zV} {n cells slots pc : Nat} {V : List (Nat × Value)} {st : List Value} (F : zF p s m args meth c cc nL own D tA b) {index bs L : Nat} {xs : Nat → Int32} {k : Int32} (hX : va_X bs L xs s s.heap) (hbl : bs < b) (hk : ¬ nI L ≤ k → vp_in k L) (hd : decode cc pc = .ok (.invokestatic index, 3)) (hw : zwS own index zy_LW_cell zb_LW_cell 2 (some .int)) (hroom : 1 ≤ R.frames ∧ 21 ≤ R.locals) (hrest : (st.map fun v => v.category).sum ≤ 8) (hcs : cells ≤ R.cells ∧ slots ≤ R.slots) (kk : Z p l e R s m args below meth c D b nL Q f n cells slots (pc + 3) V (.int (zx_cell L xs k) :: st)) : Z p l e R s m args below meth c D b nL Q f n cells slots pc V (.int k :: .ref bs :: st) := by
  obtain ⟨w1, w2, w3, w4⟩ := hw
  intro H locs ls hH hS hL T hT X
  have hin : ∀ w ∈ va_wsS own index zy_LW_cell (Cond.code zy_LW_cell zb_LW_cell 2 (some .int) :: gw), w ∈ gw := by
    intro w hw
    unfold va_wsS at hw
    rcases List.mem_append.mp hw with h | h
    · simp only [List.mem_cons, List.not_mem_nil, or_false] at h
      rcases h with rfl | rfl | rfl
      · exact w1
      · exact w2
      · exact w3
    · exact z_ws w4 w h
  have hrun := va_runS (e := e) (below := below) (meth := meth) (H := H) (locs := locs) (cells := cells) (slots := slots) (g := F0 m pc ls (.int k :: .ref bs :: st)) (As := [.ref bs, .int k]) (rest := st) (R := R) (n := 2) (Ts := gw) (own := own) ⟨F.hx, F.hb, F.hml, F.hown, F.hts⟩ (c_LW_cell l bs L xs k hk) (va_cwS 2 F.hts (gw_in hin) rfl rfl rfl zq_LW_cell hroom) ⟨fun a U g mk h => ⟨h.1, va_X.moved (u := U) (U := U.calling g mk a) (Vm.Alike.refl U.vm) h.2⟩, fun U hU hW => ⟨rfl, by rw [hU]; exact (hX.kept (hS.2.1 bs (Nat.lt_of_lt_of_le hbl F.hbl) (Nat.not_le.mpr hbl))).moved hW.alike⟩⟩ rfl rfl hL.1 rfl (lv_room hrest) hd hcs
  obtain ⟨v, st₀, t, T', Lc, h0, X', hLc, e1, e2, ⟨hv, hh⟩, go⟩ := hrun T hT X
  cases hv
  obtain ⟨t2, a1, b1⟩ := kk H locs ls hH hS hL T' (by rw [e1, hh, h0]) (Stand.forget X' (fun q h => (hLc q h).elim))
  exact ⟨t2, go t2 a1, b1⟩
abbrev zb_LW_law : ByteArray := code
theorem zd_LW_law_0 : decode code 0 = .ok (.new 8, 3) := by decide +kernel
theorem zd_LW_law_3 : decode code 3 = .ok (.dup, 1) := by decide +kernel
theorem zd_LW_law_4 : decode code 4 = .ok (.aload_n 0, 1) := by decide +kernel
theorem zd_LW_law_5 : decode code 5 = .ok (.iconst 0, 1) := by decide +kernel
theorem zd_LW_law_6 : decode code 6 = .ok (.invokestatic 21, 3) := by decide +kernel
theorem zd_LW_law_9 : decode code 9 = .ok (.aload_n 0, 1) := by decide +kernel
theorem zd_LW_law_10 : decode code 10 = .ok (.iconst 1, 1) := by decide +kernel
theorem zd_LW_law_11 : decode code 11 = .ok (.invokestatic 21, 3) := by decide +kernel
theorem zd_LW_law_14 : decode code 14 = .ok (.invokespecial 27, 3) := by decide +kernel
theorem zd_LW_law_17 : decode code 17 = .ok (.astore_n 1, 1) := by decide +kernel
theorem zd_LW_law_18 : decode code 18 = .ok (.new 30, 3) := by decide +kernel
theorem zd_LW_law_21 : decode code 21 = .ok (.dup, 1) := by decide +kernel
theorem zd_LW_law_22 : decode code 22 = .ok (.aload_n 0, 1) := by decide +kernel
theorem zd_LW_law_23 : decode code 23 = .ok (.iconst 0, 1) := by decide +kernel
theorem zd_LW_law_24 : decode code 24 = .ok (.invokestatic 21, 3) := by decide +kernel
theorem zd_LW_law_27 : decode code 27 = .ok (.aload_n 0, 1) := by decide +kernel
theorem zd_LW_law_28 : decode code 28 = .ok (.iconst 1, 1) := by decide +kernel
theorem zd_LW_law_29 : decode code 29 = .ok (.invokestatic 21, 3) := by decide +kernel
theorem zd_LW_law_32 : decode code 32 = .ok (.invokespecial 32, 3) := by decide +kernel
theorem zd_LW_law_35 : decode code 35 = .ok (.astore_n 2, 1) := by decide +kernel
theorem zd_LW_law_36 : decode code 36 = .ok (.iconst 1, 1) := by decide +kernel
theorem zd_LW_law_37 : decode code 37 = .ok (.newarray .long, 2) := by decide +kernel
theorem zd_LW_law_39 : decode code 39 = .ok (.astore_n 3, 1) := by decide +kernel
theorem zd_LW_law_40 : decode code 40 = .ok (.iconst 2, 1) := by decide +kernel
theorem zd_LW_law_41 : decode code 41 = .ok (.istore 4, 2) := by decide +kernel
theorem zd_LW_law_43 : decode code 43 = .ok (.iload 4, 2) := by decide +kernel
theorem zd_LW_law_45 : decode code 45 = .ok (.aload_n 0, 1) := by decide +kernel
theorem zd_LW_law_46 : decode code 46 = .ok (.arraylength, 1) := by decide +kernel
theorem zd_LW_law_47 : decode code 47 = .ok (.bipush 6, 2) := by decide +kernel
theorem zd_LW_law_49 : decode code 49 = .ok (.isub, 1) := by decide +kernel
theorem zd_LW_law_50 : decode code 50 = .ok (.if_icmp .gt 947, 3) := by decide +kernel
theorem zw_1062 : (Jvm.Cond.methodLink "OrreryBoxLaw" (21 : Nat) ({ cls := "OrreryBoxLaw", name := "cell", desc := "([II)I" } : Jvm.MethodName)) ∈ gw := gw_t 1062 (by decide +kernel) rfl
theorem zw_1063 : (Jvm.Cond.static ({ cls := "OrreryBoxLaw", name := "cell", desc := "([II)I" } : Jvm.MethodName)) ∈ gw := gw_t 1063 (by decide +kernel) rfl
theorem zw_0 : (Jvm.Cond.initialized "OrreryBoxLaw") ∈ gw := gw_t 0 (by decide +kernel) rfl
theorem zs_LW_21 : zwS "OrreryBoxLaw" 21 zy_LW_cell zb_LW_cell 2 (some .int) := ⟨zw_1062, zw_1063, zw_0, zc_LW_cell⟩
theorem zw_29 : (Jvm.Cond.classLink "OrreryBoxLaw" (8 : Nat) "OrreryBox") ∈ gw := gw_t 29 (by decide +kernel) rfl
theorem zw_31 : (Jvm.Cond.methodLink "OrreryBoxLaw" (27 : Nat) ({ cls := "OrreryBox", name := "<init>", desc := "(II)V" } : Jvm.MethodName)) ∈ gw := gw_t 31 (by decide +kernel) rfl
theorem zw_32 : (Jvm.Cond.instanceMethod ({ cls := "OrreryBox", name := "<init>", desc := "(II)V" } : Jvm.MethodName)) ∈ gw := gw_t 32 (by decide +kernel) rfl
theorem zs_LW_27 : zwI "OrreryBoxLaw" 27 zy_OB_init zb_OB_init 4 := ⟨zw_31, zw_32, zw_1, zc_OB_init⟩
theorem zw_1302 : (Jvm.Cond.classLink "OrreryBoxLaw" (30 : Nat) "OrreryBoxModel") ∈ gw := gw_t 1302 (by decide +kernel) rfl
theorem zw_13 : (Jvm.Cond.initialized "OrreryBoxModel") ∈ gw := gw_t 13 (by decide +kernel) rfl
theorem zw_1304 : (Jvm.Cond.methodLink "OrreryBoxLaw" (32 : Nat) ({ cls := "OrreryBoxModel", name := "<init>", desc := "(II)V" } : Jvm.MethodName)) ∈ gw := gw_t 1304 (by decide +kernel) rfl
theorem zw_1305 : (Jvm.Cond.instanceMethod ({ cls := "OrreryBoxModel", name := "<init>", desc := "(II)V" } : Jvm.MethodName)) ∈ gw := gw_t 1305 (by decide +kernel) rfl
theorem zs_LW_32 : zwI "OrreryBoxLaw" 32 zy_MD_init zb_MD_init 3 := ⟨zw_1304, zw_1305, zw_13, zc_MD_init⟩
/-- the world when the law comes to its loop for the first time -/
def lawW (tA : Nat → ClassId) (b W H : Nat) : zV := zu (mdW tA b (zu (obW tA b (zu (fun _ => none) 0 (.inr (0, [.int 0, .int 0, .null, .int 0, .null, .null, .null, .null, .null, .null, .int 0, .int 0]))) W H) 1185 (.inr (1, [.int 0, .int 0, .null, .int 0, .null, .null, .null, .null, .null, .null, .int 0, .int 0, .int 0, .int 0, .null, .int 0, .null, .null, .null, .int 0]))) W H) 1302 (.inl (tA 2, 1, .inr (.inl (fun _ => 0))))
set_option maxHeartbeats 4000000 in
set_option maxRecDepth 100000 in
/-- THE LAW UP TO ITS LOOP: both objects made -/
theorem law_pre {p : Program} {l : Launch} {e : Env} {s : State} {m : MethodId} {below : List Frame} {meth : Method} {c : Code} {Q : State → Prop} {D : va_G} {tA : Nat → ClassId} {b bs L W H : Nat} {xs : Nat → Int32} (F : zF p s m #[Value.ref bs] meth c code 7 "OrreryBoxLaw" D tA b) (hX : va_X bs L xs s s.heap) (hbl : bs < b) (hL : L ≤ 3074) (hW : zx_clip (zx_cell L xs 0) = nI W) (hH : zx_clip (zx_cell L xs 1) = nI H) (hW2 : zx_max 8 (zx_min 48 (zx_cell L xs 0)) = nI W) (hH2 : zx_max 8 (zx_min 48 (zx_cell L xs 1)) = nI H) (hWH : W * H ≤ 2304)
    (hx : Z p l e room_1 s m #[Value.ref bs] below meth c D b 7 Q (lawW tA b W H) 1303 1303 1198057 43 [(0, .ref bs), (1, .ref (b + 0)), (2, .ref (b + 1185)), (3, .ref (b + 1302)), (4, .int 2)] []) : Z p l e room_1 s m #[Value.ref bs] below meth c D b 7 Q (fun _ => none) 0 0 0 0 [(0, .ref bs)] [] := by
  have hk0 : ¬ nI L ≤ 0 → vp_in 0 L := fun h => by
    have h1 : 0 < L := by
      rcases Nat.eq_zero_or_pos L with q | q
      · exact absurd (by rw [q]; decide) h
      · exact q
    exact vp_in_nI (n := 0) h1 (by omega)
  have hk1 : ¬ nI L ≤ 1 → vp_in 1 L := fun h => by
    have h1 : 1 < L := by
      rcases Nat.lt_or_ge 1 L with q | q
      · exact q
      · exact absurd (nI_le (b := 1) q (by decide)) h
    exact vp_in_nI (n := 1) h1 (by omega)
  refine zr_new (fs := [.int 0, .int 0, .null, .int 0, .null, .null, .null, .null, .null, .null, .int 0, .int 0]) F 0 zd_LW_law_0 rfl zw_29 zw_30 zw_1 (zdef_OB) (Nat.le_of_ble_eq_true rfl) (Nat.le_of_ble_eq_true rfl) ?_
  refine zr_dup F zd_LW_law_3 rfl ?_
  refine zr_aload_n F zd_LW_law_4 rfl ?_
  refine zr_iconstv (v := 0) F zd_LW_law_5 (by decide) ?_
  refine zr_cell F hX hbl (fun h => hk0 h) zd_LW_law_6 zs_LW_21 ⟨(Nat.le_of_ble_eq_true rfl), (Nat.le_of_ble_eq_true rfl)⟩ (Nat.le_of_ble_eq_true rfl) ⟨(Nat.le_of_ble_eq_true rfl), (Nat.le_of_ble_eq_true rfl)⟩ ?_
  refine zr_aload_n F zd_LW_law_9 rfl ?_
  refine zr_iconstv (v := 1) F zd_LW_law_10 (by decide) ?_
  refine zr_cell F hX hbl (fun h => hk1 h) zd_LW_law_11 zs_LW_21 ⟨(Nat.le_of_ble_eq_true rfl), (Nat.le_of_ble_eq_true rfl)⟩ (Nat.le_of_ble_eq_true rfl) ⟨(Nat.le_of_ble_eq_true rfl), (Nat.le_of_ble_eq_true rfl)⟩ ?_
  refine zr_callI0 F (c_OB_init l D tA b _ 0 (zx_cell L xs 0) (zx_cell L xs 1) W H hW2 hH2 hWH (by rfl)) zd_LW_law_14 zs_LW_27 rfl zq_OB_init rfl rfl ⟨(Nat.le_of_ble_eq_true rfl), (Nat.le_of_ble_eq_true rfl)⟩ (Nat.le_of_ble_eq_true rfl) ⟨(Nat.le_of_ble_eq_true rfl), (Nat.le_of_ble_eq_true rfl)⟩ ?_
  refine zr_astore_n F zd_LW_law_17 (by decide) ?_
  refine zr_new (fs := [.int 0, .int 0, .null, .int 0, .null, .null, .null, .null, .null, .null, .int 0, .int 0, .int 0, .int 0, .null, .int 0, .null, .null, .null, .int 0]) F 1 zd_LW_law_18 rfl zw_1302 zw_1303 zw_13 (zdef_MD) (Nat.le_of_ble_eq_true rfl) (Nat.le_of_ble_eq_true rfl) ?_
  refine zr_dup F zd_LW_law_21 rfl ?_
  refine zr_aload_n F zd_LW_law_22 rfl ?_
  refine zr_iconstv (v := 0) F zd_LW_law_23 (by decide) ?_
  refine zr_cell F hX hbl (fun h => hk0 h) zd_LW_law_24 zs_LW_21 ⟨(Nat.le_of_ble_eq_true rfl), (Nat.le_of_ble_eq_true rfl)⟩ (Nat.le_of_ble_eq_true rfl) ⟨(Nat.le_of_ble_eq_true rfl), (Nat.le_of_ble_eq_true rfl)⟩ ?_
  refine zr_aload_n F zd_LW_law_27 rfl ?_
  refine zr_iconstv (v := 1) F zd_LW_law_28 (by decide) ?_
  refine zr_cell F hX hbl (fun h => hk1 h) zd_LW_law_29 zs_LW_21 ⟨(Nat.le_of_ble_eq_true rfl), (Nat.le_of_ble_eq_true rfl)⟩ (Nat.le_of_ble_eq_true rfl) ⟨(Nat.le_of_ble_eq_true rfl), (Nat.le_of_ble_eq_true rfl)⟩ ?_
  refine zr_callI0 F (c_MD_init l D tA b _ 0 (zx_cell L xs 0) (zx_cell L xs 1) W H hW hH (by rfl)) zd_LW_law_32 zs_LW_32 rfl zq_MD_init rfl rfl ⟨(Nat.le_of_ble_eq_true rfl), (Nat.le_of_ble_eq_true rfl)⟩ (Nat.le_of_ble_eq_true rfl) ⟨(Nat.le_of_ble_eq_true rfl), (Nat.le_of_ble_eq_true rfl)⟩ ?_
  refine zr_astore_n F zd_LW_law_35 (by decide) ?_
  refine zr_iconstv (v := 1) F zd_LW_law_36 (by decide) ?_
  refine zr_newa (N := 1) (a0 := (1, .inr (.inl (fun _ => 0)))) F 2 zd_LW_law_37 rfl rfl zw_1674 (fun _ => rfl) (by decide) (by decide) (Nat.le_of_ble_eq_true rfl) (Nat.le_of_ble_eq_true rfl) (Nat.le_of_ble_eq_true rfl) ?_
  refine zr_astore_n F zd_LW_law_39 (by decide) ?_
  refine zr_iconstv (v := 2) F zd_LW_law_40 (by decide) ?_
  refine zr_istore F zd_LW_law_41 (by decide) ?_
  refine zr_loc (L' := [(0, .ref bs), (1, .ref (b + 0)), (2, .ref (b + 1185)), (3, .ref (b + 1302)), (4, .int 2)]) ⟨rfl, rfl, rfl, rfl, rfl, trivial⟩ ?_
  exact hx
