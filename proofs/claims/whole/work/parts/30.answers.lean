section ZSC
variable {p : Program} {l : Launch} {e : Env} {R : Room} {s : State} {m : MethodId} {args : Array Value} {below : List Frame} {meth : Method} {c : Code} {Q : State → Prop}
variable {cc : ByteArray} {nL : Nat} {own : String} {D : va_G} {tA : Nat → ClassId} {b : Nat} {f : zV} {n cells slots pc : Nat} {L : List (Nat × Value)} {st : List Value}
theorem zr_slen (F : zF p s m args meth c cc nL own D tA b) {bs N : Nat} {xs : Nat → Int32} (hX : va_X bs N xs s s.heap) (hbl : bs < b) (hd : decode cc pc = .ok (.arraylength, 1)) (kk : Z p l e R s m args below meth c D b nL Q f n cells slots (pc + 1) L (.int (nI N) :: st)) : Z p l e R s m args below meth c D b nL Q f n cells slots pc L (.ref bs :: st) := fun H locs ls hH hS hL => va_slen F.hx F.hb hX (Nat.lt_of_lt_of_le hbl F.hbl) (Nat.not_le.mpr hbl) hS hd (kk H locs ls hH hS hL)
theorem zr_sld (F : zF p s m args meth c cc nL own D tA b) {bs N : Nat} {xs : Nat → Int32} {i : Int32} (hX : va_X bs N xs s s.heap) (hbl : bs < b) (hin : vp_in i N) (hd : decode cc pc = .ok (.iaload, 1)) (kk : Z p l e R s m args below meth c D b nL Q f n cells slots (pc + 1) L (.int (xs i.toNatClampNeg) :: st)) : Z p l e R s m args below meth c D b nL Q f n cells slots pc L (.int i :: .ref bs :: st) := fun H locs ls hH hS hL => va_sld F.hx F.hb hX (Nat.lt_of_lt_of_le hbl F.hbl) (Nat.not_le.mpr hbl) hS hin hd (kk H locs ls hH hS hL)
end ZSC
abbrev zb_LW_load : ByteArray := method_3_code
def zy_LW_load : MethodName := ⟨"OrreryBoxLaw", "load", "(LOrreryBox;[J)I"⟩
theorem zc_LW_load : Cond.codeWith zy_LW_load zb_LW_load 3 (some .int) [(0, 8, 11, 13)] ∈ gw := gw_t 1067 (by decide +kernel) rfl
theorem zq_LW_load : zy_LW_load.cls ≠ "java/lang/invoke/MethodHandle" ∧ zy_LW_load.cls ≠ "java/lang/invoke/VarHandle" ∧ (parseMethodDescriptor zy_LW_load.desc).map (fun d => d.parameters.length) = some 2 := by decide +kernel
theorem zd_LW_load_0 : decode zb_LW_load 0 = .ok (.aload_n 1, 1) := by decide +kernel
theorem zd_LW_load_1 : decode zb_LW_load 1 = .ok (.iconst 0, 1) := by decide +kernel
theorem zd_LW_load_2 : decode zb_LW_load 2 = .ok (.aload_n 0, 1) := by decide +kernel
theorem zd_LW_load_3 : decode zb_LW_load 3 = .ok (.invokevirtual 7, 3) := by decide +kernel
theorem zd_LW_load_6 : decode zb_LW_load 6 = .ok (.i2l, 1) := by decide +kernel
theorem zd_LW_load_7 : decode zb_LW_load 7 = .ok (.lastore, 1) := by decide +kernel
theorem zd_LW_load_8 : decode zb_LW_load 8 = .ok (.goto 6, 3) := by decide +kernel
theorem zd_LW_load_11 : decode zb_LW_load 11 = .ok (.astore_n 2, 1) := by decide +kernel
theorem zd_LW_load_12 : decode zb_LW_load 12 = .ok (.iconst 1, 1) := by decide +kernel
theorem zd_LW_load_13 : decode zb_LW_load 13 = .ok (.ireturn, 1) := by decide +kernel
theorem zd_LW_load_14 : decode zb_LW_load 14 = .ok (.iconst 0, 1) := by decide +kernel
theorem zd_LW_load_15 : decode zb_LW_load 15 = .ok (.ireturn, 1) := by decide +kernel
theorem zw_1069 : (Jvm.Cond.methodLink "OrreryBoxLaw" (7 : Nat) ({ cls := "OrreryBox", name := "load", desc := "()I" } : Jvm.MethodName)) ∈ gw := gw_t 1069 (by decide +kernel) rfl
theorem zw_1070 : (Jvm.Cond.instanceMethod ({ cls := "OrreryBox", name := "load", desc := "()I" } : Jvm.MethodName)) ∈ gw := gw_t 1070 (by decide +kernel) rfl
theorem zw_1071 : (Jvm.Cond.selects "OrreryBox" ({ cls := "OrreryBox", name := "load", desc := "()I" } : Jvm.MethodName) ({ cls := "OrreryBox", name := "load", desc := "()I" } : Jvm.MethodName)) ∈ gw := gw_t 1071 (by decide +kernel) rfl
theorem zs_LW_7 : zwV "OrreryBoxLaw" 7 "OrreryBox" zy_OB_load zb_OB_load 3 (some .int) := ⟨zw_1069, zw_1070, zw_1071, zw_1, zc_OB_load⟩
theorem zw_1068 : (Jvm.Cond.classLink "OrreryBoxLaw" (13 : Nat) "java/lang/IllegalArgumentException") ∈ gw := gw_t 1068 (by decide +kernel) rfl
theorem zw_cast_LW_load : (Jvm.Cond.castable "java/lang/IllegalArgumentException" "java/lang/IllegalArgumentException") ∈ gn := gn_t 1100 (by decide +kernel) rfl
set_option maxHeartbeats 4000000 in
set_option maxRecDepth 100000 in
theorem e_LW_load (l : Launch) (D : va_G) (tA : Nat → ClassId) (b : Nat) (f : zV) (n : Nat) (w : Int32) (h : Int32) (pt : Int32) (pa : Int32) (g2 : Nat → Option Nat) (gc : Nat → Int32) (gv : Nat → Int32) (gl : Nat → Int32) (h0 : f 0 = some (.inr (0, [.int w, .int h, .ref (b + 1), .int 0, .ref (b + 2), .ref (b + 11), .ref (b + 3), .ref (b + 1121), .ref (b + 1178), .ref (b + 5), .int 0, .int (-1)]))) (h2 : f 2 = some (.inl (tA 4, 3, .inr (.inr (.inr (.inr (g2))))))) (hp : f 1178 = some (.inr (5, [.int pt, .ref (b + (1179 + 4)), .ref (b + (1179 + 5)), .null, .int w, .int h, .int pa, .int 0, .ref (b + 1179), .ref (b + (1179 + 1)), .int 0, .ref (b + (1179 + 2)), .int 0, .long 0, .int 0, .int 0, .int 0, .int 0]))) (hf : f 3 = some (.inr (7, [.int 0, .int 0, .ref (b + 4), .null, .int 0, .int 0, .int 0, .null]))) (hs : f 751 = some (.inr (8, zsO b 752 0 0))) (hc : f 752 = some (.inl (tA 0, 5, .inl (gc)))) (hv : f ((752 + 22)) = some (.inl (tA 0, 7, .inl (gv)))) (hl_ : f ((752 + 23)) = some (.inl (tA 0, 4, .inl (gl)))) (k0 : va_rf (g2 (0 : Int32).toNatClampNeg) = .ref (b + 11)) (k1 : va_rf (g2 (1 : Int32).toNatClampNeg) = .ref (b + 381)) (k2 : va_rf (g2 (2 : Int32).toNatClampNeg) = .ref (b + 751)) (hl : l.stackTraces = false) : zMW l D tA b zy_LW_load zb_LW_load 3 (some .int) [(0, 8, 11, 13)] 10 180 1 6 [.ref (b + 0), .ref (b + 1302)] f n (zE (some (.int 1)) (zu (zu (zu (zu (zu (zu (f) 0 (.inr (0, [.int w, .int h, .ref (b + 1), .int 0, .ref (b + 2), .ref (b + 11), .ref (b + 3), .ref (b + 1121), .ref (b + 1178), .ref (b + 5), .int 0, .int (-1)]))) 3 (.inr (7, [.int 1, .int 0, .ref (b + 4), .ref (b + 1), .int 0, .int 0, .int 0, .ref (b + 751)]))) 752 (.inl (tA 0, 5, .inl (zclr gc 5)))) ((752 + 22)) (.inl (tA 0, 7, .inl (zview gv)))) ((752 + 23)) (.inl (tA 0, 4, .inl (zlamp gl)))) 751 (.inr (8, [.ref (b + 752), .ref (b + (752 + 1)), .ref (b + (752 + 2)), .ref (b + (752 + 19)), .ref (b + (752 + 20)), .ref (b + (752 + 21)), .ref (b + (752 + 22)), .ref (b + (752 + 23)), .int 0, .int 0, .ref (b + (752 + 24))]))) (n + 1)) := by
  refine zMW_of (own := "OrreryBoxLaw") (plainFor_of_name (by decide)) rfl (Nat.le_of_ble_eq_true rfl) (fun p e s m below meth c F hr htab hH => ?_)
  obtain ⟨xe, hx1, hx2⟩ := List.map_eq_singleton_iff.mp htab
  have q1 : xe.startPc = 0 := congrArg (fun t => t.1) hx2
  have q2 : xe.endPc = 8 := congrArg (fun t => t.2.1) hx2
  have q3 : xe.handlerPc = 11 := congrArg (fun t => t.2.2.1) hx2
  have q4 : xe.catchType = 13 := congrArg (fun t => t.2.2.2) hx2
  refine zr_aload_n F zd_LW_load_0 rfl ?_
  refine zr_iconstv (v := 0) F zd_LW_load_1 (by decide) ?_
  refine zr_aload_n F zd_LW_load_2 rfl ?_
  refine zr_catV (x := xe) F (e_OB_load l D tA b _ _ w h pt pa g2 gc gv gl h0 h2 hp hf hs hc hv hl_ k0 k1 k2 hl) zd_LW_load_3 h0 rfl zs_LW_7 rfl zq_OB_load rfl rfl ⟨(Nat.le_of_ble_eq_true rfl), (Nat.le_of_ble_eq_true rfl)⟩ (Nat.le_of_ble_eq_true rfl) ⟨(Nat.le_of_ble_eq_true rfl), (Nat.le_of_ble_eq_true rfl)⟩ hx1 (by simp [covers, q1, q2]) (by rw [q4]; decide) (by rw [q4]; exact zw_1068) zw_cast_LW_load zw_1099 (fun a => ?_)
  rw [q3]
  refine zr_astore_n F zd_LW_load_11 (by decide) ?_
  refine zr_iconstv (v := 1) F zd_LW_load_12 (by decide) ?_
  exact zr_iret F hr zd_LW_load_13 (Nat.le_of_ble_eq_true rfl) (Nat.le_of_ble_eq_true rfl) ⟨rfl, rfl, rfl⟩
abbrev zb_LW_world : ByteArray := method_4_code
def zy_LW_world : MethodName := ⟨"OrreryBoxLaw", "world", "(LOrreryBox;III[J)I"⟩
theorem zc_LW_world : Cond.codeWith zy_LW_world zb_LW_world 6 (some .int) [(0, 12, 15, 19)] ∈ gw := gw_t 1281 (by decide +kernel) rfl
theorem zq_LW_world : zy_LW_world.cls ≠ "java/lang/invoke/MethodHandle" ∧ zy_LW_world.cls ≠ "java/lang/invoke/VarHandle" ∧ (parseMethodDescriptor zy_LW_world.desc).map (fun d => d.parameters.length) = some 5 := by decide +kernel
theorem zd_LW_world_0 : decode zb_LW_world 0 = .ok (.aload 4, 2) := by decide +kernel
theorem zd_LW_world_2 : decode zb_LW_world 2 = .ok (.iconst 0, 1) := by decide +kernel
theorem zd_LW_world_3 : decode zb_LW_world 3 = .ok (.aload_n 0, 1) := by decide +kernel
theorem zd_LW_world_4 : decode zb_LW_world 4 = .ok (.iload_n 1, 1) := by decide +kernel
theorem zd_LW_world_5 : decode zb_LW_world 5 = .ok (.iload_n 2, 1) := by decide +kernel
theorem zd_LW_world_6 : decode zb_LW_world 6 = .ok (.iload_n 3, 1) := by decide +kernel
theorem zd_LW_world_7 : decode zb_LW_world 7 = .ok (.invokevirtual 15, 3) := by decide +kernel
theorem zd_LW_world_10 : decode zb_LW_world 10 = .ok (.i2l, 1) := by decide +kernel
theorem zd_LW_world_11 : decode zb_LW_world 11 = .ok (.lastore, 1) := by decide +kernel
theorem zd_LW_world_12 : decode zb_LW_world 12 = .ok (.goto 7, 3) := by decide +kernel
theorem zd_LW_world_15 : decode zb_LW_world 15 = .ok (.astore 5, 2) := by decide +kernel
theorem zd_LW_world_17 : decode zb_LW_world 17 = .ok (.iconst 1, 1) := by decide +kernel
theorem zd_LW_world_18 : decode zb_LW_world 18 = .ok (.ireturn, 1) := by decide +kernel
theorem zd_LW_world_19 : decode zb_LW_world 19 = .ok (.iconst 0, 1) := by decide +kernel
theorem zd_LW_world_20 : decode zb_LW_world 20 = .ok (.ireturn, 1) := by decide +kernel
theorem zw_1283 : (Jvm.Cond.methodLink "OrreryBoxLaw" (15 : Nat) ({ cls := "OrreryBox", name := "world", desc := "(III)I" } : Jvm.MethodName)) ∈ gw := gw_t 1283 (by decide +kernel) rfl
theorem zw_1284 : (Jvm.Cond.instanceMethod ({ cls := "OrreryBox", name := "world", desc := "(III)I" } : Jvm.MethodName)) ∈ gw := gw_t 1284 (by decide +kernel) rfl
theorem zw_1285 : (Jvm.Cond.selects "OrreryBox" ({ cls := "OrreryBox", name := "world", desc := "(III)I" } : Jvm.MethodName) ({ cls := "OrreryBox", name := "world", desc := "(III)I" } : Jvm.MethodName)) ∈ gw := gw_t 1285 (by decide +kernel) rfl
theorem zs_LW_15 : zwV "OrreryBoxLaw" 15 "OrreryBox" zy_OB_world zb_OB_world 4 (some .int) := ⟨zw_1283, zw_1284, zw_1285, zw_1, zc_OB_world⟩
theorem zw_1282 : (Jvm.Cond.classLink "OrreryBoxLaw" (19 : Nat) "java/util/NoSuchElementException") ∈ gw := gw_t 1282 (by decide +kernel) rfl
theorem zw_cast_LW_world : (Jvm.Cond.castable "java/util/NoSuchElementException" "java/util/NoSuchElementException") ∈ gn := gn_t 1289 (by decide +kernel) rfl
set_option maxHeartbeats 4000000 in
set_option maxRecDepth 100000 in
theorem e_LW_world (l : Launch) (D : va_G) (tA : Nat → ClassId) (b : Nat) (f : zV) (n : Nat) (k : Int32) (x : Int32) (y : Int32) (w : Int32) (h : Int32) (gc : Nat → Int32) (h0 : f 0 = some (.inr (0, [.int w, .int h, .ref (b + 1), .int 0, .ref (b + 2), .ref (b + 11), .ref (b + 3), .ref (b + 1121), .ref (b + 1178), .ref (b + 5), .int 0, .int (-1)]))) (hs : f 11 = some (.inr (8, zsO b 12 0 0))) (hc : f 12 = some (.inl (tA 0, 5, .inl (gc)))) (k3 : gc (3 : Int32).toNatClampNeg = 0) (hl : l.stackTraces = false) : zMW l D tA b zy_LW_world zb_LW_world 6 (some .int) [(0, 12, 15, 19)] 7 113 1 6 [.ref (b + 0), .int k, .int x, .int y, .ref (b + 1302)] f n (zE (some (.int 1)) (f) (n + 1)) := by
  refine zMW_of (own := "OrreryBoxLaw") (plainFor_of_name (by decide)) rfl (Nat.le_of_ble_eq_true rfl) (fun p e s m below meth c F hr htab hH => ?_)
  obtain ⟨xe, hx1, hx2⟩ := List.map_eq_singleton_iff.mp htab
  have q1 : xe.startPc = 0 := congrArg (fun t => t.1) hx2
  have q2 : xe.endPc = 12 := congrArg (fun t => t.2.1) hx2
  have q3 : xe.handlerPc = 15 := congrArg (fun t => t.2.2.1) hx2
  have q4 : xe.catchType = 19 := congrArg (fun t => t.2.2.2) hx2
  refine zr_aload F zd_LW_world_0 rfl ?_
  refine zr_iconstv (v := 0) F zd_LW_world_2 (by decide) ?_
  refine zr_aload_n F zd_LW_world_3 rfl ?_
  refine zr_iload_n F zd_LW_world_4 rfl ?_
  refine zr_iload_n F zd_LW_world_5 rfl ?_
  refine zr_iload_n F zd_LW_world_6 rfl ?_
  refine zr_catV (x := xe) F (e_OB_world l D tA b _ _ k x y w h gc h0 hs hc k3 hl) zd_LW_world_7 h0 rfl zs_LW_15 rfl zq_OB_world rfl rfl ⟨(Nat.le_of_ble_eq_true rfl), (Nat.le_of_ble_eq_true rfl)⟩ (Nat.le_of_ble_eq_true rfl) ⟨(Nat.le_of_ble_eq_true rfl), (Nat.le_of_ble_eq_true rfl)⟩ hx1 (by simp [covers, q1, q2]) (by rw [q4]; decide) (by rw [q4]; exact zw_1282) zw_cast_LW_world zw_1288 (fun a => ?_)
  rw [q3]
  refine zr_astore F zd_LW_world_15 (by decide) ?_
  refine zr_iconstv (v := 1) F zd_LW_world_17 (by decide) ?_
  exact zr_iret F hr zd_LW_world_18 (Nat.le_of_ble_eq_true rfl) (Nat.le_of_ble_eq_true rfl) ⟨rfl, rfl, rfl⟩
theorem e_OB_feed (l : Launch) (D : va_G) (tA : Nat → ClassId) (b : Nat) (f : zV) (n : Nat) (v0 v1 v2 v3 v4 : Int32) (g : Nat → Int32) (w h : Int32) (hf : f 0 = some (.inr (0, [.int w, .int h, .ref (b + 1), .int 0, .ref (b + 2), .ref (b + 11), .ref (b + 3), .ref (b + 1121), .ref (b + 1178), .ref (b + 5), .int 0, .int (-1)]))) (ht : f 1 = some (.inl (tA 1, 65536, .inl (g)))) : zM l D tA b zy_OB_feed zb_OB_feed 6 (some .boolean) 1 22 0 0 [.ref (b + 0), .int v0, .int v1, .int v2, .int v3, .int v4] f n (zE (some (.int 1)) (zu (zu f 1 (.inl (tA 1, 65536, .inl (zt20 g 0 v0 v1 v2 v3 v4)))) 0 (.inr (0, [.int w, .int h, .ref (b + 1), .int ((nI (0 + 20))), .ref (b + 2), .ref (b + 11), .ref (b + 3), .ref (b + 1121), .ref (b + 1178), .ref (b + 5), .int 0, .int (-1)]))) n) := by
  have hc := c_OB_feed l D tA b f n v0 v1 v2 v3 v4 0 g w h 11 0 (-1) (by decide) hf ht
  rw [if_pos (by decide), if_pos (by decide)] at hc
  exact hc
theorem e_MD_feed (l : Launch) (D : va_G) (tA : Nat → ClassId) (b : Nat) (f : zV) (n : Nat) (v0 v1 v2 v3 v4 : Int32) (g : Nat → Int32) (w h : Int32) (hf : f 1185 = some (.inr (1, [.int w, .int h, .ref (b + 1186), .int 0, .ref (b + 1187), .ref (b + 1217), .ref (b + 1247), .ref (b + 1277), .ref (b + 1285), .ref (b + 1278), .int 0, .int 0, .int 0, .int 0, .ref (b + 1281), .int 0, .ref (b + 1282), .ref (b + 1283), .ref (b + 1284), .int (-1)]))) (ht : f 1186 = some (.inl (tA 1, 65536, .inl (g)))) : zM l D tA b zy_MD_feed zb_MD_feed 6 (some .boolean) 1 22 0 0 [.ref (b + 1185), .int v0, .int v1, .int v2, .int v3, .int v4] f n (zE (some (.int 1)) (zu (zu f 1186 (.inl (tA 1, 65536, .inl (zt20 g 0 v0 v1 v2 v3 v4)))) 1185 (.inr (1, [.int w, .int h, .ref (b + 1186), .int ((nI (0 + 20))), .ref (b + 1187), .ref (b + 1217), .ref (b + 1247), .ref (b + 1277), .ref (b + 1285), .ref (b + 1278), .int 0, .int 0, .int 0, .int 0, .ref (b + 1281), .int 0, .ref (b + 1282), .ref (b + 1283), .ref (b + 1284), .int (-1)]))) n) := by
  have hc := c_MD_feed l D tA b f n v0 v1 v2 v3 v4 0 g w h 0 0 0 0 0 (-1) (by decide) hf ht
  rw [if_pos (by decide), if_pos (by decide)] at hc
  exact hc
theorem swn_OB_end {tA : Nat → ClassId} {b : Nat} {f : zV} {k : Int32} {w : Int32} {h : Int32} {tp : Int32} {sc : Nat} {gr : Int32} {pk : Int32} {ka : Nat} (h0 : ka ≠ 0) : sw_OB_end tA b f k w h tp sc gr pk ka = f ka := by
  unfold sw_OB_end
  repeat' split
  all_goals first | rfl | simp only [zu_n _ h0]
theorem swn_MD_end {tA : Nat → ClassId} {b : Nat} {f : zV} {k : Int32} {w : Int32} {h : Int32} {tp : Int32} {ti : Int32} {th : Int32} {wk : Int32} {wa : Int32} {bg : Int32} {pk : Int32} {ka : Nat} (h0 : ka ≠ 1185) : sw_MD_end tA b f k w h tp ti th wk wa bg pk ka = f ka := by
  unfold sw_MD_end
  repeat' split
  all_goals first | rfl | simp only [zu_n _ h0]
theorem swn_MD_error {tA : Nat → ClassId} {b : Nat} {f : zV} {k : Int32} {w : Int32} {h : Int32} {tp : Int32} {ti : Int32} {th : Int32} {wk : Int32} {wa : Int32} {bg : Int32} {pk : Int32} {ka : Nat} (h0 : ka ≠ 1185) : sw_MD_error tA b f k w h tp ti th wk wa bg pk ka = f ka := by
  unfold sw_MD_error
  repeat' split
  all_goals first | rfl | simp only [zu_n _ h0]
theorem swn_MD_count {tA : Nat → ClassId} {b : Nat} {f : zV} {k : Int32} {w : Int32} {h : Int32} {tp : Int32} {ti : Int32} {th : Int32} {wk : Int32} {wa : Int32} {bg : Int32} {pk : Int32} {t0 : Int32} {t1 : Int32} {t2 : Int32} {t3 : Int32} {t4 : Int32} {fo : Int32} {am0 : Int32} {ka : Nat} (h0 : ka ≠ 1185) : sw_MD_count tA b f k w h tp ti th wk wa bg pk t0 t1 t2 t3 t4 fo am0 ka = f ka := by
  unfold sw_MD_count
  repeat' split
  all_goals first | rfl | simp only [zu_n _ h0]
theorem swn_OB_camera {tA : Nat → ClassId} {b : Nat} {f : zV} {wt : Int32} {x : Int32} {y : Int32} {z : Int32} {w : Int32} {h : Int32} {tp : Int32} {sc : Nat} {gr : Int32} {pk : Int32} {q : Nat} {nw : Int32} {pl : Int32} {gv : Nat → Int32} {ka : Nat} (h0 : ka ≠ (q + 22)) : sw_OB_camera tA b f wt x y z w h tp sc gr pk q nw pl gv ka = f ka := by
  unfold sw_OB_camera
  repeat' split
  all_goals first | rfl | simp only [zu_n _ h0]
theorem swn_MD_camera {tA : Nat → ClassId} {b : Nat} {f : zV} {wt : Int32} {x : Int32} {y : Int32} {z : Int32} {w : Int32} {h : Int32} {tp : Int32} {ti : Int32} {th : Int32} {wk : Int32} {wa : Int32} {bg : Int32} {pk : Int32} {t0 : Int32} {t1 : Int32} {t2 : Int32} {t3 : Int32} {t4 : Int32} {fo : Int32} {am0 : Int32} {g1 : Nat → Int32} {g2 : Nat → Int32} {ka : Nat} (h0 : ka ≠ 1185) (h1 : ka ≠ 1187) (h2 : ka ≠ (1188 + 26)) (h3 : ka ≠ (1188 + 27)) : sw_MD_camera tA b f wt x y z w h tp ti th wk wa bg pk t0 t1 t2 t3 t4 fo am0 g1 g2 ka = f ka := by
  unfold sw_MD_camera
  repeat' split
  all_goals first | rfl | simp only [zu_n _ h0, zu_n _ h1, zu_n _ h2, zu_n _ h3]
theorem swn_OB_light {tA : Nat → ClassId} {b : Nat} {f : zV} {x : Int32} {y : Int32} {z : Int32} {am : Int32} {w : Int32} {h : Int32} {tp : Int32} {sc : Nat} {gr : Int32} {pk : Int32} {q : Nat} {nw : Int32} {pl : Int32} {gl : Nat → Int32} {ka : Nat} (h0 : ka ≠ (q + 23)) : sw_OB_light tA b f x y z am w h tp sc gr pk q nw pl gl ka = f ka := by
  unfold sw_OB_light
  repeat' split
  all_goals first | rfl | simp only [zu_n _ h0]
theorem swn_MD_light {tA : Nat → ClassId} {b : Nat} {f : zV} {x : Int32} {y : Int32} {z : Int32} {am : Int32} {w : Int32} {h : Int32} {tp : Int32} {ti : Int32} {th : Int32} {wk : Int32} {wa : Int32} {bg : Int32} {pk : Int32} {t0 : Int32} {t1 : Int32} {t2 : Int32} {t3 : Int32} {t4 : Int32} {fo : Int32} {am0 : Int32} {gl : Nat → Int32} {ka : Nat} (h0 : ka ≠ 1185) (h1 : ka ≠ 1187) (h2 : ka ≠ (1188 + 28)) : sw_MD_light tA b f x y z am w h tp ti th wk wa bg pk t0 t1 t2 t3 t4 fo am0 gl ka = f ka := by
  unfold sw_MD_light
  repeat' split
  all_goals first | rfl | simp only [zu_n _ h0, zu_n _ h1, zu_n _ h2]
theorem swn_OB_background {tA : Nat → ClassId} {b : Nat} {f : zV} {cr : Int32} {cg : Int32} {cb : Int32} {w : Int32} {h : Int32} {tp : Int32} {sc : Nat} {gr : Int32} {pk : Int32} {ka : Nat} (h0 : ka ≠ 0) : sw_OB_background tA b f cr cg cb w h tp sc gr pk ka = f ka := by
  unfold sw_OB_background
  repeat' split
  all_goals first | rfl | simp only [zu_n _ h0]
theorem swn_MD_background {tA : Nat → ClassId} {b : Nat} {f : zV} {x : Int32} {y : Int32} {z : Int32} {w : Int32} {h : Int32} {tp : Int32} {ti : Int32} {th : Int32} {wk : Int32} {wa : Int32} {bg : Int32} {pk : Int32} {gg : Nat → Int32} {ka : Nat} (h0 : ka ≠ 1185) (h1 : ka ≠ 1281) : sw_MD_background tA b f x y z w h tp ti th wk wa bg pk gg ka = f ka := by
  unfold sw_MD_background
  repeat' split
  all_goals first | rfl | simp only [zu_n _ h0, zu_n _ h1]
theorem swn_MD_picked {tA : Nat → ClassId} {b : Nat} {f : zV} {w : Int32} {h : Int32} {tp : Int32} {ti : Int32} {th : Int32} {wk : Int32} {wa : Int32} {bg : Int32} {pk : Int32} {ka : Nat} (h0 : ka ≠ 1185) : sw_MD_picked tA b f w h tp ti th wk wa bg pk ka = f ka := by
  unfold sw_MD_picked
  repeat' split
  all_goals first | rfl | simp only [zu_n _ h0]
theorem swn_MD_byteAt {tA : Nat → ClassId} {b : Nat} {f : zV} {k : Int32} {w : Int32} {h : Int32} {tp : Int32} {ti : Int32} {th : Int32} {wk : Int32} {wa : Int32} {bg : Int32} {pk : Int32} {z : Nat} {k1 : Int32} {k2 : Int32} {k3 : Int32} {kc : Value} {go : Nat → Int32} {ka : Nat} (h0 : ka ≠ 1185) : sw_MD_byteAt tA b f k w h tp ti th wk wa bg pk z k1 k2 k3 kc go ka = f ka := by
  unfold sw_MD_byteAt
  repeat' split
  all_goals first | rfl | simp only [zu_n _ h0]
theorem pe_within (v lo hi : Int32) : sp_OB_within v lo hi = if v < lo then 0 else if hi < v then 0 else 1 := rfl
theorem pe_all (x y z r : Int32) : sp_OB_allWithin x y z r = sp_MD_within x y z r := by
  unfold sp_OB_allWithin sp_MD_within sp_OB_within
  repeat' split
  all_goals first | rfl | contradiction | (exfalso; simp only [Int32.lt_iff_toInt_lt, Int32.le_iff_toInt_le] at *; omega) | (simp_all; done)
theorem pe_count (k : Int32) (gc : Nat → Int32) (hg : ∀ j : Nat, j < 5 → gc j = 0) {w h tp gr pk pl w' h' tp' th wk wa bg pk' fo am : Int32} {sc q : Nat} : sp_OB_count k w h tp sc gr pk q 0 pl gc = sp_MD_count k w' h' tp' 0 th wk wa bg pk' 0 0 0 0 0 fo am := by
  unfold sp_OB_count sp_MD_count
  by_cases h5 : k = 5
  · subst h5
    rw [if_pos rfl]
    decide
  rw [if_neg h5, if_neg h5]
  by_cases hw : sp_OB_within k 0 4 = 0
  · rw [if_pos hw]
    have hn : ∀ j : Int32, sp_OB_within j 0 4 ≠ 0 → ¬ k = j := fun j hj hk => hj (hk ▸ hw)
    rw [if_neg (hn 0 (by decide)), if_neg (hn 1 (by decide)), if_neg (hn 2 (by decide)), if_neg (hn 3 (by decide)), if_neg (hn 4 (by decide))]
  · rw [if_neg hw]
    obtain ⟨j, hj, rfl⟩ := zx_wn (N := 4) (by decide) (by decide) hw
    rw [nI_clamp (by omega), hg j (by omega)]
    rcases (show j = 0 ∨ j = 1 ∨ j = 2 ∨ j = 3 ∨ j = 4 by omega) with rfl | rfl | rfl | rfl | rfl <;> decide
theorem pe_camera (k x y z : Int32) {w h tp gr pk nw pl w' h' tp' ti th wk wa bg pk' t0 t1 t2 t3 t4 fo am : Int32} {sc q : Nat} {gv g1 g2 : Nat → Int32} : sp_OB_camera k x y z w h tp sc gr pk q nw pl gv = sp_MD_camera k x y z w' h' tp' ti th wk wa bg pk' t0 t1 t2 t3 t4 fo am g1 g2 := by
  unfold sp_OB_camera sp_MD_camera
  by_cases h2 : k = 2
  · subst h2
    have e : sp_OB_within 2 0 1 = 0 := by decide
    simp only [e, if_true, show ¬ (2 : Int32) < 0 by decide, show (2 : Int32) ≤ 2 by decide, if_false]
    rw [pe_within]
    repeat' split
    all_goals first | rfl | contradiction | (exfalso; simp only [Int32.lt_iff_toInt_lt, Int32.le_iff_toInt_le] at *; omega) | (simp_all; done)
  · rw [if_neg h2]
    by_cases hw : sp_OB_within k 0 1 = 0
    · rw [if_pos hw]
      by_cases a : k < 0
      · rw [if_pos a]
      · rw [if_neg a]
        by_cases c : k ≤ 2
        · exfalso
          obtain ⟨j, hj, rfl⟩ := nI_of2 (M := 2) (n := 2) (by decide) a c
          rcases (show j = 0 ∨ j = 1 ∨ j = 2 by omega) with rfl | rfl | rfl
          · exact absurd hw (by decide)
          · exact absurd hw (by decide)
          · exact absurd rfl h2
        · rw [if_neg c]
    · rw [if_neg hw]
      obtain ⟨j, hj, rfl⟩ := zx_wn (N := 1) (by decide) (by decide) hw
      rcases (show j = 0 ∨ j = 1 by omega) with rfl | rfl
      · rw [if_neg (show ¬ nI 0 < 0 by decide), if_pos (show nI 0 ≤ 2 by decide), if_neg h2, if_pos (show nI 0 = 0 by decide), pe_all, show sp_OB_reachOf (nI 0) = 4194304 by decide]
        repeat' split
        all_goals rfl
      · rw [if_neg (show ¬ nI 1 < 0 by decide), if_pos (show nI 1 ≤ 2 by decide), if_neg h2, if_neg (show ¬ nI 1 = 0 by decide), pe_all, show sp_OB_reachOf (nI 1) = 1048576 by decide]
        repeat' split
        all_goals rfl
theorem pe_light (x y z am : Int32) {w h tp gr pk nw pl w' h' tp' ti th wk wa bg pk' t0 t1 t2 t3 t4 fo am0 : Int32} {sc q : Nat} {gl g1 : Nat → Int32} : sp_OB_light x y z am w h tp sc gr pk q nw pl gl = sp_MD_light x y z am w' h' tp' ti th wk wa bg pk' t0 t1 t2 t3 t4 fo am0 g1 := by
  unfold sp_OB_light sp_MD_light
  rw [pe_all, pe_within]
  repeat' split
  all_goals first | rfl | contradiction | (exfalso; simp only [Int32.lt_iff_toInt_lt, Int32.le_iff_toInt_le] at *; omega) | (simp_all; done)
theorem pe_background (x y z : Int32) {w h tp gr pk w' h' tp' ti th wk wa bg pk' : Int32} {sc : Nat} {gg : Nat → Int32} : sp_OB_background x y z w h tp sc gr pk = sp_MD_background x y z w' h' tp' ti th wk wa bg pk' gg := rfl
theorem pe_byteAt (k : Int32) {w h tp gr pk k1 k2 k3 k4 k5 w' h' tp' ti th wk wa bg pk' j1 j2 j3 : Int32} {sc : Nat} {kc : Value} {go go' : Nat → Int32} : sp_OB_byteAt k w h tp sc gr pk 0 k1 k2 k3 k4 k5 go = sp_MD_byteAt k w' h' tp' ti th wk wa bg pk' 0 j1 j2 j3 kc go' := by
  unfold sp_OB_byteAt sp_MD_byteAt
  have hw : sp_OB_within k 0 (nI 0 - 1) = 0 := by
    by_cases a : k < 0
    · rw [pe_within, if_pos a]
    · rw [pe_within, if_neg a, if_pos]
      have a' := Int32.not_lt.mp a
      exact Int32.lt_of_lt_of_le (by decide) a'
  rw [if_pos hw]
  by_cases a : k < 0
  · rw [if_pos a]
  · rw [if_neg a, if_neg (show ¬ k < nI 0 from a)]
theorem pe_time (t : Int32) {w h w' h' : Int32} {gc : Nat → Int32} : sp_e_OB_time t w h gc = sp_e_MD_time t w' h' := by
  unfold sp_e_OB_time sp_e_MD_time
  rw [pe_within]
  repeat' split
  all_goals first | rfl | contradiction | (exfalso; simp only [Int32.lt_iff_toInt_lt, Int32.le_iff_toInt_le] at *; omega) | (simp_all; done)
