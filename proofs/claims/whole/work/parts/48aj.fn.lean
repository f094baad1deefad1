theorem zw_251 : (Jvm.Cond.fieldLink "OrreryBox$Scene" (72 : Nat) "OrreryBox$Track" "node" "I") ∈ gw := gw_t 251 (by decide +kernel) rfl
theorem zw_226 : (Jvm.Cond.fieldLink "OrreryBox$Scene" (75 : Nat) "OrreryBox$Node" "numbers" "[I") ∈ gw := gw_t 226 (by decide +kernel) rfl
theorem zw_557 : (Jvm.Cond.methodLink "OrreryBox$Scene" (78 : Nat) ({ cls := "OrreryBox$Track", name := "apply", desc := "(I[I)V" } : Jvm.MethodName)) ∈ gw := gw_t 557 (by decide +kernel) rfl
theorem zw_558 : (Jvm.Cond.instanceMethod ({ cls := "OrreryBox$Track", name := "apply", desc := "(I[I)V" } : Jvm.MethodName)) ∈ gw := gw_t 558 (by decide +kernel) rfl
theorem zw_559 : (Jvm.Cond.selects "OrreryBox$Track" ({ cls := "OrreryBox$Track", name := "apply", desc := "(I[I)V" } : Jvm.MethodName) ({ cls := "OrreryBox$Track", name := "apply", desc := "(I[I)V" } : Jvm.MethodName)) ∈ gw := gw_t 559 (by decide +kernel) rfl
theorem zs_XScene_78 : zwV "OrreryBox$Scene" 78 "OrreryBox$Track" zy_XTrack_apply zb_XTrack_apply 5 none := ⟨zw_557, zw_558, zw_559, zw_9, zc_XTrack_apply⟩
def L_XScene_moveTo_12 (sh : zSh) (fuel : Nat) (v0 : Nat) (v1 : Int32) (v2 : Int32) (mm : zMem) : Option (Nat × Int32 × Int32 × zMem) := match fuel with
  | 0 => none
  | fu + 1 => zoS (sh v0) 8 (fun le8 => Option.bind (mm.2.2 v0 0) (fun a9 => zoS (sh a9) 100 (fun le11 => if (4 : Int32) < 0 ∨ le11 ≤ (4 : Int32).toNatClampNeg then none else (if (mm.1 a9 (4 : Int32).toNatClampNeg) ≤ v2 then some (v0, v1, v2, mm) else zoS (sh v0) 8 (fun le15 => Option.bind (mm.2.2 v0 5) (fun a16 => zoR (sh a16) (fun t20 le18 => if (v2 : Int32) < 0 ∨ le18 ≤ (v2 : Int32).toNatClampNeg then none else Option.bind (mm.2.2 a16 (v2 : Int32).toNatClampNeg) (fun a21 => zoS (sh v0) 8 (fun le23 => Option.bind (mm.2.2 v0 4) (fun a24 => zoS (sh v0) 8 (fun le26 => Option.bind (mm.2.2 v0 5) (fun a27 => zoR (sh a27) (fun t31 le29 => if (v2 : Int32) < 0 ∨ le29 ≤ (v2 : Int32).toNatClampNeg then none else Option.bind (mm.2.2 a27 (v2 : Int32).toNatClampNeg) (fun a32 => zoS (sh a32) 11 (fun le34 => zoL (mm.1 a32 0) (fun i35 => zoR (sh a24) (fun t39 le37 => if (i35 : Int32) < 0 ∨ le37 ≤ (i35 : Int32).toNatClampNeg then none else Option.bind (mm.2.2 a24 (i35 : Int32).toNatClampNeg) (fun a40 => zoS (sh a40) 3 (fun le42 => Option.bind (mm.2.2 a40 4) (fun a43 => zoS (sh a21) 11 (fun le45 => Option.bind (F_XTrack_apply sh mm a21 v1 a43) (fun p46 => L_XScene_moveTo_12 sh fu v0 v1 (v2 + 1) p46))))))))))))))))))))))
set_option maxHeartbeats 4000000 in
set_option maxRecDepth 100000 in
theorem lp_XScene_moveTo_12 {p : Program} {l : Launch} {e : Env} {s : State} {m : MethodId} {args : Array Value} {below : List Frame} {meth : Method} {c : Code} {D : va_G} {tA : Nat → ClassId} {b n : Nat} {post : Option Value → zV → Nat → Prop} {sh : zSh} (F : zF p s m args meth c zb_XScene_moveTo 3 "OrreryBox$Scene" D tA b) : ∀ (fuel : Nat) (v0 : Nat) (v1 : Int32) (v2 : Int32) (mm : zMem) (r : Nat × Int32 × Int32 × zMem), L_XScene_moveTo_12 sh fuel v0 v1 v2 mm = some r → (Z p l e { frames := 4, cells := 0, slots := 0, locals := 106 } s m args below meth c D b 3 (MQ below (zQ D b post) args s 0 0 (fun q => b ≤ q)) (zW tA b sh r.2.2.2) n 0 0 55 [(0, .ref (b + (r.1))), (1, .int (r.2.1)), (2, .int (r.2.2.1))] []) → Z p l e { frames := 4, cells := 0, slots := 0, locals := 106 } s m args below meth c D b 3 (MQ below (zQ D b post) args s 0 0 (fun q => b ≤ q)) (zW tA b sh mm) n 0 0 12 [(0, .ref (b + v0)), (1, .int v1), (2, .int v2)] [] := by
  intro fuel
  induction fuel with
  | zero =>
    intro v0 v1 v2 mm r h
    cases h
  | succ fu ih =>
    intro v0 v1 v2 mm r h hx0
    rw [L_XScene_moveTo_12] at h
    refine zr_iload_n F zd_XScene_moveTo_12 rfl ?_
    refine zr_aload_n F zd_XScene_moveTo_13 rfl ?_
    obtain ⟨le8, hs7, h⟩ := zoS_s h
    obtain ⟨a9, ea9, h⟩ := zoB_s h
    refine zr_get F 8 0 zd_XScene_moveTo_14 (zW_o hs7 (by decide)) rfl (by decide) zw_281 rfl (by rfl) ?_
    refine zr_tor ea9 ?_
    refine zr_iconstv (v := 4) F zd_XScene_moveTo_17 (by decide) ?_
    obtain ⟨le11, hs10, h⟩ := zoS_s h
    obtain ⟨hi12, h⟩ := zoI_s h
    refine zr_iald F zd_XScene_moveTo_18 (zW_a0 hs10) hi12 ?_
    refine zr_icmp_ge F 55 zd_XScene_moveTo_19 (by decide) (fun hb13 => ?_) (fun hb13 => ?_)
    ·
      replace h := (if_pos hb13).symm.trans h
      obtain rfl := Option.some.inj h
      refine zr_loc (L' := [(0, .ref (b + v0)), (1, .int v1), (2, .int v2)]) ⟨rfl, rfl, rfl, trivial⟩ ?_
      exact hx0 
    ·
      replace h := (if_neg hb13).symm.trans h
      refine zr_aload_n F zd_XScene_moveTo_22 rfl ?_
      refine zr_pcn 23 rfl ?_
      obtain ⟨le15, hs14, h⟩ := zoS_s h
      obtain ⟨a16, ea16, h⟩ := zoB_s h
      refine zr_get F 8 5 zd_XScene_moveTo_23 (zW_o hs14 (by decide)) rfl (by decide) zw_299 rfl (by rfl) ?_
      refine zr_tor ea16 ?_
      refine zr_iload_n F zd_XScene_moveTo_26 rfl ?_
      obtain ⟨t20, le18, hs17, h⟩ := zoR_s h
      obtain ⟨hi19, h⟩ := zoI_s h
      obtain ⟨a21, ea21, h⟩ := zoB_s h
      refine zr_aaldW F zd_XScene_moveTo_27 hs17 hi19 ea21 ?_
      refine zr_iload_n F zd_XScene_moveTo_28 rfl ?_
      refine zr_aload_n F zd_XScene_moveTo_29 rfl ?_
      obtain ⟨le23, hs22, h⟩ := zoS_s h
      obtain ⟨a24, ea24, h⟩ := zoB_s h
      refine zr_get F 8 4 zd_XScene_moveTo_30 (zW_o hs22 (by decide)) rfl (by decide) zw_295 rfl (by rfl) ?_
      refine zr_tor ea24 ?_
      refine zr_aload_n F zd_XScene_moveTo_33 rfl ?_
      obtain ⟨le26, hs25, h⟩ := zoS_s h
      obtain ⟨a27, ea27, h⟩ := zoB_s h
      refine zr_get F 8 5 zd_XScene_moveTo_34 (zW_o hs25 (by decide)) rfl (by decide) zw_299 rfl (by rfl) ?_
      refine zr_tor ea27 ?_
      refine zr_pcn 37 rfl ?_
      refine zr_iload_n F zd_XScene_moveTo_37 rfl ?_
      obtain ⟨t31, le29, hs28, h⟩ := zoR_s h
      obtain ⟨hi30, h⟩ := zoI_s h
      obtain ⟨a32, ea32, h⟩ := zoB_s h
      refine zr_aaldW F zd_XScene_moveTo_38 hs28 hi30 ea32 ?_
      obtain ⟨le34, hs33, h⟩ := zoS_s h
      refine zr_get F 11 0 zd_XScene_moveTo_39 (zW_o hs33 (by decide)) rfl (by decide) zw_251 rfl (by rfl) ?_
      obtain ⟨i35, ei35, h⟩ := zoL_s h
      rw [← ei35]
      obtain ⟨t39, le37, hs36, h⟩ := zoR_s h
      obtain ⟨hi38, h⟩ := zoI_s h
      obtain ⟨a40, ea40, h⟩ := zoB_s h
      refine zr_aaldW F zd_XScene_moveTo_42 hs36 hi38 ea40 ?_
      obtain ⟨le42, hs41, h⟩ := zoS_s h
      obtain ⟨a43, ea43, h⟩ := zoB_s h
      refine zr_get F 3 4 zd_XScene_moveTo_43 (zW_o hs41 (by decide)) rfl (by decide) zw_226 rfl (by rfl) ?_
      refine zr_tor ea43 ?_
      obtain ⟨le45, hs44, h⟩ := zoS_s h
      obtain ⟨p46, ep46, h⟩ := zoB_s h
      refine zr_callV0 F (k_XTrack_apply l D tA b sh _ ep46) zd_XScene_moveTo_46 (zW_o hs44 (by decide)) rfl zs_XScene_78 rfl zq_XTrack_apply rfl rfl ⟨(Nat.le_of_ble_eq_true rfl), (Nat.le_of_ble_eq_true rfl)⟩ (Nat.le_of_ble_eq_true rfl) ⟨(Nat.le_of_ble_eq_true rfl), (Nat.le_of_ble_eq_true rfl)⟩ ?_
      refine zr_iinc (v := (v2 + 1)) F zd_XScene_moveTo_49 rfl rfl (by decide) ?_
      refine zr_goto F 12 zd_XScene_moveTo_52 (by decide) ?_
      refine zr_loc (L' := [(0, .ref (b + v0)), (1, .int v1), (2, .int (v2 + 1))]) ⟨rfl, rfl, rfl, trivial⟩ ?_
      exact ih _ _ _ _ _ h hx0
def F_XScene_moveTo (sh : zSh) (mm : zMem) (o : Nat) (x0_ : Int32) : Option zMem := zoS (sh o) 8 (fun le2 => zoL (mI mm o 8 x0_) (fun mm3 => zoS (sh o) 8 (fun le5 => zoL (mI mm3 o 9 0) (fun mm6 => Option.bind (L_XScene_moveTo_12 sh zfuel o x0_ 0 mm6) (fun q47 => some (q47.2.2.2))))))
set_option maxHeartbeats 4000000 in
set_option maxRecDepth 100000 in
theorem k_XScene_moveTo (l : Launch) (D : va_G) (tA : Nat → ClassId) (b : Nat) (sh : zSh) (n : Nat) {mm : zMem} {o : Nat} {x0_ : Int32} {r : zMem} (h : F_XScene_moveTo sh mm o x0_ = some r) : zM l D tA b zy_XScene_moveTo zb_XScene_moveTo 3 none 4 106 0 0 [.ref (b + o), .int x0_] (zW tA b sh mm) n (zE none (zW tA b sh r) n) := by
  unfold F_XScene_moveTo at h
  refine zM_of (own := "OrreryBox$Scene") (plainFor_of_name (by decide)) rfl (Nat.le_of_ble_eq_true rfl) (fun p e s m below meth c F hr hin hH => ?_)
  refine zr_aload_n F zd_XScene_moveTo_0 rfl ?_
  refine zr_iload_n F zd_XScene_moveTo_1 rfl ?_
  obtain ⟨le2, hs1, h⟩ := zoS_s h
  refine zr_put F 8 8 zd_XScene_moveTo_2 (zW_o hs1 (by decide)) rfl (by decide) zw_309 rfl rfl rfl rfl (by exact (Nat.le_of_ble_eq_true rfl)) ?_
  obtain ⟨mm3, emm3, h⟩ := zoL_s h
  refine zr_norm (zW tA b sh mm3) _ (by rw [emm3]; exact zW_pI (v := x0_) hs1 (by decide) (zf_I_8_8 b _ _ _)) rfl ?_
  refine zr_aload_n F zd_XScene_moveTo_5 rfl ?_
  refine zr_iconstv (v := 0) F zd_XScene_moveTo_6 (by decide) ?_
  obtain ⟨le5, hs4, h⟩ := zoS_s h
  refine zr_put F 8 9 zd_XScene_moveTo_7 (zW_o hs4 (by decide)) rfl (by decide) zw_311 rfl rfl rfl rfl (by exact (Nat.le_of_ble_eq_true rfl)) ?_
  obtain ⟨mm6, emm6, h⟩ := zoL_s h
  refine zr_norm (zW tA b sh mm6) _ (by rw [emm6]; exact zW_pI (v := 0) hs4 (by decide) (zf_I_8_9 b _ _ _)) rfl ?_
  refine zr_iconstv (v := 0) F zd_XScene_moveTo_10 (by decide) ?_
  refine zr_pcn 11 rfl ?_
  refine zr_istore_n F zd_XScene_moveTo_11 (by decide) ?_
  obtain ⟨q47, eq47, h⟩ := zoB_s h
  refine zr_loc (L' := [(0, .ref (b + o)), (1, .int x0_), (2, .int 0)]) ⟨rfl, rfl, rfl, trivial⟩ ?_
  refine lp_XScene_moveTo_12 F _ _ _ _ _ _ eq47 ?_
  ·
    refine zr_pcn 55 rfl ?_
    obtain rfl := Option.some.inj h
    exact zr_vret F hr zd_XScene_moveTo_55 (Nat.le_of_ble_eq_true rfl) (Nat.le_of_ble_eq_true rfl) ⟨rfl, rfl, rfl⟩
theorem zf_R_9_7 (b : Nat) (m : zMem) (k : Nat) (v : Option Nat) : (zfl b 9 m k).set 7 (zrf b v) = zfl b 9 (mR m k 7 v) k := by simp [zfl, mR, upd, vp_updL]
theorem zf_I_9_12 (b : Nat) (m : zMem) (k : Nat) (v : Int32) : (zfl b 9 m k).set 12 (.int v) = zfl b 9 (mI m k 12 v) k := by simp [zfl, mI, upd, vp_updL]
theorem zf_I_9_1 (b : Nat) (m : zMem) (k : Nat) (v : Int32) : (zfl b 9 m k).set 1 (.int v) = zfl b 9 (mI m k 1 v) k := by simp [zfl, mI, upd, vp_updL]
theorem zf_I_9_4 (b : Nat) (m : zMem) (k : Nat) (v : Int32) : (zfl b 9 m k).set 4 (.int v) = zfl b 9 (mI m k 4 v) k := by simp [zfl, mI, upd, vp_updL]
theorem zw_223 : (Jvm.Cond.fieldLink "OrreryBox$Sight" (80 : Nat) "OrreryBox$Node" "shown" "Z") ∈ gw := gw_t 223 (by decide +kernel) rfl
theorem zw_679 : (Jvm.Cond.methodLink "OrreryBox$Sight" (92 : Nat) ({ cls := "OrreryBox$Fixed", name := "multiply", desc := "([I[I[I)V" } : Jvm.MethodName)) ∈ gw := gw_t 679 (by decide +kernel) rfl
theorem zs_XSight_92 : zwS "OrreryBox$Sight" 92 zy_XFixed_multiply zb_XFixed_multiply 7 none := ⟨zw_679, zw_658, zw_27, zc_XFixed_multiply⟩
theorem zw_680 : (Jvm.Cond.methodLink "OrreryBox$Sight" (98 : Nat) ({ cls := "OrreryBox$Sight", name := "queue", desc := "(I)V" } : Jvm.MethodName)) ∈ gw := gw_t 680 (by decide +kernel) rfl
theorem zw_682 : (Jvm.Cond.instanceMethod ({ cls := "OrreryBox$Sight", name := "queue", desc := "(I)V" } : Jvm.MethodName)) ∈ gw := gw_t 682 (by decide +kernel) rfl
theorem zv_6 : (Jvm.Cond.selects "OrreryBox$Sight" (⟨"OrreryBox$Sight", "queue", "(I)V"⟩ : MethodName) ⟨"OrreryBox$Sight", "queue", "(I)V"⟩) ∈ gw := gw_s 6 (by decide +kernel) rfl
theorem zs_XSight_98 : zwV "OrreryBox$Sight" 98 "OrreryBox$Sight" zy_XSight_queue zb_XSight_queue 3 none := ⟨zw_680, zw_682, zv_6, zw_10, zc_XSight_queue⟩
def L_XSight_stand_36 (sh : zSh) (fuel : Nat) (v0 : Nat) (v2 : Int32) (mm : zMem) : Option (Nat × Int32 × zMem) := match fuel with
  | 0 => none
  | fu + 1 => zoS (sh v0) 9 (fun le23 => Option.bind (mm.2.2 v0 7) (fun a24 => zoS (sh a24) 8 (fun le26 => Option.bind (mm.2.2 a24 0) (fun a27 => zoS (sh a27) 100 (fun le29 => if (3 : Int32) < 0 ∨ le29 ≤ (3 : Int32).toNatClampNeg then none else (if (mm.1 a27 (3 : Int32).toNatClampNeg) ≤ v2 then some (v0, v2, mm) else zoS (sh v0) 9 (fun le33 => Option.bind (mm.2.2 v0 7) (fun a34 => zoS (sh a34) 8 (fun le36 => Option.bind (mm.2.2 a34 4) (fun a37 => zoR (sh a37) (fun t41 le39 => if (v2 : Int32) < 0 ∨ le39 ≤ (v2 : Int32).toNatClampNeg then none else Option.bind (mm.2.2 a37 (v2 : Int32).toNatClampNeg) (fun a42 => zoS (sh a42) 3 (fun le44 => (if (mm.1 a42 3) = 0 then L_XSight_stand_36 sh fu v0 (v2 + 1) mm else zoS (sh a42) 3 (fun le47 => (if (mm.1 a42 1) < 0 then L_XSight_stand_36 sh fu v0 (v2 + 1) mm else zoS (sh v0) 9 (fun le50 => Option.bind (mm.2.2 v0 8) (fun a51 => zoS (sh a42) 3 (fun le53 => Option.bind (mm.2.2 a42 5) (fun a54 => zoS (sh v0) 9 (fun le56 => Option.bind (mm.2.2 v0 9) (fun a57 => zoR (sh a57) (fun t61 le59 => if (v2 : Int32) < 0 ∨ le59 ≤ (v2 : Int32).toNatClampNeg then none else Option.bind (mm.2.2 a57 (v2 : Int32).toNatClampNeg) (fun a62 => Option.bind (F_XFixed_multiply sh mm a51 a54 a62) (fun p63 => zoS (sh v0) 9 (fun le65 => Option.bind (F_XSight_queue sh p63 v0 v2) (fun p66 => L_XSight_stand_36 sh fu v0 (v2 + 1) p66)))))))))))))))))))))))))))
set_option maxHeartbeats 4000000 in
set_option maxRecDepth 100000 in
theorem lp_XSight_stand_36 {p : Program} {l : Launch} {e : Env} {s : State} {m : MethodId} {args : Array Value} {below : List Frame} {meth : Method} {c : Code} {D : va_G} {tA : Nat → ClassId} {b n : Nat} {post : Option Value → zV → Nat → Prop} {sh : zSh} (F : zF p s m args meth c zb_XSight_stand 4 "OrreryBox$Sight" D tA b) : ∀ (fuel : Nat) (v0 : Nat) (v2 : Int32) (mm : zMem) (r : Nat × Int32 × zMem), L_XSight_stand_36 sh fuel v0 v2 mm = some r → (Z p l e { frames := 5, cells := 0, slots := 0, locals := 124 } s m args below meth c D b 4 (MQ below (zQ D b post) args s 0 0 (fun q => b ≤ q)) (zW tA b sh r.2.2) n 0 0 101 [(0, .ref (b + (r.1))), (2, .int (r.2.1))] []) → Z p l e { frames := 5, cells := 0, slots := 0, locals := 124 } s m args below meth c D b 4 (MQ below (zQ D b post) args s 0 0 (fun q => b ≤ q)) (zW tA b sh mm) n 0 0 36 [(0, .ref (b + v0)), (2, .int v2)] [] := by
  intro fuel
  induction fuel with
  | zero =>
    intro v0 v2 mm r h
    cases h
  | succ fu ih =>
    intro v0 v2 mm r h hx0
    rw [L_XSight_stand_36] at h
    refine zr_iload_n F zd_XSight_stand_36 rfl ?_
    refine zr_pcn 37 rfl ?_
    refine zr_aload_n F zd_XSight_stand_37 rfl ?_
    obtain ⟨le23, hs22, h⟩ := zoS_s h
    obtain ⟨a24, ea24, h⟩ := zoB_s h
    refine zr_get F 9 7 zd_XSight_stand_38 (zW_o hs22 (by decide)) rfl (by decide) zw_380 rfl (by rfl) ?_
    refine zr_tor ea24 ?_
    obtain ⟨le26, hs25, h⟩ := zoS_s h
    obtain ⟨a27, ea27, h⟩ := zoB_s h
    refine zr_get F 8 0 zd_XSight_stand_41 (zW_o hs25 (by decide)) rfl (by decide) zw_282 rfl (by rfl) ?_
    refine zr_tor ea27 ?_
    refine zr_iconstv (v := 3) F zd_XSight_stand_44 (by decide) ?_
    obtain ⟨le29, hs28, h⟩ := zoS_s h
    obtain ⟨hi30, h⟩ := zoI_s h
    refine zr_iald F zd_XSight_stand_45 (zW_a0 hs28) hi30 ?_
    refine zr_icmp_ge F 101 zd_XSight_stand_46 (by decide) (fun hb31 => ?_) (fun hb31 => ?_)
    ·
      replace h := (if_pos hb31).symm.trans h
      obtain rfl := Option.some.inj h
      refine zr_loc (L' := [(0, .ref (b + v0)), (2, .int v2)]) ⟨rfl, rfl, trivial⟩ ?_
      exact hx0 
    ·
      replace h := (if_neg hb31).symm.trans h
      refine zr_aload_n F zd_XSight_stand_49 rfl ?_
      obtain ⟨le33, hs32, h⟩ := zoS_s h
      obtain ⟨a34, ea34, h⟩ := zoB_s h
      refine zr_get F 9 7 zd_XSight_stand_50 (zW_o hs32 (by decide)) rfl (by decide) zw_380 rfl (by rfl) ?_
      refine zr_tor ea34 ?_
      refine zr_pcn 53 rfl ?_
      obtain ⟨le36, hs35, h⟩ := zoS_s h
      obtain ⟨a37, ea37, h⟩ := zoB_s h
      refine zr_get F 8 4 zd_XSight_stand_53 (zW_o hs35 (by decide)) rfl (by decide) zw_296 rfl (by rfl) ?_
      refine zr_tor ea37 ?_
      refine zr_iload_n F zd_XSight_stand_56 rfl ?_
      obtain ⟨t41, le39, hs38, h⟩ := zoR_s h
      obtain ⟨hi40, h⟩ := zoI_s h
      obtain ⟨a42, ea42, h⟩ := zoB_s h
      refine zr_aaldW F zd_XSight_stand_57 hs38 hi40 ea42 ?_
      refine zr_astore_n F zd_XSight_stand_58 (by decide) ?_
      refine zr_aload_n F zd_XSight_stand_59 rfl ?_
      obtain ⟨le44, hs43, h⟩ := zoS_s h
      refine zr_get F 3 3 zd_XSight_stand_60 (zW_o hs43 (by decide)) rfl (by decide) zw_223 rfl (by rfl) ?_
      refine zr_if_eq F 95 zd_XSight_stand_63 (by decide) (fun hb45 => ?_) (fun hb45 => ?_)
      ·
        replace h := (if_pos hb45).symm.trans h
        refine zr_iinc (v := (v2 + 1)) F zd_XSight_stand_95 rfl rfl (by decide) ?_
        refine zr_pcn 98 rfl ?_
        refine zr_goto F 36 zd_XSight_stand_98 (by decide) ?_
        refine zr_loc (L' := [(0, .ref (b + v0)), (2, .int (v2 + 1))]) ⟨rfl, rfl, trivial⟩ ?_
        exact ih _ _ _ _ h hx0
      ·
        replace h := (if_neg hb45).symm.trans h
        refine zr_aload_n F zd_XSight_stand_66 rfl ?_
        obtain ⟨le47, hs46, h⟩ := zoS_s h
        refine zr_get F 3 1 zd_XSight_stand_67 (zW_o hs46 (by decide)) rfl (by decide) zw_217 rfl (by rfl) ?_
        refine zr_if_lt F 95 zd_XSight_stand_70 (by decide) (fun hb48 => ?_) (fun hb48 => ?_)
        ·
          replace h := (if_pos hb48).symm.trans h
          refine zr_iinc (v := (v2 + 1)) F zd_XSight_stand_95 rfl rfl (by decide) ?_
          refine zr_goto F 36 zd_XSight_stand_98 (by decide) ?_
          refine zr_loc (L' := [(0, .ref (b + v0)), (2, .int (v2 + 1))]) ⟨rfl, rfl, trivial⟩ ?_
          exact ih _ _ _ _ h hx0
        ·
          replace h := (if_neg hb48).symm.trans h
          refine zr_aload_n F zd_XSight_stand_73 rfl ?_
          obtain ⟨le50, hs49, h⟩ := zoS_s h
          obtain ⟨a51, ea51, h⟩ := zoB_s h
          refine zr_get F 9 8 zd_XSight_stand_74 (zW_o hs49 (by decide)) rfl (by decide) zw_381 rfl (by rfl) ?_
          refine zr_tor ea51 ?_
          refine zr_pcn 77 rfl ?_
          refine zr_aload_n F zd_XSight_stand_77 rfl ?_
          obtain ⟨le53, hs52, h⟩ := zoS_s h
          obtain ⟨a54, ea54, h⟩ := zoB_s h
          refine zr_get F 3 5 zd_XSight_stand_78 (zW_o hs52 (by decide)) rfl (by decide) zw_230 rfl (by rfl) ?_
          refine zr_tor ea54 ?_
          refine zr_aload_n F zd_XSight_stand_81 rfl ?_
          obtain ⟨le56, hs55, h⟩ := zoS_s h
          obtain ⟨a57, ea57, h⟩ := zoB_s h
          refine zr_get F 9 9 zd_XSight_stand_82 (zW_o hs55 (by decide)) rfl (by decide) zw_382 rfl (by rfl) ?_
          refine zr_tor ea57 ?_
          refine zr_iload_n F zd_XSight_stand_85 rfl ?_
          obtain ⟨t61, le59, hs58, h⟩ := zoR_s h
          obtain ⟨hi60, h⟩ := zoI_s h
          obtain ⟨a62, ea62, h⟩ := zoB_s h
          refine zr_aaldW F zd_XSight_stand_86 hs58 hi60 ea62 ?_
          obtain ⟨p63, ep63, h⟩ := zoB_s h
          refine zr_callS0 F (k_XFixed_multiply l D tA b sh _ ep63) zd_XSight_stand_87 zs_XSight_92 zq_XFixed_multiply rfl rfl ⟨(Nat.le_of_ble_eq_true rfl), (Nat.le_of_ble_eq_true rfl)⟩ (Nat.le_of_ble_eq_true rfl) ⟨(Nat.le_of_ble_eq_true rfl), (Nat.le_of_ble_eq_true rfl)⟩ ?_
          refine zr_aload_n F zd_XSight_stand_90 rfl ?_
          refine zr_pcn 91 rfl ?_
          refine zr_iload_n F zd_XSight_stand_91 rfl ?_
          obtain ⟨le65, hs64, h⟩ := zoS_s h
          obtain ⟨p66, ep66, h⟩ := zoB_s h
          refine zr_callV0 F (k_XSight_queue l D tA b sh _ ep66) zd_XSight_stand_92 (zW_o hs64 (by decide)) rfl zs_XSight_98 rfl zq_XSight_queue rfl rfl ⟨(Nat.le_of_ble_eq_true rfl), (Nat.le_of_ble_eq_true rfl)⟩ (Nat.le_of_ble_eq_true rfl) ⟨(Nat.le_of_ble_eq_true rfl), (Nat.le_of_ble_eq_true rfl)⟩ ?_
          refine zr_iinc (v := (v2 + 1)) F zd_XSight_stand_95 rfl rfl (by decide) ?_
          refine zr_goto F 36 zd_XSight_stand_98 (by decide) ?_
          refine zr_loc (L' := [(0, .ref (b + v0)), (2, .int (v2 + 1))]) ⟨rfl, rfl, trivial⟩ ?_
          exact ih _ _ _ _ h hx0
def F_XSight_stand (sh : zSh) (mm : zMem) (o : Nat) (x0_ : Nat) : Option zMem := zoS (sh o) 9 (fun le2 => zoL (mR mm o 7 (some x0_)) (fun mm3 => zoS (sh o) 9 (fun le5 => zoL (mI mm3 o 11 0) (fun mm6 => zoS (sh o) 9 (fun le8 => zoL (mI mm6 o 12 0) (fun mm9 => zoS (sh o) 9 (fun le11 => zoL (mI mm9 o 1 (-1)) (fun mm12 => zoS (sh o) 9 (fun le14 => zoL (mI mm12 o 3 0) (fun mm15 => zoS (sh o) 9 (fun le17 => zoL (mI mm15 o 4 0) (fun mm18 => zoS (sh o) 9 (fun le20 => Option.bind (F_XSight_placeView sh mm18 o) (fun p21 => Option.bind (L_XSight_stand_36 sh zfuel o 0 p21) (fun q67 => some (q67.2.2))))))))))))))))
set_option maxHeartbeats 4000000 in
set_option maxRecDepth 100000 in
theorem k_XSight_stand (l : Launch) (D : va_G) (tA : Nat → ClassId) (b : Nat) (sh : zSh) (n : Nat) {mm : zMem} {o : Nat} {x0_ : Nat} {r : zMem} (h : F_XSight_stand sh mm o x0_ = some r) : zM l D tA b zy_XSight_stand zb_XSight_stand 4 none 5 124 0 0 [.ref (b + o), .ref (b + x0_)] (zW tA b sh mm) n (zE none (zW tA b sh r) n) := by
  unfold F_XSight_stand at h
  refine zM_of (own := "OrreryBox$Sight") (plainFor_of_name (by decide)) rfl (Nat.le_of_ble_eq_true rfl) (fun p e s m below meth c F hr hin hH => ?_)
  refine zr_aload_n F zd_XSight_stand_0 rfl ?_
  refine zr_aload_n F zd_XSight_stand_1 rfl ?_
  obtain ⟨le2, hs1, h⟩ := zoS_s h
  refine zr_put F 9 7 zd_XSight_stand_2 (zW_o hs1 (by decide)) rfl (by decide) zw_380 rfl rfl rfl rfl (by exact (Nat.le_of_ble_eq_true rfl)) ?_
  obtain ⟨mm3, emm3, h⟩ := zoL_s h
  refine zr_norm (zW tA b sh mm3) _ (by rw [emm3]; exact zW_pR (v := (some x0_)) hs1 (by decide) (zf_R_9_7 b _ _ _)) rfl ?_
  refine zr_aload_n F zd_XSight_stand_5 rfl ?_
  refine zr_iconstv (v := 0) F zd_XSight_stand_6 (by decide) ?_
  obtain ⟨le5, hs4, h⟩ := zoS_s h
  refine zr_put F 9 11 zd_XSight_stand_7 (zW_o hs4 (by decide)) rfl (by decide) zw_384 rfl rfl rfl rfl (by exact (Nat.le_of_ble_eq_true rfl)) ?_
  obtain ⟨mm6, emm6, h⟩ := zoL_s h
  refine zr_norm (zW tA b sh mm6) _ (by rw [emm6]; exact zW_pI (v := 0) hs4 (by decide) (zf_I_9_11 b _ _ _)) rfl ?_
  refine zr_aload_n F zd_XSight_stand_10 rfl ?_
  refine zr_pcn 11 rfl ?_
  refine zr_iconstv (v := 0) F zd_XSight_stand_11 (by decide) ?_
  obtain ⟨le8, hs7, h⟩ := zoS_s h
  refine zr_put F 9 12 zd_XSight_stand_12 (zW_o hs7 (by decide)) rfl (by decide) zw_385 rfl rfl rfl rfl (by exact (Nat.le_of_ble_eq_true rfl)) ?_
  obtain ⟨mm9, emm9, h⟩ := zoL_s h
  refine zr_norm (zW tA b sh mm9) _ (by rw [emm9]; exact zW_pI (v := 0) hs7 (by decide) (zf_I_9_12 b _ _ _)) rfl ?_
  refine zr_aload_n F zd_XSight_stand_15 rfl ?_
  refine zr_iconstv (v := (-1)) F zd_XSight_stand_16 (by decide) ?_
  obtain ⟨le11, hs10, h⟩ := zoS_s h
  refine zr_put F 9 1 zd_XSight_stand_17 (zW_o hs10 (by decide)) rfl (by decide) zw_373 rfl rfl rfl rfl (by exact (Nat.le_of_ble_eq_true rfl)) ?_
  obtain ⟨mm12, emm12, h⟩ := zoL_s h
  refine zr_norm (zW tA b sh mm12) _ (by rw [emm12]; exact zW_pI (v := (-1)) hs10 (by decide) (zf_I_9_1 b _ _ _)) rfl ?_
  refine zr_aload_n F zd_XSight_stand_20 rfl ?_
  refine zr_iconstv (v := 0) F zd_XSight_stand_21 (by decide) ?_
  obtain ⟨le14, hs13, h⟩ := zoS_s h
  refine zr_put F 9 3 zd_XSight_stand_22 (zW_o hs13 (by decide)) rfl (by decide) zw_376 rfl rfl rfl rfl (by exact (Nat.le_of_ble_eq_true rfl)) ?_
  obtain ⟨mm15, emm15, h⟩ := zoL_s h
  refine zr_norm (zW tA b sh mm15) _ (by rw [emm15]; exact zW_pI (v := 0) hs13 (by decide) (zf_I_9_3 b _ _ _)) rfl ?_
  refine zr_pcn 25 rfl ?_
  refine zr_aload_n F zd_XSight_stand_25 rfl ?_
  refine zr_iconstv (v := 0) F zd_XSight_stand_26 (by decide) ?_
  obtain ⟨le17, hs16, h⟩ := zoS_s h
  refine zr_put F 9 4 zd_XSight_stand_27 (zW_o hs16 (by decide)) rfl (by decide) zw_377 rfl rfl rfl rfl (by exact (Nat.le_of_ble_eq_true rfl)) ?_
  obtain ⟨mm18, emm18, h⟩ := zoL_s h
  refine zr_norm (zW tA b sh mm18) _ (by rw [emm18]; exact zW_pI (v := 0) hs16 (by decide) (zf_I_9_4 b _ _ _)) rfl ?_
  refine zr_aload_n F zd_XSight_stand_30 rfl ?_
  obtain ⟨le20, hs19, h⟩ := zoS_s h
  obtain ⟨p21, ep21, h⟩ := zoB_s h
  refine zr_callV0 F (k_XSight_placeView l D tA b sh _ ep21) zd_XSight_stand_31 (zW_o hs19 (by decide)) rfl zs_XSight_68 rfl zq_XSight_placeView rfl rfl ⟨(Nat.le_of_ble_eq_true rfl), (Nat.le_of_ble_eq_true rfl)⟩ (Nat.le_of_ble_eq_true rfl) ⟨(Nat.le_of_ble_eq_true rfl), (Nat.le_of_ble_eq_true rfl)⟩ ?_
  refine zr_iconstv (v := 0) F zd_XSight_stand_34 (by decide) ?_
  refine zr_istore_n F zd_XSight_stand_35 (by decide) ?_
  obtain ⟨q67, eq67, h⟩ := zoB_s h
  refine zr_loc (L' := [(0, .ref (b + o)), (2, .int 0)]) ⟨rfl, rfl, trivial⟩ ?_
  refine lp_XSight_stand_36 F _ _ _ _ _ eq67 ?_
  ·
    obtain rfl := Option.some.inj h
    exact zr_vret F hr zd_XSight_stand_101 (Nat.le_of_ble_eq_true rfl) (Nat.le_of_ble_eq_true rfl) ⟨rfl, rfl, rfl⟩
abbrev zb_XSight_cutFace : ByteArray := prog_10_method_13_code
def zy_XSight_cutFace : MethodName := ⟨"OrreryBox$Sight", "cutFace", "(LOrreryBox$Mesh;)V"⟩
theorem zc_XSight_cutFace : Cond.code zy_XSight_cutFace zb_XSight_cutFace 4 none ∈ gw := gw_t 721 (by decide +kernel) rfl
theorem zq_XSight_cutFace : zy_XSight_cutFace.cls ≠ "java/lang/invoke/MethodHandle" ∧ zy_XSight_cutFace.cls ≠ "java/lang/invoke/VarHandle" ∧ (parseMethodDescriptor zy_XSight_cutFace.desc).map (fun d => d.parameters.length) = some 1 := by decide +kernel
theorem zd_XSight_cutFace_0 : decode zb_XSight_cutFace 0 = .ok (.iconst 0, 1) := by decide +kernel
theorem zd_XSight_cutFace_1 : decode zb_XSight_cutFace 1 = .ok (.istore_n 2, 1) := by decide +kernel
theorem zd_XSight_cutFace_2 : decode zb_XSight_cutFace 2 = .ok (.iload_n 2, 1) := by decide +kernel
theorem zd_XSight_cutFace_3 : decode zb_XSight_cutFace 3 = .ok (.iconst 3, 1) := by decide +kernel
theorem zd_XSight_cutFace_4 : decode zb_XSight_cutFace 4 = .ok (.if_icmp .ge 103, 3) := by decide +kernel
theorem zd_XSight_cutFace_7 : decode zb_XSight_cutFace 7 = .ok (.aload_n 1, 1) := by decide +kernel
theorem zd_XSight_cutFace_8 : decode zb_XSight_cutFace 8 = .ok (.getfield 194, 3) := by decide +kernel
theorem zd_XSight_cutFace_11 : decode zb_XSight_cutFace 11 = .ok (.iconst 3, 1) := by decide +kernel
theorem zd_XSight_cutFace_12 : decode zb_XSight_cutFace 12 = .ok (.aload_n 0, 1) := by decide +kernel
theorem zd_XSight_cutFace_13 : decode zb_XSight_cutFace 13 = .ok (.getfield 59, 3) := by decide +kernel
theorem zd_XSight_cutFace_16 : decode zb_XSight_cutFace 16 = .ok (.imul, 1) := by decide +kernel
theorem zd_XSight_cutFace_17 : decode zb_XSight_cutFace 17 = .ok (.iload_n 2, 1) := by decide +kernel
theorem zd_XSight_cutFace_18 : decode zb_XSight_cutFace 18 = .ok (.iadd, 1) := by decide +kernel
theorem zd_XSight_cutFace_19 : decode zb_XSight_cutFace 19 = .ok (.iaload, 1) := by decide +kernel
theorem zd_XSight_cutFace_20 : decode zb_XSight_cutFace 20 = .ok (.istore_n 3, 1) := by decide +kernel
theorem zd_XSight_cutFace_21 : decode zb_XSight_cutFace 21 = .ok (.aload_n 0, 1) := by decide +kernel
theorem zd_XSight_cutFace_22 : decode zb_XSight_cutFace 22 = .ok (.getfield 36, 3) := by decide +kernel
theorem zd_XSight_cutFace_25 : decode zb_XSight_cutFace 25 = .ok (.iconst 4, 1) := by decide +kernel
theorem zd_XSight_cutFace_26 : decode zb_XSight_cutFace 26 = .ok (.iload_n 3, 1) := by decide +kernel
theorem zd_XSight_cutFace_27 : decode zb_XSight_cutFace 27 = .ok (.imul, 1) := by decide +kernel
theorem zd_XSight_cutFace_28 : decode zb_XSight_cutFace 28 = .ok (.aload_n 0, 1) := by decide +kernel
theorem zd_XSight_cutFace_29 : decode zb_XSight_cutFace 29 = .ok (.getfield 18, 3) := by decide +kernel
theorem zd_XSight_cutFace_32 : decode zb_XSight_cutFace 32 = .ok (.bipush 6, 2) := by decide +kernel
theorem zd_XSight_cutFace_34 : decode zb_XSight_cutFace 34 = .ok (.iload_n 2, 1) := by decide +kernel
theorem zd_XSight_cutFace_35 : decode zb_XSight_cutFace 35 = .ok (.imul, 1) := by decide +kernel
theorem zd_XSight_cutFace_36 : decode zb_XSight_cutFace 36 = .ok (.iconst 3, 1) := by decide +kernel
theorem zd_XSight_cutFace_37 : decode zb_XSight_cutFace 37 = .ok (.invokestatic 197, 3) := by decide +kernel
theorem zd_XSight_cutFace_40 : decode zb_XSight_cutFace 40 = .ok (.aload_n 0, 1) := by decide +kernel
theorem zd_XSight_cutFace_41 : decode zb_XSight_cutFace 41 = .ok (.getfield 18, 3) := by decide +kernel
theorem zd_XSight_cutFace_44 : decode zb_XSight_cutFace 44 = .ok (.bipush 6, 2) := by decide +kernel
theorem zd_XSight_cutFace_46 : decode zb_XSight_cutFace 46 = .ok (.iload_n 2, 1) := by decide +kernel
theorem zd_XSight_cutFace_47 : decode zb_XSight_cutFace 47 = .ok (.imul, 1) := by decide +kernel
theorem zd_XSight_cutFace_48 : decode zb_XSight_cutFace 48 = .ok (.iconst 3, 1) := by decide +kernel
theorem zd_XSight_cutFace_49 : decode zb_XSight_cutFace 49 = .ok (.iadd, 1) := by decide +kernel
theorem zd_XSight_cutFace_50 : decode zb_XSight_cutFace 50 = .ok (.aload_n 1, 1) := by decide +kernel
theorem zd_XSight_cutFace_51 : decode zb_XSight_cutFace 51 = .ok (.getfield 203, 3) := by decide +kernel
theorem zd_XSight_cutFace_54 : decode zb_XSight_cutFace 54 = .ok (.iconst 2, 1) := by decide +kernel
theorem zd_XSight_cutFace_55 : decode zb_XSight_cutFace 55 = .ok (.iload_n 3, 1) := by decide +kernel
theorem zd_XSight_cutFace_56 : decode zb_XSight_cutFace 56 = .ok (.imul, 1) := by decide +kernel
theorem zd_XSight_cutFace_57 : decode zb_XSight_cutFace 57 = .ok (.iaload, 1) := by decide +kernel
theorem zd_XSight_cutFace_58 : decode zb_XSight_cutFace 58 = .ok (.iastore, 1) := by decide +kernel
theorem zd_XSight_cutFace_59 : decode zb_XSight_cutFace 59 = .ok (.aload_n 0, 1) := by decide +kernel
theorem zd_XSight_cutFace_60 : decode zb_XSight_cutFace 60 = .ok (.getfield 18, 3) := by decide +kernel
theorem zd_XSight_cutFace_63 : decode zb_XSight_cutFace 63 = .ok (.bipush 6, 2) := by decide +kernel
theorem zd_XSight_cutFace_65 : decode zb_XSight_cutFace 65 = .ok (.iload_n 2, 1) := by decide +kernel
theorem zd_XSight_cutFace_66 : decode zb_XSight_cutFace 66 = .ok (.imul, 1) := by decide +kernel
theorem zd_XSight_cutFace_67 : decode zb_XSight_cutFace 67 = .ok (.iconst 4, 1) := by decide +kernel
theorem zd_XSight_cutFace_68 : decode zb_XSight_cutFace 68 = .ok (.iadd, 1) := by decide +kernel
theorem zd_XSight_cutFace_69 : decode zb_XSight_cutFace 69 = .ok (.aload_n 1, 1) := by decide +kernel
theorem zd_XSight_cutFace_70 : decode zb_XSight_cutFace 70 = .ok (.getfield 203, 3) := by decide +kernel
theorem zd_XSight_cutFace_73 : decode zb_XSight_cutFace 73 = .ok (.iconst 2, 1) := by decide +kernel
theorem zd_XSight_cutFace_74 : decode zb_XSight_cutFace 74 = .ok (.iload_n 3, 1) := by decide +kernel
theorem zd_XSight_cutFace_75 : decode zb_XSight_cutFace 75 = .ok (.imul, 1) := by decide +kernel
theorem zd_XSight_cutFace_76 : decode zb_XSight_cutFace 76 = .ok (.iconst 1, 1) := by decide +kernel
theorem zd_XSight_cutFace_77 : decode zb_XSight_cutFace 77 = .ok (.iadd, 1) := by decide +kernel
theorem zd_XSight_cutFace_78 : decode zb_XSight_cutFace 78 = .ok (.iaload, 1) := by decide +kernel
theorem zd_XSight_cutFace_79 : decode zb_XSight_cutFace 79 = .ok (.iastore, 1) := by decide +kernel
theorem zd_XSight_cutFace_80 : decode zb_XSight_cutFace 80 = .ok (.aload_n 0, 1) := by decide +kernel
theorem zd_XSight_cutFace_81 : decode zb_XSight_cutFace 81 = .ok (.getfield 18, 3) := by decide +kernel
theorem zd_XSight_cutFace_84 : decode zb_XSight_cutFace 84 = .ok (.bipush 6, 2) := by decide +kernel
theorem zd_XSight_cutFace_86 : decode zb_XSight_cutFace 86 = .ok (.iload_n 2, 1) := by decide +kernel
theorem zd_XSight_cutFace_87 : decode zb_XSight_cutFace 87 = .ok (.imul, 1) := by decide +kernel
theorem zd_XSight_cutFace_88 : decode zb_XSight_cutFace 88 = .ok (.iconst 5, 1) := by decide +kernel
theorem zd_XSight_cutFace_89 : decode zb_XSight_cutFace 89 = .ok (.iadd, 1) := by decide +kernel
theorem zd_XSight_cutFace_90 : decode zb_XSight_cutFace 90 = .ok (.aload_n 0, 1) := by decide +kernel
theorem zd_XSight_cutFace_91 : decode zb_XSight_cutFace 91 = .ok (.getfield 36, 3) := by decide +kernel
theorem zd_XSight_cutFace_94 : decode zb_XSight_cutFace 94 = .ok (.iconst 4, 1) := by decide +kernel
theorem zd_XSight_cutFace_95 : decode zb_XSight_cutFace 95 = .ok (.iload_n 3, 1) := by decide +kernel
theorem zd_XSight_cutFace_96 : decode zb_XSight_cutFace 96 = .ok (.imul, 1) := by decide +kernel
theorem zd_XSight_cutFace_97 : decode zb_XSight_cutFace 97 = .ok (.iconst 3, 1) := by decide +kernel
theorem zd_XSight_cutFace_98 : decode zb_XSight_cutFace 98 = .ok (.iadd, 1) := by decide +kernel
theorem zd_XSight_cutFace_99 : decode zb_XSight_cutFace 99 = .ok (.iaload, 1) := by decide +kernel
theorem zd_XSight_cutFace_100 : decode zb_XSight_cutFace 100 = .ok (.iastore, 1) := by decide +kernel
theorem zd_XSight_cutFace_101 : decode zb_XSight_cutFace 101 = .ok (.iinc 2 1, 3) := by decide +kernel
theorem zd_XSight_cutFace_104 : decode zb_XSight_cutFace 104 = .ok (.goto (-102), 3) := by decide +kernel
theorem zd_XSight_cutFace_107 : decode zb_XSight_cutFace 107 = .ok (.aload_n 0, 1) := by decide +kernel
theorem zd_XSight_cutFace_108 : decode zb_XSight_cutFace 108 = .ok (.iconst 3, 1) := by decide +kernel
theorem zd_XSight_cutFace_109 : decode zb_XSight_cutFace 109 = .ok (.putfield 62, 3) := by decide +kernel
theorem zd_XSight_cutFace_112 : decode zb_XSight_cutFace 112 = .ok (.iconst 0, 1) := by decide +kernel
theorem zd_XSight_cutFace_113 : decode zb_XSight_cutFace 113 = .ok (.istore_n 2, 1) := by decide +kernel
theorem zd_XSight_cutFace_114 : decode zb_XSight_cutFace 114 = .ok (.iload_n 2, 1) := by decide +kernel
theorem zd_XSight_cutFace_115 : decode zb_XSight_cutFace 115 = .ok (.iconst 5, 1) := by decide +kernel
theorem zd_XSight_cutFace_116 : decode zb_XSight_cutFace 116 = .ok (.if_icmp .ge 22, 3) := by decide +kernel
theorem zd_XSight_cutFace_119 : decode zb_XSight_cutFace 119 = .ok (.aload_n 0, 1) := by decide +kernel
theorem zd_XSight_cutFace_120 : decode zb_XSight_cutFace 120 = .ok (.getfield 62, 3) := by decide +kernel
theorem zd_XSight_cutFace_123 : decode zb_XSight_cutFace 123 = .ok (.iconst 3, 1) := by decide +kernel
theorem zd_XSight_cutFace_124 : decode zb_XSight_cutFace 124 = .ok (.if_icmp .lt 14, 3) := by decide +kernel
theorem zd_XSight_cutFace_127 : decode zb_XSight_cutFace 127 = .ok (.aload_n 0, 1) := by decide +kernel
theorem zd_XSight_cutFace_128 : decode zb_XSight_cutFace 128 = .ok (.iload_n 2, 1) := by decide +kernel
theorem zd_XSight_cutFace_129 : decode zb_XSight_cutFace 129 = .ok (.invokevirtual 206, 3) := by decide +kernel
theorem zd_XSight_cutFace_132 : decode zb_XSight_cutFace 132 = .ok (.iinc 2 1, 3) := by decide +kernel
theorem zd_XSight_cutFace_135 : decode zb_XSight_cutFace 135 = .ok (.goto (-21), 3) := by decide +kernel
theorem zd_XSight_cutFace_138 : decode zb_XSight_cutFace 138 = .ok (.aload_n 0, 1) := by decide +kernel
theorem zd_XSight_cutFace_139 : decode zb_XSight_cutFace 139 = .ok (.invokevirtual 209, 3) := by decide +kernel
theorem zd_XSight_cutFace_142 : decode zb_XSight_cutFace 142 = .ok (.return_, 1) := by decide +kernel
theorem zw_193 : (Jvm.Cond.fieldLink "OrreryBox$Sight" (194 : Nat) "OrreryBox$Mesh" "faces" "[I") ∈ gw := gw_t 193 (by decide +kernel) rfl
theorem zw_190 : (Jvm.Cond.fieldLink "OrreryBox$Sight" (203 : Nat) "OrreryBox$Mesh" "places" "[I") ∈ gw := gw_t 190 (by decide +kernel) rfl
def L_XSight_cutFace_2 (sh : zSh) (fuel : Nat) (v0 : Nat) (v1 : Nat) (v2 : Int32) (mm : zMem) : Option (Nat × Nat × Int32 × zMem) := match fuel with
  | 0 => none
  | fu + 1 => (if 3 ≤ v2 then some (v0, v1, v2, mm) else zoS (sh v1) 2 (fun le3 => Option.bind (mm.2.2 v1 6) (fun a4 => zoS (sh v0) 9 (fun le6 => zoL ((3 * (mm.1 v0 1)) + v2) (fun i7 => zoS (sh a4) 100 (fun le9 => if (i7 : Int32) < 0 ∨ le9 ≤ (i7 : Int32).toNatClampNeg then none else zoL (mm.1 a4 (i7 : Int32).toNatClampNeg) (fun x11 => zoS (sh v0) 9 (fun le13 => Option.bind (mm.2.2 v0 13) (fun a14 => zoS (sh v0) 9 (fun le16 => Option.bind (mm.2.2 v0 2) (fun a17 => zoL (6 * v2) (fun x18 => zoL (4 * x11) (fun x19 => zoS (sh a14) 100 (fun le20 => zoS (sh a17) 100 (fun le22 => if ¬ (x19 : Int32) < 0 ∧ ¬ (x18 : Int32) < 0 ∧ ¬ (3 : Int32) < 0 ∧ (x19 : Int32).toNatClampNeg + (3 : Int32).toNatClampNeg ≤ le20 ∧ (x18 : Int32).toNatClampNeg + (3 : Int32).toNatClampNeg ≤ le22 then zoL (mC mm a14 a17 (x19 : Int32).toNatClampNeg (x18 : Int32).toNatClampNeg (3 : Int32).toNatClampNeg) (fun mm25 => zoS (sh v0) 9 (fun le27 => Option.bind (mm25.2.2 v0 2) (fun a28 => zoS (sh v1) 2 (fun le30 => Option.bind (mm25.2.2 v1 5) (fun a31 => zoL (2 * x11) (fun i32 => zoS (sh a31) 100 (fun le34 => if (i32 : Int32) < 0 ∨ le34 ≤ (i32 : Int32).toNatClampNeg then none else zoL (mm25.1 a31 (i32 : Int32).toNatClampNeg) (fun x36 => zoL ((6 * v2) + 3) (fun i37 => zoS (sh a28) 100 (fun le39 => if (i37 : Int32) < 0 ∨ le39 ≤ (i37 : Int32).toNatClampNeg then none else zoL (mI mm25 a28 (i37 : Int32).toNatClampNeg x36) (fun mm41 => zoS (sh v0) 9 (fun le43 => Option.bind (mm41.2.2 v0 2) (fun a44 => zoS (sh v1) 2 (fun le46 => Option.bind (mm41.2.2 v1 5) (fun a47 => zoL ((2 * x11) + 1) (fun i48 => zoS (sh a47) 100 (fun le50 => if (i48 : Int32) < 0 ∨ le50 ≤ (i48 : Int32).toNatClampNeg then none else zoL (mm41.1 a47 (i48 : Int32).toNatClampNeg) (fun x52 => zoL ((6 * v2) + 4) (fun i53 => zoS (sh a44) 100 (fun le55 => if (i53 : Int32) < 0 ∨ le55 ≤ (i53 : Int32).toNatClampNeg then none else zoL (mI mm41 a44 (i53 : Int32).toNatClampNeg x52) (fun mm57 => zoS (sh v0) 9 (fun le59 => Option.bind (mm57.2.2 v0 2) (fun a60 => zoS (sh v0) 9 (fun le62 => Option.bind (mm57.2.2 v0 13) (fun a63 => zoL ((4 * x11) + 3) (fun i64 => zoS (sh a63) 100 (fun le66 => if (i64 : Int32) < 0 ∨ le66 ≤ (i64 : Int32).toNatClampNeg then none else zoL (mm57.1 a63 (i64 : Int32).toNatClampNeg) (fun x68 => zoL ((6 * v2) + 5) (fun i69 => zoS (sh a60) 100 (fun le71 => if (i69 : Int32) < 0 ∨ le71 ≤ (i69 : Int32).toNatClampNeg then none else zoL (mI mm57 a60 (i69 : Int32).toNatClampNeg x68) (fun mm73 => L_XSight_cutFace_2 sh fu v0 v1 (v2 + 1) mm73))))))))))))))))))))))))))))))) else none)))))))))))))))
set_option maxHeartbeats 4000000 in
set_option maxRecDepth 100000 in
theorem lp_XSight_cutFace_2 {p : Program} {l : Launch} {e : Env} {s : State} {m : MethodId} {args : Array Value} {below : List Frame} {meth : Method} {c : Code} {D : va_G} {tA : Nat → ClassId} {b n : Nat} {post : Option Value → zV → Nat → Prop} {sh : zSh} (F : zF p s m args meth c zb_XSight_cutFace 4 "OrreryBox$Sight" D tA b) : ∀ (fuel : Nat) (v0 : Nat) (v1 : Nat) (v2 : Int32) (mm : zMem) (r : Nat × Nat × Int32 × zMem), L_XSight_cutFace_2 sh fuel v0 v1 v2 mm = some r → (Z p l e { frames := 3, cells := 0, slots := 0, locals := 90 } s m args below meth c D b 4 (MQ below (zQ D b post) args s 0 0 (fun q => b ≤ q)) (zW tA b sh r.2.2.2) n 0 0 107 [(0, .ref (b + (r.1))), (1, .ref (b + (r.2.1))), (2, .int (r.2.2.1))] []) → Z p l e { frames := 3, cells := 0, slots := 0, locals := 90 } s m args below meth c D b 4 (MQ below (zQ D b post) args s 0 0 (fun q => b ≤ q)) (zW tA b sh mm) n 0 0 2 [(0, .ref (b + v0)), (1, .ref (b + v1)), (2, .int v2)] [] := by
  intro fuel
  induction fuel with
  | zero =>
    intro v0 v1 v2 mm r h
    cases h
  | succ fu ih =>
    intro v0 v1 v2 mm r h hx0
    rw [L_XSight_cutFace_2] at h
    refine zr_iload_n F zd_XSight_cutFace_2 rfl ?_
    refine zr_iconstv (v := 3) F zd_XSight_cutFace_3 (by decide) ?_
    refine zr_icmp_ge F 107 zd_XSight_cutFace_4 (by decide) (fun hb1 => ?_) (fun hb1 => ?_)
    ·
      replace h := (if_pos hb1).symm.trans h
      obtain rfl := Option.some.inj h
      refine zr_loc (L' := [(0, .ref (b + v0)), (1, .ref (b + v1)), (2, .int v2)]) ⟨rfl, rfl, rfl, trivial⟩ ?_
      exact hx0 
    ·
      replace h := (if_neg hb1).symm.trans h
      refine zr_aload_n F zd_XSight_cutFace_7 rfl ?_
      obtain ⟨le3, hs2, h⟩ := zoS_s h
      obtain ⟨a4, ea4, h⟩ := zoB_s h
      refine zr_get F 2 6 zd_XSight_cutFace_8 (zW_o hs2 (by decide)) rfl (by decide) zw_193 rfl (by rfl) ?_
      refine zr_tor ea4 ?_
      refine zr_pcn 11 rfl ?_
      refine zr_iconstv (v := 3) F zd_XSight_cutFace_11 (by decide) ?_
      refine zr_aload_n F zd_XSight_cutFace_12 rfl ?_
      obtain ⟨le6, hs5, h⟩ := zoS_s h
      refine zr_get F 9 1 zd_XSight_cutFace_13 (zW_o hs5 (by decide)) rfl (by decide) zw_373 rfl (by rfl) ?_
      refine zr_imul F zd_XSight_cutFace_16 ?_
      refine zr_iload_n F zd_XSight_cutFace_17 rfl ?_
      refine zr_iadd F zd_XSight_cutFace_18 ?_
      obtain ⟨i7, ei7, h⟩ := zoL_s h
      rw [← ei7]
      obtain ⟨le9, hs8, h⟩ := zoS_s h
      obtain ⟨hi10, h⟩ := zoI_s h
      refine zr_iald F zd_XSight_cutFace_19 (zW_a0 hs8) hi10 ?_
      obtain ⟨x11, ex11, h⟩ := zoL_s h
      rw [← ex11]
      refine zr_istore_n F zd_XSight_cutFace_20 (by decide) ?_
      refine zr_pcn 21 rfl ?_
      refine zr_aload_n F zd_XSight_cutFace_21 rfl ?_
      obtain ⟨le13, hs12, h⟩ := zoS_s h
      obtain ⟨a14, ea14, h⟩ := zoB_s h
      refine zr_get F 9 13 zd_XSight_cutFace_22 (zW_o hs12 (by decide)) rfl (by decide) zw_386 rfl (by rfl) ?_
      refine zr_tor ea14 ?_
      refine zr_iconstv (v := 4) F zd_XSight_cutFace_25 (by decide) ?_
      refine zr_iload_n F zd_XSight_cutFace_26 rfl ?_
      refine zr_imul F zd_XSight_cutFace_27 ?_
      refine zr_aload_n F zd_XSight_cutFace_28 rfl ?_
      obtain ⟨le16, hs15, h⟩ := zoS_s h
      obtain ⟨a17, ea17, h⟩ := zoB_s h
      refine zr_get F 9 2 zd_XSight_cutFace_29 (zW_o hs15 (by decide)) rfl (by decide) zw_375 rfl (by rfl) ?_
      refine zr_tor ea17 ?_
      refine zr_bipushv (v := 6) F zd_XSight_cutFace_32 (by decide) ?_
      refine zr_pcn 34 rfl ?_
      refine zr_iload_n F zd_XSight_cutFace_34 rfl ?_
      refine zr_imul F zd_XSight_cutFace_35 ?_
      refine zr_iconstv (v := 3) F zd_XSight_cutFace_36 (by decide) ?_
      obtain ⟨x18, ex18, h⟩ := zoL_s h
      rw [← ex18]
      obtain ⟨x19, ex19, h⟩ := zoL_s h
      rw [← ex19]
      obtain ⟨le20, hs21, h⟩ := zoS_s h
      obtain ⟨le22, hs23, h⟩ := zoS_s h
      obtain ⟨hc24, h⟩ := zoT_s h
      obtain ⟨mm25, emm25, h⟩ := zoL_s h
      refine zr_copy F zd_XSight_cutFace_37 zw_722 zw_724 zw_723 zw_26 (zW_a0 hs21) (zW_a0 hs23) hc24.1 hc24.2.1 hc24.2.2.1 hc24.2.2.2.1 hc24.2.2.2.2 (Nat.le_of_ble_eq_true rfl) (Nat.le_of_ble_eq_true rfl) ?_
      refine zr_norm (zW tA b sh mm25) _ (by rw [emm25]; exact zW_c hs23) rfl ?_
      refine zr_aload_n F zd_XSight_cutFace_40 rfl ?_
      obtain ⟨le27, hs26, h⟩ := zoS_s h
      obtain ⟨a28, ea28, h⟩ := zoB_s h
      refine zr_get F 9 2 zd_XSight_cutFace_41 (zW_o hs26 (by decide)) rfl (by decide) zw_375 rfl (by rfl) ?_
      refine zr_tor ea28 ?_
      refine zr_bipushv (v := 6) F zd_XSight_cutFace_44 (by decide) ?_
      refine zr_iload_n F zd_XSight_cutFace_46 rfl ?_
      refine zr_pcn 47 rfl ?_
      refine zr_imul F zd_XSight_cutFace_47 ?_
      refine zr_iconstv (v := 3) F zd_XSight_cutFace_48 (by decide) ?_
      refine zr_iadd F zd_XSight_cutFace_49 ?_
      refine zr_aload_n F zd_XSight_cutFace_50 rfl ?_
      obtain ⟨le30, hs29, h⟩ := zoS_s h
      obtain ⟨a31, ea31, h⟩ := zoB_s h
      refine zr_get F 2 5 zd_XSight_cutFace_51 (zW_o hs29 (by decide)) rfl (by decide) zw_190 rfl (by rfl) ?_
      refine zr_tor ea31 ?_
      refine zr_iconstv (v := 2) F zd_XSight_cutFace_54 (by decide) ?_
      refine zr_iload_n F zd_XSight_cutFace_55 rfl ?_
      refine zr_imul F zd_XSight_cutFace_56 ?_
      refine zr_pcn 57 rfl ?_
      obtain ⟨i32, ei32, h⟩ := zoL_s h
      rw [← ei32]
      obtain ⟨le34, hs33, h⟩ := zoS_s h
      obtain ⟨hi35, h⟩ := zoI_s h
      refine zr_iald F zd_XSight_cutFace_57 (zW_a0 hs33) hi35 ?_
      obtain ⟨x36, ex36, h⟩ := zoL_s h
      rw [← ex36]
      obtain ⟨i37, ei37, h⟩ := zoL_s h
      rw [← ei37]
      obtain ⟨le39, hs38, h⟩ := zoS_s h
      obtain ⟨hi40, h⟩ := zoI_s h
      refine zr_iast F zd_XSight_cutFace_58 (zW_a0 hs38) hi40 ?_
      obtain ⟨mm41, emm41, h⟩ := zoL_s h
      refine zr_norm (zW tA b sh mm41) _ (by rw [emm41]; exact zW_s0 hs38) rfl ?_
      refine zr_aload_n F zd_XSight_cutFace_59 rfl ?_
      obtain ⟨le43, hs42, h⟩ := zoS_s h
      obtain ⟨a44, ea44, h⟩ := zoB_s h
      refine zr_get F 9 2 zd_XSight_cutFace_60 (zW_o hs42 (by decide)) rfl (by decide) zw_375 rfl (by rfl) ?_
      refine zr_tor ea44 ?_
      refine zr_bipushv (v := 6) F zd_XSight_cutFace_63 (by decide) ?_
      refine zr_iload_n F zd_XSight_cutFace_65 rfl ?_
      refine zr_imul F zd_XSight_cutFace_66 ?_
      refine zr_iconstv (v := 4) F zd_XSight_cutFace_67 (by decide) ?_
      refine zr_pcn 68 rfl ?_
      refine zr_iadd F zd_XSight_cutFace_68 ?_
      refine zr_aload_n F zd_XSight_cutFace_69 rfl ?_
      obtain ⟨le46, hs45, h⟩ := zoS_s h
      obtain ⟨a47, ea47, h⟩ := zoB_s h
      refine zr_get F 2 5 zd_XSight_cutFace_70 (zW_o hs45 (by decide)) rfl (by decide) zw_190 rfl (by rfl) ?_
      refine zr_tor ea47 ?_
      refine zr_iconstv (v := 2) F zd_XSight_cutFace_73 (by decide) ?_
      refine zr_iload_n F zd_XSight_cutFace_74 rfl ?_
      refine zr_imul F zd_XSight_cutFace_75 ?_
      refine zr_iconstv (v := 1) F zd_XSight_cutFace_76 (by decide) ?_
      refine zr_iadd F zd_XSight_cutFace_77 ?_
      refine zr_pcn 78 rfl ?_
      obtain ⟨i48, ei48, h⟩ := zoL_s h
      rw [← ei48]
      obtain ⟨le50, hs49, h⟩ := zoS_s h
      obtain ⟨hi51, h⟩ := zoI_s h
      refine zr_iald F zd_XSight_cutFace_78 (zW_a0 hs49) hi51 ?_
      obtain ⟨x52, ex52, h⟩ := zoL_s h
      rw [← ex52]
      obtain ⟨i53, ei53, h⟩ := zoL_s h
      rw [← ei53]
      obtain ⟨le55, hs54, h⟩ := zoS_s h
      obtain ⟨hi56, h⟩ := zoI_s h
      refine zr_iast F zd_XSight_cutFace_79 (zW_a0 hs54) hi56 ?_
      obtain ⟨mm57, emm57, h⟩ := zoL_s h
      refine zr_norm (zW tA b sh mm57) _ (by rw [emm57]; exact zW_s0 hs54) rfl ?_
      refine zr_aload_n F zd_XSight_cutFace_80 rfl ?_
      obtain ⟨le59, hs58, h⟩ := zoS_s h
      obtain ⟨a60, ea60, h⟩ := zoB_s h
      refine zr_get F 9 2 zd_XSight_cutFace_81 (zW_o hs58 (by decide)) rfl (by decide) zw_375 rfl (by rfl) ?_
      refine zr_tor ea60 ?_
      refine zr_bipushv (v := 6) F zd_XSight_cutFace_84 (by decide) ?_
      refine zr_iload_n F zd_XSight_cutFace_86 rfl ?_
      refine zr_imul F zd_XSight_cutFace_87 ?_
      refine zr_iconstv (v := 5) F zd_XSight_cutFace_88 (by decide) ?_
      refine zr_pcn 89 rfl ?_
      refine zr_iadd F zd_XSight_cutFace_89 ?_
      refine zr_aload_n F zd_XSight_cutFace_90 rfl ?_
      obtain ⟨le62, hs61, h⟩ := zoS_s h
      obtain ⟨a63, ea63, h⟩ := zoB_s h
      refine zr_get F 9 13 zd_XSight_cutFace_91 (zW_o hs61 (by decide)) rfl (by decide) zw_386 rfl (by rfl) ?_
      refine zr_tor ea63 ?_
      refine zr_iconstv (v := 4) F zd_XSight_cutFace_94 (by decide) ?_
      refine zr_iload_n F zd_XSight_cutFace_95 rfl ?_
      refine zr_imul F zd_XSight_cutFace_96 ?_
      refine zr_iconstv (v := 3) F zd_XSight_cutFace_97 (by decide) ?_
      refine zr_iadd F zd_XSight_cutFace_98 ?_
      refine zr_pcn 99 rfl ?_
      obtain ⟨i64, ei64, h⟩ := zoL_s h
      rw [← ei64]
      obtain ⟨le66, hs65, h⟩ := zoS_s h
      obtain ⟨hi67, h⟩ := zoI_s h
      refine zr_iald F zd_XSight_cutFace_99 (zW_a0 hs65) hi67 ?_
      obtain ⟨x68, ex68, h⟩ := zoL_s h
      rw [← ex68]
      obtain ⟨i69, ei69, h⟩ := zoL_s h
      rw [← ei69]
      obtain ⟨le71, hs70, h⟩ := zoS_s h
      obtain ⟨hi72, h⟩ := zoI_s h
      refine zr_iast F zd_XSight_cutFace_100 (zW_a0 hs70) hi72 ?_
      obtain ⟨mm73, emm73, h⟩ := zoL_s h
      refine zr_norm (zW tA b sh mm73) _ (by rw [emm73]; exact zW_s0 hs70) rfl ?_
      refine zr_iinc (v := (v2 + 1)) F zd_XSight_cutFace_101 rfl rfl (by decide) ?_
      refine zr_goto F 2 zd_XSight_cutFace_104 (by decide) ?_
      refine zr_loc (L' := [(0, .ref (b + v0)), (1, .ref (b + v1)), (2, .int (v2 + 1))]) ⟨rfl, rfl, rfl, trivial⟩ ?_
      exact ih _ _ _ _ _ h hx0
theorem zw_725 : (Jvm.Cond.methodLink "OrreryBox$Sight" (206 : Nat) ({ cls := "OrreryBox$Sight", name := "cutBySide", desc := "(I)V" } : Jvm.MethodName)) ∈ gw := gw_t 725 (by decide +kernel) rfl
theorem zw_727 : (Jvm.Cond.instanceMethod ({ cls := "OrreryBox$Sight", name := "cutBySide", desc := "(I)V" } : Jvm.MethodName)) ∈ gw := gw_t 727 (by decide +kernel) rfl
theorem zv_12 : (Jvm.Cond.selects "OrreryBox$Sight" (⟨"OrreryBox$Sight", "cutBySide", "(I)V"⟩ : MethodName) ⟨"OrreryBox$Sight", "cutBySide", "(I)V"⟩) ∈ gw := gw_s 12 (by decide +kernel) rfl
theorem zs_XSight_206 : zwV "OrreryBox$Sight" 206 "OrreryBox$Sight" zy_XSight_cutBySide zb_XSight_cutBySide 11 none := ⟨zw_725, zw_727, zv_12, zw_10, zc_XSight_cutBySide⟩
def L_XSight_cutFace_114 (sh : zSh) (fuel : Nat) (v0 : Nat) (v2 : Int32) (mm : zMem) : Option (Nat × Int32 × zMem) := match fuel with
  | 0 => none
  | fu + 1 => (if 5 ≤ v2 then some (v0, v2, mm) else zoS (sh v0) 9 (fun le80 => (if (mm.1 v0 3) < 3 then some (v0, v2, mm) else zoS (sh v0) 9 (fun le83 => Option.bind (F_XSight_cutBySide sh mm v0 v2) (fun p84 => L_XSight_cutFace_114 sh fu v0 (v2 + 1) p84)))))
set_option maxHeartbeats 4000000 in
set_option maxRecDepth 100000 in
theorem lp_XSight_cutFace_114 {p : Program} {l : Launch} {e : Env} {s : State} {m : MethodId} {args : Array Value} {below : List Frame} {meth : Method} {c : Code} {D : va_G} {tA : Nat → ClassId} {b n : Nat} {post : Option Value → zV → Nat → Prop} {sh : zSh} (F : zF p s m args meth c zb_XSight_cutFace 4 "OrreryBox$Sight" D tA b) : ∀ (fuel : Nat) (v0 : Nat) (v2 : Int32) (mm : zMem) (r : Nat × Int32 × zMem), L_XSight_cutFace_114 sh fuel v0 v2 mm = some r → (Z p l e { frames := 3, cells := 0, slots := 0, locals := 90 } s m args below meth c D b 4 (MQ below (zQ D b post) args s 0 0 (fun q => b ≤ q)) (zW tA b sh r.2.2) n 0 0 138 [(0, .ref (b + (r.1))), (2, .int (r.2.1))] []) → Z p l e { frames := 3, cells := 0, slots := 0, locals := 90 } s m args below meth c D b 4 (MQ below (zQ D b post) args s 0 0 (fun q => b ≤ q)) (zW tA b sh mm) n 0 0 114 [(0, .ref (b + v0)), (2, .int v2)] [] := by
  intro fuel
  induction fuel with
  | zero =>
    intro v0 v2 mm r h
    cases h
  | succ fu ih =>
    intro v0 v2 mm r h hx0
    rw [L_XSight_cutFace_114] at h
    refine zr_iload_n F zd_XSight_cutFace_114 rfl ?_
    refine zr_iconstv (v := 5) F zd_XSight_cutFace_115 (by decide) ?_
    refine zr_icmp_ge F 138 zd_XSight_cutFace_116 (by decide) (fun hb78 => ?_) (fun hb78 => ?_)
    ·
      replace h := (if_pos hb78).symm.trans h
      obtain rfl := Option.some.inj h
      refine zr_loc (L' := [(0, .ref (b + v0)), (2, .int v2)]) ⟨rfl, rfl, trivial⟩ ?_
      exact hx0 
    ·
      replace h := (if_neg hb78).symm.trans h
      refine zr_aload_n F zd_XSight_cutFace_119 rfl ?_
      obtain ⟨le80, hs79, h⟩ := zoS_s h
      refine zr_get F 9 3 zd_XSight_cutFace_120 (zW_o hs79 (by decide)) rfl (by decide) zw_376 rfl (by rfl) ?_
      refine zr_iconstv (v := 3) F zd_XSight_cutFace_123 (by decide) ?_
      refine zr_icmp_lt F 138 zd_XSight_cutFace_124 (by decide) (fun hb81 => ?_) (fun hb81 => ?_)
      ·
        replace h := (if_pos hb81).symm.trans h
        obtain rfl := Option.some.inj h
        refine zr_loc (L' := [(0, .ref (b + v0)), (2, .int v2)]) ⟨rfl, rfl, trivial⟩ ?_
        exact hx0 
      ·
        replace h := (if_neg hb81).symm.trans h
        refine zr_pcn 127 rfl ?_
        refine zr_aload_n F zd_XSight_cutFace_127 rfl ?_
        refine zr_iload_n F zd_XSight_cutFace_128 rfl ?_
        obtain ⟨le83, hs82, h⟩ := zoS_s h
        obtain ⟨p84, ep84, h⟩ := zoB_s h
        refine zr_callV0 F (k_XSight_cutBySide l D tA b sh _ ep84) zd_XSight_cutFace_129 (zW_o hs82 (by decide)) rfl zs_XSight_206 rfl zq_XSight_cutBySide rfl rfl ⟨(Nat.le_of_ble_eq_true rfl), (Nat.le_of_ble_eq_true rfl)⟩ (Nat.le_of_ble_eq_true rfl) ⟨(Nat.le_of_ble_eq_true rfl), (Nat.le_of_ble_eq_true rfl)⟩ ?_
        refine zr_iinc (v := (v2 + 1)) F zd_XSight_cutFace_132 rfl rfl (by decide) ?_
        refine zr_goto F 114 zd_XSight_cutFace_135 (by decide) ?_
        refine zr_loc (L' := [(0, .ref (b + v0)), (2, .int (v2 + 1))]) ⟨rfl, rfl, trivial⟩ ?_
        exact ih _ _ _ _ h hx0
theorem zw_739 : (Jvm.Cond.methodLink "OrreryBox$Sight" (209 : Nat) ({ cls := "OrreryBox$Sight", name := "projectCorners", desc := "()V" } : Jvm.MethodName)) ∈ gw := gw_t 739 (by decide +kernel) rfl
theorem zw_741 : (Jvm.Cond.instanceMethod ({ cls := "OrreryBox$Sight", name := "projectCorners", desc := "()V" } : Jvm.MethodName)) ∈ gw := gw_t 741 (by decide +kernel) rfl
theorem zv_15 : (Jvm.Cond.selects "OrreryBox$Sight" (⟨"OrreryBox$Sight", "projectCorners", "()V"⟩ : MethodName) ⟨"OrreryBox$Sight", "projectCorners", "()V"⟩) ∈ gw := gw_s 15 (by decide +kernel) rfl
theorem zs_XSight_209 : zwV "OrreryBox$Sight" 209 "OrreryBox$Sight" zy_XSight_projectCorners zb_XSight_projectCorners 6 none := ⟨zw_739, zw_741, zv_15, zw_10, zc_XSight_projectCorners⟩
def F_XSight_cutFace (sh : zSh) (mm : zMem) (o : Nat) (x0_ : Nat) : Option zMem := Option.bind (L_XSight_cutFace_2 sh zfuel o x0_ 0 mm) (fun q74 => zoS (sh (q74.1)) 9 (fun le76 => zoL (mI (q74.2.2.2) (q74.1) 3 3) (fun mm77 => Option.bind (L_XSight_cutFace_114 sh zfuel (q74.1) 0 mm77) (fun q85 => zoS (sh (q85.1)) 9 (fun le87 => Option.bind (F_XSight_projectCorners sh (q85.2.2) (q85.1)) (fun p88 => some p88))))))
set_option maxHeartbeats 4000000 in
set_option maxRecDepth 100000 in
theorem k_XSight_cutFace (l : Launch) (D : va_G) (tA : Nat → ClassId) (b : Nat) (sh : zSh) (n : Nat) {mm : zMem} {o : Nat} {x0_ : Nat} {r : zMem} (h : F_XSight_cutFace sh mm o x0_ = some r) : zM l D tA b zy_XSight_cutFace zb_XSight_cutFace 4 none 3 90 0 0 [.ref (b + o), .ref (b + x0_)] (zW tA b sh mm) n (zE none (zW tA b sh r) n) := by
  unfold F_XSight_cutFace at h
  refine zM_of (own := "OrreryBox$Sight") (plainFor_of_name (by decide)) rfl (Nat.le_of_ble_eq_true rfl) (fun p e s m below meth c F hr hin hH => ?_)
  refine zr_iconstv (v := 0) F zd_XSight_cutFace_0 (by decide) ?_
  refine zr_istore_n F zd_XSight_cutFace_1 (by decide) ?_
  obtain ⟨q74, eq74, h⟩ := zoB_s h
  refine zr_loc (L' := [(0, .ref (b + o)), (1, .ref (b + x0_)), (2, .int 0)]) ⟨rfl, rfl, rfl, trivial⟩ ?_
  refine lp_XSight_cutFace_2 F _ _ _ _ _ _ eq74 ?_
  ·
    refine zr_aload_n F zd_XSight_cutFace_107 rfl ?_
    refine zr_iconstv (v := 3) F zd_XSight_cutFace_108 (by decide) ?_
    obtain ⟨le76, hs75, h⟩ := zoS_s h
    refine zr_put F 9 3 zd_XSight_cutFace_109 (zW_o hs75 (by decide)) rfl (by decide) zw_376 rfl rfl rfl rfl (by exact (Nat.le_of_ble_eq_true rfl)) ?_
    obtain ⟨mm77, emm77, h⟩ := zoL_s h
    refine zr_norm (zW tA b sh mm77) _ (by rw [emm77]; exact zW_pI (v := 3) hs75 (by decide) (zf_I_9_3 b _ _ _)) rfl ?_
    refine zr_iconstv (v := 0) F zd_XSight_cutFace_112 (by decide) ?_
    refine zr_pcn 113 rfl ?_
    refine zr_istore_n F zd_XSight_cutFace_113 (by decide) ?_
    obtain ⟨q85, eq85, h⟩ := zoB_s h
    refine zr_loc (L' := [(0, .ref (b + (q74.1))), (2, .int 0)]) ⟨rfl, rfl, trivial⟩ ?_
    refine lp_XSight_cutFace_114 F _ _ _ _ _ eq85 ?_
    ·
      refine zr_aload_n F zd_XSight_cutFace_138 rfl ?_
      obtain ⟨le87, hs86, h⟩ := zoS_s h
      obtain ⟨p88, ep88, h⟩ := zoB_s h
      refine zr_callV0 F (k_XSight_projectCorners l D tA b sh _ ep88) zd_XSight_cutFace_139 (zW_o hs86 (by decide)) rfl zs_XSight_209 rfl zq_XSight_projectCorners rfl rfl ⟨(Nat.le_of_ble_eq_true rfl), (Nat.le_of_ble_eq_true rfl)⟩ (Nat.le_of_ble_eq_true rfl) ⟨(Nat.le_of_ble_eq_true rfl), (Nat.le_of_ble_eq_true rfl)⟩ ?_
      obtain rfl := Option.some.inj h
      exact zr_vret F hr zd_XSight_cutFace_142 (Nat.le_of_ble_eq_true rfl) (Nat.le_of_ble_eq_true rfl) ⟨rfl, rfl, rfl⟩
