/-! PURE: call 17: pick -/
section ZSK
variable {W H : Nat} {mm : zMem}
set_option maxHeartbeats 2000000 in
theorem e_pickC {x y : Nat} (h : PB W H mm) (hq : hAB mm) (hW8 : 8 ≤ W) (hH8 : 8 ≤ H) (hW48 : W ≤ 48) (hH48 : H ≤ 48) (hx : x < W) (hy : y < H) : zok (F_OB_pick (sh0 W H) mm 0 (nI x) (nI y)) (fun z => hAB z.2 ∧ ∃ s, gS s ∧ mm.2.2 0 5 = some s ∧ (∀ k j, ¬ (k = 1121 ∧ (j = 2 ∨ j = 7 ∨ j = 14)) → z.2.2.2 k j = mm.2.2 k j) ∧ vS z.2 ∧ fT s mm.1 z.2.1 ∧ (∀ a, a ≠ 0 → ¬ (s ≤ a ∧ a < s + 370) → ¬ (1121 ≤ a ∧ a ≤ 1177) → z.2.1 a = mm.1 a) ∧ (∀ c, c ≠ 11 → z.2.1 0 c = mm.1 0 c) ∧ (z.2.1 1121 5 = mm.1 1121 5 ∧ z.2.1 1121 6 = mm.1 1121 6) ∧ (∀ a, a ≠ 1122 → z.2.2.1 a = mm.2.1 a) ∧ z.1 = (pkL x y ((PLr W H mm.1 1187).take 36864) (-1, -1, 0)).1 ∧ z.2.1 0 11 = (pkL x y ((PLr W H mm.1 1187).take 36864) (-1, -1, 0)).2.1) := by
  have hR := h.1
  obtain ⟨s, n, hs, h5, hn, hc, hc', hcn, hsc, htm, hpl⟩ := vS_k h
  have lt := s_lt hs
  have hp := gS_pl hs
  have s11 : 11 ≤ s := by rcases hs with e | e | e <;> omega
  obtain ⟨⟨kk1, kk2⟩, vk, _⟩ := h.2.1
  have o0 : ∀ a, a ≠ 0 → (mI mm 0 11 (-1)).1 a = mm.1 a := fun a ha => mI_o ha
  have z0 : (mI mm 0 11 (-1)).2 = mm.2 := rfl
  have v0 : ∀ c, (mI mm 0 11 (-1)).1 0 c = if c = 11 then -1 else mm.1 0 c := fun c => by rw [mI_v, if_pos rfl]
  have hP := e_hasP (W := W) (H := H) (mm := mI mm 0 11 (-1)) (x := nI x) (y := nI y) (by rw [v0, if_neg (by decide)]; exact kk1) (by rw [v0, if_neg (by decide)]; exact kk2) hW8 hH8 hW48 hH48
  have hin : isP W H (nI x) (nI y) = true := by
    unfold isP
    rw [nI_toInt (by omega), nI_toInt (by omega)]
    exact decide_eq_true (by omega)
  rw [hin] at hP
  unfold F_OB_pick
  rw [zoS_h sh_0, zoL_e, zoS_h sh_0]
  generalize mI mm 0 11 (-1) = m0 at *
  have gr : (fun a => m0.1 (1187 + a)) = fun a => mm.1 (1187 + a) := funext fun a => o0 _ (by omega)
  have R0 : RF m0.2.2 := by rw [z0]; exact hR
  have h50 : m0.2.2 0 5 = some s := by rw [z0]; exact h5
  have hsc0 : Rsc m0.1 s (fun a => m0.1 (1187 + a)) := by
    rw [gr]
    exact Rsc_c (fun b b1 b2 => o0 b (by omega)) (fun _ _ => rfl) (fun _ _ _ _ _ => rfl) hsc
  have rowz : ∀ q, q < 30 → m0.1 (1187 + q) = mm.1 (1187 + q) := fun q _ => o0 _ (by omega)
  obtain ⟨m1, g1, g2, g3, g4, g5, g6, g7, g8⟩ := w_placeR (W := W) (H := H) (mm := m0) (n := n) R0 hs h50 hn (by rw [o0 _ (by omega)]; exact hc) (by rw [gr]; exact hcn) hsc0 (by rw [o0 s (by omega), o0 1185 (by decide)]; exact htm) (fun e => by
    rw [o0 s (by omega)] at e
    exact Plc_c hn (fun b b1 b2 => o0 b (by omega)) rowz (hpl e))
  have hR1 : RF m1.2.2 := by rw [g2]; exact R0
  have h51 : m1.2.2 0 5 = some s := by rw [g2]; exact h50
  obtain ⟨s', hs', h5', hsc', htm', hpl'⟩ := g7
  have es : s' = s := by
    rw [h51] at h5'
    exact (Option.some.inj h5').symm
  subst es
  have rows : ∀ q, q < 30 → m1.1 (1187 + q) = mm.1 (1187 + q) := fun q hq' => by rw [g4 _ (by omega)]; exact o0 _ (by omega)
  have hcn1 : cn (fun a => m1.1 (1187 + a)) 3 = n := by
    have e : m1.1 (1187 + 0) = mm.1 (1187 + 0) := rows 0 (by decide)
    show (m1.1 (1187 + 0) 3).toNatClampNeg = n
    rw [e]
    exact hcn
  rw [zob_h hP]
  dsimp only
  rw [if_neg (show ¬ b32 true = 0 by decide), zoS_h sh_0, zob_h h50, zoS_h (sh_s0 hs), zob_h g1, zoS_h sh_0, zob_h (rf_0_7 hR1), zoS_h sh_0, zob_h h51, zoS_h sh_1121]
  refine zok_b (e_stand (W := W) (H := H) (r := 1187) hs (Or.inl rfl) hR1 (Cls_of hsc') (by rw [hcn1]; exact g8)) (fun m2 hm2 => ?_)
  obtain ⟨S2, r2, f2, k2, c12, c1, c3, c4⟩ := hm2
  have hR2 : RF m2.2.2 := fun k j hk => by
    rw [r2]
    exact (mR_ne (fun q => hk (by unfold rMut; omega))).trans (hR1 k j hk)
  have ref2 : ∀ k j, ¬ (k = 1121 ∧ j = 7) → m2.2.2 k j = mm.2.2 k j := fun k j hk => by
    rw [r2]
    exact (mR_ne hk).trans (by rw [g2, z0])
  have hq2 : hAB m2 := by
    obtain ⟨A, B, p1, p2, p3⟩ := hq
    exact ⟨A, B, p1, by rw [ref2 1121 2 (by omega)]; exact p2, by rw [ref2 1121 14 (by omega)]; exact p3⟩
  have L2 : m2.2.1 = mm.2.1 := by
    rw [r2]
    show m1.2.1 = _
    rw [g2, z0]
  have WS2 : WS W H s' 1187 m1.1 m2 := by
    refine ⟨hR2, S2, Cls_c hs (fun b b1 b2 => f2 b (by omega)) (Cls_of hsc'), fun i hi q hq' => ?_, ?_, hq2⟩
    · have hi' : i < n := by rw [← hcn1]; exact hi
      have : ndA s' i + 2 < 1121 := by rcases hs with e | e | e <;> (unfold ndA; omega)
      rw [f2 _ (by omega)]
      exact (g8 i hi').2 q hq'
    · rw [k2 5 (by decide) (by decide) (by decide) (by decide) (by decide), k2 6 (by decide) (by decide) (by decide) (by decide) (by decide), g4 1121 (by omega), o0 1121 (by decide)]
      exact vk
  have N2 : npS W H s' 1187 m1.1 (PLr W H m1.1 1187) m2 := ⟨WS2, .inl ⟨c4, c3, c12, c1, rfl⟩⟩
  have i0 : ∀ c, m2.1 0 c = if c = 11 then -1 else mm.1 0 c := fun c => by rw [f2 0 (by omega), g4 0 (by omega), v0]
  rw [zoS_h sh_0, zob_h (rf_0_7 hR2), zoS_h sh_1121, zob_h (rf_1121_0 hR2)]
  refine zok_b (show zok (L_OB_pick_51 (sh0 W H) zfuel 0 (nI x) (nI y) 1122 (-1) 0 (nI 0) m2) _ from e_pk51 (W := W) (H := H) hs hW8 hH8 hW48 hH48 hx hy 36864 0 zfuel m2 (PLr W H m1.1 1187) (-1, -1, 0) (-1) 0 (by decide) (zf_lt (by decide)) N2 ⟨rfl, rfl, by rw [i0, if_pos rfl], fun _ => rfl, by decide⟩) (fun z hz => ?_)
  obtain ⟨w0, w1, w2, w3, w4, w5, w6, m4⟩ := z
  obtain ⟨K4, q4, C4⟩ := hz
  dsimp only at K4 q4 C4 ⊢
  rw [PLr_g rows] at C4
  have hfr : ∀ a, a ≠ 0 → ¬ (1121 ≤ a ∧ a ≤ 1177) → m4.1 a = m1.1 a := fun a h0 ha => by rw [K4.2.1 a h0 ha, f2 a (by omega)]
  have h24 : m4.2.2 0 5 = some s' := by rw [K4.1 0 5 (by omega), ref2 0 5 (by omega)]; exact h5
  refine zok_s ⟨q4, s', hs, h5, fun k j k1 => ?_, ?_, fun b hb => ?_, fun a a1 a2 a3 => ?_, fun c hc2 => ?_, ⟨?_, ?_⟩, fun a a1 => ?_, C4.1, C4.2.2.1⟩
  · show m4.2.2 k j = _
    rw [K4.1 k j (by omega), ref2 k j (by omega)]
  · refine ⟨s', hs, h24, Rsc_c (fun b b1 b2 => hfr b (by omega) (by omega)) (fun c _ => congrFun (hfr 1187 (by omega) (by omega)) c) (fun j j1 j2 q _ => congrFun (hfr (1187 + j) (by omega) (by omega)) q) hsc', by show m4.1 s' 8 = m4.1 1185 10; rw [hfr s' (by omega) (by omega), hfr 1185 (by omega) (by omega)]; exact htm', fun e => ?_⟩
    have e' : ¬ m1.1 s' 9 = 0 := by rw [← hfr s' (by omega) (by omega)]; exact e
    have hcc : cn (fun a => m4.1 (1187 + a)) 3 = cn (fun a => m1.1 (1187 + a)) 3 := by
      show (m4.1 (1187 + 0) 3).toNatClampNeg = (m1.1 (1187 + 0) 3).toNatClampNeg
      rw [hfr (1187 + 0) (by omega) (by omega)]
    show Plc m4.1 s' 1187 (cn (fun a => m4.1 (1187 + a)) 3)
    rw [hcc]
    exact Plc_c (by rw [hcn1]; exact hn) (fun b b1 b2 => hfr b (by omega) (by omega)) (fun q hq' => hfr _ (by omega) (by omega)) (hpl' e')
  · show m4.1 b = _
    rw [hfr b (by omega) (by omega), g5 b hb]
    exact o0 b (by omega)
  · show m4.1 a = _
    rw [hfr a a1 a3, g6 a a2]
    exact o0 a a1
  · show m4.1 0 c = _
    rw [K4.2.2.1 c hc2, i0, if_neg hc2]
  · show m4.1 1121 5 = _
    rw [K4.2.2.2.1 5 (by decide) (by decide) (by decide) (by decide), k2 5 (by decide) (by decide) (by decide) (by decide) (by decide), g4 1121 (by omega), o0 1121 (by decide)]
  · show m4.1 1121 6 = _
    rw [K4.2.2.2.1 6 (by decide) (by decide) (by decide) (by decide), k2 6 (by decide) (by decide) (by decide) (by decide) (by decide), g4 1121 (by omega), o0 1121 (by decide)]
  · show m4.2.1 a = _
    rw [K4.2.2.2.2 a a1, L2]
/-- the reference picks -/
theorem m_pickM {m : zMem} {x y : Nat} (hR : RF m.2.2) (hW : Wsc (fun a => m.1 (1187 + a))) (hX : Wtx (fun a => m.1 (1187 + a))) (hw : m.1 1285 1 = nI W) (hh : m.1 1285 2 = nI H) (hW8 : 8 ≤ W) (hH8 : 8 ≤ H) (hW48 : W ≤ 48) (hH48 : H ≤ 48) (hx : x < W) (hy : y < H) : zok (F_MPainter_pick (sh0 W H) m 1285 1187 (nI x) (nI y)) (fun m' => (RF m'.2.2 ∧ m'.2.2 1178 3 = m.2.2 1178 3 ∧ m'.2.2 0 5 = m.2.2 0 5 ∧ m'.2.2 1121 2 = m.2.2 1121 2 ∧ m'.2.2 1121 14 = m.2.2 1121 14) ∧ (∀ k, k ≠ 1285 → k ≠ 1292 → k ≠ 1294 → m'.1 k = m.1 k) ∧ (m'.1 1285 1 = nI W ∧ m'.1 1285 2 = nI H) ∧ (∀ k, k ≠ 1285 → ¬ (1286 ≤ k ∧ k < 1302) → m'.2.1 k = m.2.1 k) ∧ PKM W H (pkL x y ((PLr W H m.1 1187).take 36864) (-1, -1, 0)) m') := by
  unfold F_MPainter_pick
  rw [zoS_h sh_1285, zoL_e, zoS_h sh_1285, zoL_e, zoS_h sh_1285, zoL_e, zoS_h sh_1285, zoL_e, zoL_e, zoS_h sh_1285, zoL_e, zoL_e, zoS_h sh_1285, zoL_e, zoS_h sh_1285, zoL_e, zoS_h sh_1285, zoL_e, zoS_h sh_1285, zoL_e, zoS_h sh_1285, nI_p1, nI_p1]
  generalize hmA : mL (mI (mI (mI (mI (mI (mI (mI (mR m 1285 5 (some 1187)) 1285 10 0) 1285 6 (nI x)) 1285 7 (nI y)) 1285 8 (nI (x + 1))) 1285 9 (nI (y + 1))) 1285 11 (-1)) 1285 12 (-1)) 1285 13 0 = mA
  have fA : ∀ k, k ≠ 1285 → mA.1 k = m.1 k := fun k hk => by rw [← hmA, mL_1, mI_o hk, mI_o hk, mI_o hk, mI_o hk, mI_o hk, mI_o hk, mI_o hk, mR_1]
  have fc : mA.1 1285 1 = nI W ∧ mA.1 1285 2 = nI H ∧ mA.1 1285 10 = 0 ∧ rctI x y (x + 1) (y + 1) mA ∧ mA.1 1285 11 = -1 ∧ mA.1 1285 12 = -1 := by
    rw [← hmA]
    refine ⟨?_, ?_, ?_, ⟨?_, ?_, ?_, ?_⟩, ?_, ?_⟩
    · rw [mL_1]; simp [mI_v, mR_1, hw]
    · rw [mL_1]; simp [mI_v, mR_1, hh]
    all_goals (rw [mL_1]; simp [mI_v])
  have l13 : mA.2.1 1285 13 = 0 := by rw [← hmA, mLs]
  have RA : mA.2.2 = (mR m 1285 5 (some 1187)).2.2 := by rw [← hmA]; rfl
  have LA : ∀ k, k ≠ 1285 → mA.2.1 k = m.2.1 k := fun k hk => by rw [← hmA, mLn hk]; rfl
  have hRA : RF mA.2.2 := by rw [RA]; exact RF_u hR (by unfold rMut; omega)
  have hrow : ∀ q, q < 30 → mA.1 (1187 + q) = m.1 (1187 + q) := fun q hq => fA _ (by omega)
  refine zok_b (e_goOverK (W := W) (H := H) (r := 1187) (le := x) (to := y) (ri := x + 1) (bo := y + 1) (g := fun a => m.1 (1187 + a)) (S := (-1, -1, 0)) (m := mA) (Or.inl rfl) hW hX hW8 hH8 hW48 hH48 (by omega) rfl rfl (by omega) ⟨hRA, by rw [RA]; exact mR_e, hrow, fc.1, fc.2.1, fc.2.2.1⟩ fc.2.2.2.1 ⟨fc.2.2.2.2.1, fc.2.2.2.2.2, l13⟩) (fun m' hm => zok_s ?_)
  obtain ⟨a1, a2⟩ := hm
  rw [PLr_g (W := W) (H := H) hrow] at a2
  exact ⟨⟨by rw [a1.1]; exact hRA, by rw [a1.1, RA, mR_ne (by omega)], by rw [a1.1, RA, mR_ne (by omega)], by rw [a1.1, RA, mR_ne (by omega)], by rw [a1.1, RA, mR_ne (by omega)]⟩, fun k k2 k3 k4 => by rw [a1.2.1 k k2 k2 k3 k4, fA k k2], ⟨by rw [a1.2.2.1 1 (by decide) (by decide)]; exact fc.1, by rw [a1.2.2.1 2 (by decide) (by decide)]; exact fc.2.1⟩, fun k k1 k2 => by rw [a1.2.2.2 k k1 k2, LA k k1], a2⟩
set_option maxHeartbeats 2000000 in
theorem s_pick {x1 x2 x3 x4 x5 : Int32} (h : PB W H mm) (hx : PX W H mm) (hW8 : 8 ≤ W) (hH8 : 8 ≤ H) (hW48 : W ≤ 48) (hH48 : H ≤ 48) : zok (lawS17 (sh0 W H) mm x1 x2 x3 x4 x5) (fun mq => PB W H mq ∧ PX W H mq) := by
  have hR := h.1
  obtain ⟨⟨k1, k2⟩, k22, ⟨k3, k4, k5, k6⟩, ⟨k7, k8⟩, ⟨k9, k10⟩⟩ := h.2.1
  cases e : isP W H x1 x2 with
  | false =>
    have hP := e_hasP (W := W) (H := H) (mm := mI mm 0 11 (-1)) (x := x1) (y := x2) (by rw [mI_v, if_pos rfl, if_neg (by decide)]; exact k1) (by rw [mI_v, if_pos rfl, if_neg (by decide)]; exact k2) hW8 hH8 hW48 hH48
    rw [e] at hP
    have c1 : F_OB_pick (sh0 W H) mm 0 x1 x2 = some (-1, mI mm 0 11 (-1)) := by
      unfold F_OB_pick
      rw [zoS_h sh_0, zoL_e, zoS_h sh_0, zob_h hP]
      exact if_pos rfl
    have o1 : ∀ a, a ≠ 0 → a ≠ 1185 → (mI (mI (mI mm 0 11 (-1)) 1185 11 0) 1185 19 (-1)).1 a = mm.1 a := fun a h0 h1 => by rw [mI_o h1, mI_o h1, mI_o h0]
    have v0 : ∀ c, (mI (mI (mI mm 0 11 (-1)) 1185 11 0) 1185 19 (-1)).1 0 c = if c = 11 then -1 else mm.1 0 c := fun c => by rw [mI_o (by decide), mI_o (by decide), mI_v, if_pos rfl]
    have v5 : ∀ c, (mI (mI (mI mm 0 11 (-1)) 1185 11 0) 1185 19 (-1)).1 1185 c = if c = 19 then -1 else if c = 11 then 0 else mm.1 1185 c := fun c => by rw [mI_v, if_pos rfl, mI_v, if_pos rfl, mI_o (by decide)]
    have hI := e_isp (W := W) (H := H) (mm := mI (mI (mI mm 0 11 (-1)) 1185 11 0) 1185 19 (-1)) (x := x1) (y := x2) (by rw [v5, if_neg (by decide), if_neg (by decide)]; exact k7) (by rw [v5, if_neg (by decide), if_neg (by decide)]; exact k8) hW48 hH48
    rw [e] at hI
    have c2 : F_MD_pick (sh0 W H) (mI mm 0 11 (-1)) 1185 x1 x2 = some (-1, mI (mI (mI mm 0 11 (-1)) 1185 11 0) 1185 19 (-1)) := by
      unfold F_MD_pick
      rw [zoS_h sh_1185, zoL_e, zoS_h sh_1185, zoL_e, zoS_h sh_1185, zob_h hI]
      exact if_pos rfl
    refine law2 (v := -1) (m1 := mI mm 0 11 (-1)) (B := fun q => F_MD_pick (sh0 W H) q 1185 x1 x2) c1 c2 ?_
    have hz2 : (mI (mI (mI mm 0 11 (-1)) 1185 11 0) 1185 19 (-1)).2 = mm.2 := rfl
    generalize mI (mI (mI mm 0 11 (-1)) 1185 11 0) 1185 19 (-1) = z at *
    have hA : PB W H z ∧ agP mm z := by
      refine PB_A h hz2 (fun a h0 h1 _ _ _ => o1 a h0 h1) (fun c hc => ⟨by rw [v0, if_neg (by omega)], by rw [v5, if_neg (by omega), if_neg (by omega)]⟩) (by rw [v5, if_neg (by decide), if_neg (by decide)]) (by rw [v5, if_neg (by decide), if_neg (by decide)]) ?_ ?_
      · have hT := h.2.2.1
        unfold vT at *
        rw [o1 1186 (by decide) (by decide), o1 1 (by decide) (by decide), v0, if_neg (by decide), v5, if_neg (by decide), if_neg (by decide)]
        exact hT
      · obtain ⟨w1, w2, w3, w4⟩ := h.2.2.2.2.2.1
        unfold vO
        rw [o1 3 (by decide) (by decide), o1 1281 (by decide) (by decide), o1 5 (by decide) (by decide), o1 6 (by decide) (by decide), o1 1278 (by decide) (by decide), o1 1280 (by decide) (by decide), v5 12, if_neg (by decide), if_neg (by decide), v5 13, if_neg (by decide), if_neg (by decide), v5 19, if_pos rfl, v0 10, if_neg (by decide), v0 11, if_pos rfl]
        exact ⟨w1, w2, rfl, w4⟩
    exact ⟨hA.1, PX_ag hx hA.2 hA.1.1⟩
  | true =>
    obtain ⟨a, b, ha, hb, rfl, rfl⟩ := isP_y e
    unfold lawS17
    rw [zoS_h sh_0]
    refine zok_b (e_pickC h hx.1 hW8 hH8 hW48 hH48 ha hb) (fun z hz => ?_)
    obtain ⟨v1, m1⟩ := z
    obtain ⟨qA, s, hs, h05, rf, hvS, hfT, fr, f0, ⟨f5, f6⟩, fl, ev, ef⟩ := hz
    dsimp only at qA rf hvS hfT fr f0 f5 f6 fl ev ef ⊢
    have hp := gS_pl hs
    have s11 : 11 ≤ s := by rcases hs with e | e | e <;> omega
    have R1 : RF m1.2.2 := fun k j hk => (rf k j (fun q => hk (by unfold rMut; omega))).trans (hR k j hk)
    have o1 : ∀ a, (0 < a ∧ a < 11) ∨ 1178 ≤ a → m1.1 a = mm.1 a := fun a ha => fr a (by omega) (by omega) (by omega)
    rw [zoS_h sh_1185]
    unfold F_MD_pick
    rw [zoS_h sh_1185, zoL_e, zoS_h sh_1185, zoL_e]
    generalize hm3 : mI (mI m1 1185 11 0) 1185 19 (-1) = m3
    have o3 : ∀ a, a ≠ 1185 → m3.1 a = m1.1 a := fun a ha => by rw [← hm3, mI_o ha, mI_o ha]
    have v3 : ∀ c, m3.1 1185 c = if c = 19 then -1 else if c = 11 then 0 else m1.1 1185 c := fun c => by rw [← hm3, mI_v, if_pos rfl, mI_v, if_pos rfl]
    have r3 : m3.2 = m1.2 := by rw [← hm3]; rfl
    have R3 : RF m3.2.2 := by rw [r3]; exact R1
    have hI := e_isp (W := W) (H := H) (mm := m3) (x := nI a) (y := nI b) (by rw [v3, if_neg (by decide), if_neg (by decide), o1 1185 (by omega)]; exact k7) (by rw [v3, if_neg (by decide), if_neg (by decide), o1 1185 (by omega)]; exact k8) hW48 hH48
    rw [e] at hI
    rw [zoS_h sh_1185, zob_h hI]
    dsimp only
    rw [if_neg (show ¬ b32 true = 0 by decide), zoS_h sh_1185, zob_h (rf_1185_8 R3), zoS_h sh_1185, zob_h (rf_1185_4 R3), zoS_h sh_1285]
    have row3 : (fun a => m3.1 (1187 + a)) = fun a => mm.1 (1187 + a) := funext fun a => by rw [o3 _ (by omega), o1 _ (by omega)]
    obtain ⟨s0, hs0, h50, hsc0, _, _⟩ := h.2.2.2.1
    obtain ⟨hW0, hX0⟩ := Rsc_W hsc0
    obtain ⟨m4, e4, ⟨a1, a2, a3, a4, a5⟩, b1, b2, b3, ⟨p11, p12, p13⟩⟩ := m_pickM (W := W) (H := H) (m := m3) (x := a) (y := b) R3 (by rw [row3]; exact hW0) (by rw [row3]; exact hX0) (by rw [o3 1285 (by decide), o1 1285 (by omega)]; exact k9) (by rw [o3 1285 (by decide), o1 1285 (by omega)]; exact k10) hW8 hH8 hW48 hH48 ha hb
    have ePL : PLr W H m3.1 1187 = PLr W H mm.1 1187 := PLr_g (fun q _ => by rw [o3 _ (by omega), o1 _ (by omega)])
    rw [ePL] at p11 p12 p13
    rw [zob_h e4, zoS_h sh_1185, zob_h (rf_1185_8 a1), zoS_h sh_1285, p12, zoL_e, zoS_h sh_1185, zoL_e]
    generalize hm5 : mI m4 1185 19 (pkL a b ((PLr W H mm.1 1187).take 36864) (-1, -1, 0)).2.1 = m5
    have o5 : ∀ a, a ≠ 1185 → m5.1 a = m4.1 a := fun a ha => by rw [← hm5, mI_o ha]
    have v5 : ∀ c, m5.1 1185 c = if c = 19 then (pkL a b ((PLr W H mm.1 1187).take 36864) (-1, -1, 0)).2.1 else m4.1 1185 c := fun c => by rw [← hm5, mI_v, if_pos rfl]
    have r5 : m5.2 = m4.2 := by rw [← hm5]; rfl
    have R5 : RF m5.2.2 := by rw [r5]; exact a1
    rw [zoS_h sh_1185, zob_h (rf_1185_8 R5), zoS_h sh_1285, zob_e]
    dsimp only
    rw [o5 1285 (by decide), p11, if_pos ev]
    have F : ∀ a, a ≠ 1185 → a ≠ 1285 → a ≠ 1292 → a ≠ 1294 → m5.1 a = m1.1 a := fun a h1 h2 h3 h4 => by rw [o5 a h1, b1 a h2 h3 h4, o3 a h1]
    have F5 : ∀ c, c ≠ 11 → c ≠ 19 → m5.1 1185 c = mm.1 1185 c := fun c c1 c2 => by rw [v5, if_neg c2, b1 1185 (by decide) (by decide) (by decide), v3, if_neg c2, if_neg c1, o1 1185 (by omega)]
    have FO : ∀ a, (0 < a ∧ a < 11) ∨ (1178 ≤ a ∧ a < 1285 ∧ a ≠ 1185) → m5.1 a = mm.1 a := fun a ha => by rw [F a (by omega) (by omega) (by omega) (by omega), o1 a (by omega)]
    have F0 : ∀ c, c ≠ 11 → m5.1 0 c = mm.1 0 c := fun c hc => by rw [F 0 (by decide) (by decide) (by decide) (by decide), f0 c hc]
    have LO : ∀ a, a < 1285 → a ≠ 1122 → m5.2.1 a = mm.2.1 a := fun a h1 h2 => by rw [r5, b3 a (by omega) (by omega), r3, fl a h2]
    rw [r3] at a2 a3 a4 a5
    have hvS5 : vS m5 := vS_T hvS (by rw [r5, a3]) (fun a ha => F a (by omega) (by omega) (by omega) (by omega)) (by rw [F5 10 (by decide) (by decide), o1 1185 (by omega)])
    have hvQ : vQ m5.1 := fun t ht i hi => by
      have ht' := gS_pl ht
      rw [F _ (by unfold txA; omega) (by unfold txA; omega) (by unfold txA; omega) (by unfold txA; omega)]
      have : m1.1 (txA t i + 2) = mm.1 (txA t i + 2) := by
        by_cases e : t = s
        · rw [e]
          exact hfT _ (by unfold txA; omega)
        · refine fr _ (by unfold txA; omega) ?_ (by unfold txA; omega)
          unfold txA
          rcases ht with rfl | rfl | rfl <;> rcases hs with rfl | rfl | rfl <;> omega
      rw [this]
      exact h.2.2.2.2.1 t ht i hi
    have hPB : PB W H m5 := by
      obtain ⟨_, hK, hT, _, _, ⟨w1, w2, w3, w4⟩, hPp⟩ := h
      refine ⟨R5, ?_, ?_, hvS5, hvQ, ?_, fun p hp => hPp p (by rw [r5, a2, rf 1178 3 (by omega)] at hp; exact hp)⟩
      · refine ⟨⟨by rw [F0 0 (by decide)]; exact k1, by rw [F0 1 (by decide)]; exact k2⟩, ?_, by rw [FO 1178 (by omega)]; exact ⟨k3, k4, k5, k6⟩, ⟨by rw [F5 0 (by decide) (by decide)]; exact k7, by rw [F5 1 (by decide) (by decide)]; exact k8⟩, by rw [o5 1285 (by decide)]; exact b2⟩
        rw [F 1121 (by decide) (by decide) (by decide) (by decide), f5, f6]
        exact k22
      · unfold vT at *
        rw [FO 1186 (by omega), FO 1 (by omega), F0 3 (by decide), F5 3 (by decide) (by decide)]
        exact hT
      · unfold vO
        rw [FO 3 (by omega), F0 10 (by decide), FO 1281 (by omega), FO 5 (by omega), FO 6 (by omega), FO 1278 (by omega), FO 1280 (by omega), F5 12 (by decide) (by decide), F5 13 (by decide) (by decide)]
        refine ⟨w1, w2, ?_, w4⟩
        rw [F 0 (by decide) (by decide) (by decide) (by decide), ef, v5, if_pos rfl]
    refine zok_s ⟨hPB, ?_⟩
    have hag : agP { mm with snd := (mm.2.1, fun k j => if k = 1121 ∧ (j = 2 ∨ j = 14) then m5.2.2 k j else mm.2.2 k j) } m5 := by
      refine ⟨?_, LO 1178 (by decide) (by decide), LO 1284 (by decide) (by decide), fun a ha => FO a (by omega), F5 15 (by decide) (by decide), fun p hp a ha => ?_⟩
      · show (m5.2.2 1178 3, m5.2.2 1121 2, m5.2.2 1121 14) = (mm.2.2 1178 3, m5.2.2 1121 2, m5.2.2 1121 14)
        rw [r5, a2, rf 1178 3 (by omega)]
      · have hpp : mm.2.2 1178 3 = some p := hp
        have hgp := h.2.2.2.2.2.2 p hpp
        have hp2 := gS_pl hgp
        show m5.1 a = mm.1 a
        rw [F a (by omega) (by omega) (by omega) (by omega)]
        by_cases e : p = s
        · rw [e] at ha
          exact hfT a (by omega)
        · refine fr a (by rcases hgp with e1 | e1 | e1 <;> omega) ?_ (by omega)
          rcases hgp with rfl | rfl | rfl <;> rcases hs with rfl | rfl | rfl <;> omega
    refine PX_ag ?_ hag R5
    obtain ⟨_, hc, hb'⟩ := hx
    refine ⟨?_, hc, ?_⟩
    · obtain ⟨A, B, z1, z2, z3⟩ := qA
      refine ⟨A, B, z1, ?_, ?_⟩
      · show m5.2.2 1121 2 = some A
        rw [r5, a4]
        exact z2
      · show m5.2.2 1121 14 = some B
        rw [r5, a5]
        exact z3
    · rcases hb' with hb' | ⟨q1, q2, s', S, S', gr, N, p1, p2, p3⟩
      · exact Or.inl hb'
      · refine Or.inr ⟨q1, q2, s', S, S', gr, N, p1, ?_, p3⟩
        obtain ⟨t1, t2⟩ := p2
        refine ⟨fun k j hk => ?_, t2⟩
        show (if k = 1121 ∧ (j = 2 ∨ j = 14) then m5.2.2 k j else mm.2.2 k j) = _
        rw [if_neg (fun q => hk (by unfold rMut; omega))]
        exact t1 k j hk
end ZSK
