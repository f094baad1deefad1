/-! PURE: call 14: tile, both sides -/
section ZSU
variable {W H : Nat} {mm : zMem}
theorem c_lacks {x : Int32} {N : Nat} (h12 : mm.1 1178 12 = 1) (h0 : mm.1 1178 0 = nI (nT W H)) (hN : mm.2.1 1178 13 = oL N) (hN2 : N < 2 ^ nT W H) (hW48 : W ≤ 48) (hH48 : H ≤ 48) : F_XPicture_lacks (sh0 W H) mm 1178 x = some (b32 (decide (0 ≤ x.toInt ∧ x.toInt < nT W H) && !(N.testBit x.toNatClampNeg)), mm) := by
  have h36 : 2 ^ nT W H ≤ 2 ^ 36 := Nat.pow_le_pow_right (by decide) (nT_le hW48 hH48)
  have h36' := nT_le hW48 hH48
  have z0 : (0 : Int32).toInt = 0 := rfl
  have nt : (nI (nT W H)).toInt = (nT W H : Int) := nI_toInt (by omega)
  unfold F_XPicture_lacks
  rw [zoS_h sh_1178, h12, if_neg (by decide)]
  by_cases c1 : x.toInt < 0
  · rw [if_pos (by rw [i32_lt, z0]; exact c1), decide_eq_false (by omega)]
    rfl
  rw [if_neg (by rw [i32_lt, z0]; exact c1), zoS_h sh_1178, h0]
  by_cases c2 : x.toInt < nT W H
  · rw [if_neg (by rw [i32_le, nt]; omega), zoS_h sh_1178, hN, decide_eq_true (by omega)]
    obtain ⟨e, f⟩ := i32_cl (x := x) (by omega)
    generalize x.toNatClampNeg = k at *
    subst e
    have hb := bt_0 (N := N) (k := k) (by omega) (by omega)
    cases hbt : N.testBit k with
    | false =>
      rw [if_pos (hb.mpr hbt)]
      rfl
    | true =>
      rw [if_neg (fun q => by rw [hb.mp q] at hbt; cases hbt)]
      rfl
  · rw [if_pos (by rw [i32_le, nt]; omega), decide_eq_false (by omega)]
    rfl
theorem m_tileN {x : Int32} (hR : RF mm.2.2) (h0 : mm.1 1185 0 = nI W) (h1 : mm.1 1185 1 = nI H) (hW48 : W ≤ 48) (hH48 : H ≤ 48) (hn : mm.1 1185 15 = 0 ∨ ¬ (0 ≤ x.toInt ∧ x.toInt < nT W H) ∨ ¬ mm.1 1282 x.toNatClampNeg = 0) : F_MD_tile (sh0 W H) mm 1185 x = some (0, mI mm 1185 11 0) := by
  have h36' := nT_le hW48 hH48
  have z0 : (0 : Int32).toInt = 0 := rfl
  have nt : (nI (nT W H)).toInt = (nT W H : Int) := nI_toInt (by omega)
  have R1 : RF (mI mm 1185 11 0).2.2 := hR
  unfold F_MD_tile
  rw [zoS_h sh_1185, zoL_e, zoS_h sh_1185, m11 (show 15 ≠ 11 by decide)]
  by_cases c0 : mm.1 1185 15 = 0
  · rw [if_pos c0]
  rw [if_neg c0]
  by_cases c1 : x.toInt < 0
  · rw [if_pos (by rw [i32_lt, z0]; exact c1)]
  rw [if_neg (by rw [i32_lt, z0]; exact c1), zoS_h sh_1185, zob_h (e_tiles (W := W) (H := H) (by rw [m11 (by decide)]; exact h0) (by rw [m11 (by decide)]; exact h1) hW48 hH48)]
  dsimp only
  by_cases c2 : x.toInt < nT W H
  · obtain ⟨e, f⟩ := i32_cl (x := x) (by omega)
    generalize x.toNatClampNeg = k at *
    subst e
    have hd : ¬ mm.1 1282 k = 0 := by
      rcases hn with q | q | q
      · exact absurd q c0
      · exact absurd ⟨by omega, c2⟩ q
      · exact q
    rw [if_neg (by rw [i32_le, nt]; omega), zoS_h sh_1185, zob_h (rf_1185_16 R1), zoS_h sh_1282, if_neg (fun q => q.elim (nI_pos (by omega)) (by omega)), m11o (show 1282 ≠ 1185 by decide), if_neg hd]
  · rw [if_pos (by rw [i32_le, nt]; omega)]
set_option maxHeartbeats 2000000 in
theorem s_tile {x1 x2 x3 x4 x5 : Int32} (h : PB W H mm) (hx : PX W H mm) (hW8 : 8 ≤ W) (hH8 : 8 ≤ H) (hW48 : W ≤ 48) (hH48 : H ≤ 48) : zok (lawS14 (sh0 W H) mm x1 x2 x3 x4 x5) (fun mq => PB W H mq ∧ PX W H mq) := by
  have hR := h.1
  obtain ⟨⟨k1, k2⟩, k22, ⟨k3, k4, k5, k6⟩, ⟨k7, k8⟩, ⟨k9, k10⟩⟩ := h.2.1
  have p11 := PB_11 h
  have q11 : PB W H (mI mm 1185 11 0) ∧ PX W H (mI mm 1185 11 0) := ⟨p11.1, PX_ag hx p11.2 hR⟩
  have no : F_XPicture_lacks (sh0 W H) mm 1178 x1 = some (0, mm) → F_MD_tile (sh0 W H) mm 1185 x1 = some (0, mI mm 1185 11 0) → zok (lawS14 (sh0 W H) mm x1 x2 x3 x4 x5) (fun mq => PB W H mq ∧ PX W H mq) := fun e1 e2 => by
    refine law2 (v := 0) (m1 := mm) (B := fun q => F_MD_tile (sh0 W H) q 1185 x1) ?_ e2 q11
    unfold F_OB_tile
    rw [zoS_h sh_0, zob_h (rf_0_8 hR), zoS_h sh_1178, zob_h e1]
    exact if_pos rfl
  rcases hx.2.2 with ⟨b1, b2⟩ | ⟨b1, b2, s, S, S', gr, N, p1, p2, p3, p4, p5, p6, p7, p8, p9⟩
  · refine no ?_ (m_tileN hR k7 k8 hW48 hH48 (Or.inl b2))
    unfold F_XPicture_lacks
    rw [zoS_h sh_1178, if_pos b1]
  obtain ⟨q1, q2, q3⟩ := p6
  have lk := c_lacks (W := W) (H := H) (mm := mm) (x := x1) b1 k3 q1 q2 hW48 hH48
  by_cases c : 0 ≤ x1.toInt ∧ x1.toInt < nT W H
  · obtain ⟨e, f⟩ := i32_cl (x := x1) c.1
    rw [decide_eq_true c] at lk
    generalize x1.toNatClampNeg = k at *
    subst e
    have hk : k < nT W H := by omega
    cases hbt : N.testBit k with
    | true =>
      rw [hbt] at lk
      refine no lk (m_tileN hR k7 k8 hW48 hH48 (Or.inr (Or.inr ?_)))
      rw [nI_cl (by have := nT_le hW48 hH48; omega)]
      have := q3 k hk
      rw [hbt] at this
      exact of_decide_eq_true this.symm
    | false =>
      rw [hbt] at lk
      have hd : mm.1 1282 k = 0 := by
        have := q3 k hk
        rw [hbt] at this
        exact Decidable.not_not.mp (of_decide_eq_false this.symm)
      show zok (lawS14 (sh0 W H) mm (nI k) x2 x3 x4 x5) _
      unfold lawS14
      obtain ⟨m2, d1, d2, d3, d4⟩ := e_drawT (W := W) (H := H) (m := mm) (k := k) (S := S') (gr := gr) p1 p2 k4 k5 k6 p5.1 p5.2 hW8 hH8 hW48 hH48 hk p8
      have ot : F_OB_tile (sh0 W H) mm 0 (nI k) = some (1, m2) := by
        unfold F_OB_tile
        rw [zoS_h sh_0, zob_h (rf_0_8 hR), zoS_h sh_1178, zob_h lk]
        dsimp only
        rw [if_neg (show ¬ b32 (true && !false) = 0 by decide), zoS_h sh_0, zob_h (rf_0_8 hR), zoS_h sh_1178, zob_h d1]
      rw [zoS_h sh_0, zob_h ot, zoS_h sh_1185]
      dsimp only
      obtain ⟨T1, T2, T3, T4⟩ := d2
      have R2 : RF m2.2.2 := by rw [T1]; exact hR
      have row2 : ∀ q, q < 30 → m2.1 (1247 + q) = mm.1 (1247 + q) := fun q hq => T2 _ (by omega) (by omega) (by omega) (by omega)
      have i5 := T2 1185 (by decide) (by decide) (by decide) (by decide)
      refine zok_b (m_tile (W := W) (H := H) (m := m2) (k := k) (S := S) R2 hk hW8 hH8 hW48 hH48 (by rw [i5]; exact k7) (by rw [i5]; exact k8) (by rw [i5]; exact b2) (by rw [T2 1285 (by decide) (by decide) (by decide) (by decide)]; exact k9) (by rw [T2 1285 (by decide) (by decide) (by decide) (by decide)]; exact k10) (by rw [T2 1282 (by decide) (by decide) (by decide) (by decide)]; exact hd) (Wsc_g row2 p3) (Wtx_30 (fun q hq => (row2 q hq).symm) p4) (fun x hx y hy => by
        rw [T2 1283 (by decide) (by decide) (by decide) (by decide), T4 1284 (by decide) (by decide)]
        exact p7 x hx y hy)) (fun z hz => ?_)
      obtain ⟨z1, m5⟩ := z
      obtain ⟨a1, ⟨a2, a3, a4, a5, a6⟩, a7, a8, a9, a10, a11, a12⟩ := hz
      dsimp only at a1 a2 a3 a4 a5 a6 a7 a8 a9 a10 a11 a12 ⊢
      subst a1
      rw [if_pos rfl]
      rw [T1] at a3 a4 a5 a6
      have ge : (fun a => m2.1 (1247 + a)) = fun a => m2.1 (1247 + a) := rfl
      have F : ∀ a, a < 1282 → a ≠ 1178 → a ≠ 1182 → a ≠ 1183 → a ≠ 1184 → a ≠ 1185 → m5.1 a = mm.1 a := fun a h1 h2 h3 h4 h5 h6 => by rw [a7 a h1 h6, T2 a h2 h3 h4 h5]
      have F8 : ∀ c, c < 14 → m5.1 1178 c = mm.1 1178 c := fun c hc => by rw [a7 1178 (by decide) (by decide), T3 c hc]
      have F5 : ∀ c, c ≠ 11 → m5.1 1185 c = mm.1 1185 c := fun c hc => by rw [a8 c hc, i5]
      have hPB : PB W H m5 := PB_T h a2 (fun p hp => h.2.2.2.2.2.2 p (by rw [← a3]; exact hp)) (vS_T h.2.2.2.1 a4 (fun a ha => F a (by omega) (by omega) (by omega) (by omega) (by omega) (by omega)) (F5 10 (by decide))) (vQ_T h.2.2.2.2.1 (fun a ha => F a (by omega) (by omega) (by omega) (by omega) (by omega) (by omega))) (fun a ha => F a (by omega) (by omega) (by omega) (by omega) (by omega) (by omega)) ⟨congrFun (F 1121 (by decide) (by decide) (by decide) (by decide) (by decide) (by decide)) 5, congrFun (F 1121 (by decide) (by decide) (by decide) (by decide) (by decide) (by decide)) 6⟩ (fun c hc => F8 c (by omega)) (fun c h1 _ => F5 c h1) ⟨by rw [a10.1]; exact k9.symm, by rw [a10.2]; exact k10.symm⟩
      have rows : ∀ q, q < 30 → m5.1 (1247 + q) = mm.1 (1247 + q) := fun q hq => F _ (by omega) (by omega) (by omega) (by omega) (by omega) (by omega)
      obtain ⟨n1, n2, n3⟩ := bt_w (N := N) (T := nT W H) (k := k) q2 (nT_le hW48 hH48) hk
      have hCPX : CPX W H (pcL2 (fun a => mm.1 (1247 + a)) (inR (tl W k) (tt W k) (tr W k) (tb W H k)) ((PLr W H mm.1 1247).take 36864) (fun a b => if inR (tl W k) (tt W k) (tr W k) (tb W H k) a b then ((fun k => nI (gr k)), 0) else S' a b)) m5 := fun x hx y hy => by
        rw [a7 1183 (by decide) (by decide), a7 1184 (by decide) (by decide)]
        exact d4 x hx y hy
      rw [PLr_g (W := W) (H := H) row2] at a12
      have e30 : ∀ D S, pcL2 (fun a => m2.1 (1247 + a)) (inR (tl W k) (tt W k) (tr W k) (tb W H k)) D S = pcL2 (fun a => mm.1 (1247 + a)) (inR (tl W k) (tt W k) (tr W k) (tb W H k)) D S := fun D S => by
        have i : ∀ g, pcL2 (cl30 g) (inR (tl W k) (tt W k) (tr W k) (tb W H k)) D S = pcL2 g (inR (tl W k) (tt W k) (tr W k) (tb W H k)) D S := fun g => by
          induction D generalizing S with
          | nil => rfl
          | cons p t ih =>
            rw [pcL2, pcL2, ih]
            rfl
        rw [← i, cl30_e row2, i]
      rw [e30] at a12
      refine zok_s ⟨hPB, ⟨?_, ⟨_, hCPX⟩, Or.inr ⟨by rw [F8 12 (by decide)]; exact b1, by rw [F5 15 (by decide)]; exact b2, s, _, _, gr, N ||| 2 ^ k, p1, ?_, Wsc_g rows p3, Wtx_30 (fun q hq => (rows q hq).symm) p4, by rw [F8 7 (by decide)]; exact p5, ⟨?_, n2, fun j hj => ?_⟩, a12, hCPX, fun x hx y hy => ?_⟩⟩⟩
      · obtain ⟨A, B, z1, z2, z3⟩ := hx.1
        exact ⟨A, B, z1, by rw [a5]; exact z2, by rw [a6]; exact z3⟩
      · rw [PLr_g (W := W) (H := H) rows]
        refine SB_30 (g := fun a => mm.1 (1247 + a)) (fun q hq => (rows q hq).symm) ?_
        exact SB_x p1 p2 a2 a3 (fun a ha => F a (by omega) (by omega) (by omega) (by omega) (by omega) (by omega)) (F8 10 (by decide))
      · rw [a11 1178 (by decide), d3, q1, n1]
      · rw [n3 j, a9, q3 j hj]
        rw [T2 1282 (by decide) (by decide) (by decide) (by decide)]
        by_cases e : j = k
        · subst e
          rw [upd_at, decide_eq_true (rfl : j = j), Bool.or_true]
          rfl
        · rw [upd_ne e, decide_eq_false (show ¬ (k = j) from fun q => e q.symm), Bool.or_false]
      · rw [n3]
        have hin := tile_px (W := W) (H := H) (x := x) (y := y) (k := k) hW8 hx hy
        have hp9 := p9 x hx y hy
        by_cases e : tlN W x y = k
        · rw [decide_eq_true e.symm, Bool.or_true, if_pos rfl]
          rw [e, hbt, if_neg (by decide)] at hp9
          refine pcL2_pt _ _ _ ?_
          rw [hin, decide_eq_true e, if_pos rfl]
          exact hp9
        · rw [decide_eq_false (fun q => e q.symm), Bool.or_false]
          rw [decide_eq_false e] at hin
          rw [pcL2_no hin, pcL2_no hin]
          have e2 : (if inR (tl W k) (tt W k) (tr W k) (tb W H k) x y = true then ((fun k => nI (gr k)), 0) else S' x y) = S' x y := by rw [hin]; rfl
          rw [e2]
          exact hp9
  · rw [decide_eq_false c] at lk
    exact no lk (m_tileN hR k7 k8 hW48 hH48 (Or.inr (Or.inl c)))
end ZSU
