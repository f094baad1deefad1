/-! PURE: call 13: begin -/
section ZSB
variable {W H : Nat} {mm : zMem}
theorem Rsc_e {f : Nat → Nat → Int32} {s : Nat} {g g' : Nat → Nat → Int32} (h : Rsc f s g) (G0 : ∀ c, (c < 5 ∨ c = 34 ∨ c = 35) → g' 0 c = g 0 c) (G : ∀ j, 1 ≤ j → j < 30 → j ≠ 20 → ∀ q, q < rl j → g' j q = g j q) (G20 : ∀ q, q < cn g 3 → g' 20 q = g 20 q) : Rsc f s g' := by
  obtain ⟨r15, r16, r17, r18, r19, r20, _, _, _, _, _, _, r27, r28, r29⟩ := rl_w
  obtain ⟨h1, h2, h3, h4⟩ := h
  have c3 := (h1.1 3 (by decide)).2.2
  rw [lim_v.2.2.2.1] at c3
  refine ⟨RscT_c (fun _ _ => rfl) ⟨fun c hc => G0 c (by omega), fun j hj q hq => G j (by omega) (by omega) (by omega) q hq⟩ h1, ?_, Rcam_d rfl (fun c hc => ⟨G 27 (by omega) (by omega) (by omega) _ (by omega), G 28 (by omega) (by omega) (by omega) _ (by omega)⟩) (G0 34 (by omega)) h3, Rlmp_d rfl (fun c hc => G 29 (by omega) (by omega) (by omega) _ (by omega)) (G0 35 (by omega)) h4⟩
  intro i hi
  rw [show cn g' 3 = cn g 3 by unfold cn; rw [G0 3 (by omega)]] at hi
  exact RndG_c (fun _ _ => rfl) rfl (G 15 (by omega) (by omega) (by omega) _ (by omega)) (G 16 (by omega) (by omega) (by omega) _ (by omega)) (G20 i hi) (fun c hc => ⟨G 17 (by omega) (by omega) (by omega) _ (by omega), G 18 (by omega) (by omega) (by omega) _ (by omega), G 19 (by omega) (by omega) (by omega) _ (by omega)⟩) (by rw [G0 2 (by omega)]; omega) (h2 i hi)
theorem Rsc_W {f : Nat → Nat → Int32} {s : Nat} {g : Nat → Nat → Int32} (h : Rsc f s g) : Wsc g ∧ Wtx g := by
  obtain ⟨h1, h2, h3, h4⟩ := h
  refine ⟨⟨fun c hc => (h1.1 c hc).2, fun i hi => (h1.2.2.1 i hi).2, fun i hi => (h1.2.2.2.1 i hi).2, fun i hi => (h2 i hi).2, h3.2, h4.2⟩, fun t ht => ?_⟩
  obtain ⟨e, L, hT⟩ := TXC_o (h1.2.1 t ht)
  have hw := TXC_W hT
  rw [tE_e hw]
  exact hw
theorem nar_01 {x : Int32} (h : x = 0 ∨ x = 1) : vp_nar .boolean x = x := by
  rcases h with rfl | rfl
  · exact nar_b0
  · exact nar_b1
set_option maxHeartbeats 2000000 in
theorem s_begin {x1 x2 x3 x4 x5 : Int32} (h : PB W H mm) (hx : PX W H mm) (hW8 : 8 ≤ W) (hH8 : 8 ≤ H) (hW48 : W ≤ 48) (hH48 : H ≤ 48) : zok (lawS13 (sh0 W H) mm x1 x2 x3 x4 x5) (fun mq => PB W H mq ∧ PX W H mq) := by
  have hR := h.1
  obtain ⟨⟨k1, k2⟩, k22, ⟨k3, k4, k5, k6⟩, ⟨k7, k8⟩, ⟨k9, k10⟩⟩ := h.2.1
  unfold lawS13
  rw [zoS_h sh_0]
  refine zok_b (e_begC h hx.1 hW8 hH8 hW48 hH48) (fun z hz => ?_)
  obtain ⟨v1, m1⟩ := z
  obtain ⟨e1, qA, s, hs, h05, r3, rf, hvS, hfT, fr, ⟨f5, f6⟩, f8, f7, f12, l13, fl, f10, hPC⟩ := hz
  dsimp only at e1 qA r3 rf hvS hfT fr f5 f6 f8 f7 f12 l13 fl f10 hPC ⊢
  subst e1
  have hp := gS_pl hs
  have s11 : 11 ≤ s := by rcases hs with e | e | e <;> omega
  have R1 : RF m1.2.2 := fun k j hk => (rf k j (fun q => hk (by unfold rMut; omega)) (fun q => hk (by unfold rMut; omega))).trans (hR k j hk)
  have o1 : ∀ a, a < 11 ∨ 1181 ≤ a → m1.1 a = mm.1 a := fun a ha => fr a (by omega) (by omega)
  obtain ⟨_, ⟨gr0, gr1, gr2, gb0, gb1, gb2, hbg, hg0, hg1, hg2⟩, _⟩ := h.2.2.2.2.2.1
  let gr : Nat → Nat := fun k => if k = 0 then gr0 else if k = 1 then gr1 else gr2
  have hgr : ∀ k, k < 3 → gr k < 256 := fun k hk => by
    show (if k = 0 then gr0 else if k = 1 then gr1 else gr2) < 256
    split
    · exact gb0
    · split
      · exact gb1
      · exact gb2
  have hgk : ∀ k, k < 3 → m1.1 1281 k = nI (gr k) := fun k hk => by
    rw [o1 1281 (by omega)]
    rcases (show k = 0 ∨ k = 1 ∨ k = 2 by omega) with rfl | rfl | rfl
    · exact hg0
    · exact hg1
    · exact hg2
  rw [zoS_h sh_1185]
  refine zok_b (m_beg (W := W) (H := H) (m := m1) (gr := gr) R1 (by rw [o1 1185 (by omega)]; exact k7) (by rw [o1 1185 (by omega)]; exact k8) hgk hW48 hH48) (fun z hz => ?_)
  obtain ⟨v2, m5⟩ := z
  obtain ⟨a1, a2, a3, a4, a5, ⟨a6, a7, a8⟩, a9, a10, a11⟩ := hz
  dsimp only at a1 a2 a3 a4 a5 a6 a7 a8 a9 a10 a11 ⊢
  have ev : mm.1 1178 0 = v2 := by rw [a1]; exact k3
  rw [if_pos ev]
  have R5 : RF m5.2.2 := by rw [a2]; exact R1
  have F : ∀ a, a < 11 ∨ 1186 ≤ a ∧ a < 1247 ∨ 1277 ≤ a ∧ a < 1282 ∨ 1284 ≤ a → m5.1 a = mm.1 a := fun a ha => by rw [a3 a (by omega) (by omega) (by omega) (by omega), o1 a (by omega)]
  have F5 : ∀ c, c ≠ 11 → c ≠ 15 → m5.1 1185 c = mm.1 1185 c := fun c c1 c2 => by rw [a4 c c1 c2, o1 1185 (by omega)]
  have i8 : m5.1 1178 = m1.1 1178 := a3 1178 (by decide) (by omega) (by decide) (by decide)
  have lo : ∀ a, a < 1185 → m5.1 a = m1.1 a := fun a ha => a3 a (by omega) (by omega) (by omega) (by omega)
  have hvS5 : vS m5 := vS_T hvS (by rw [a2]) (fun a ha => a3 a (by omega) (by omega) (by omega) (by omega)) (a4 10 (by decide) (by decide))
  have hvQ : vQ m5.1 := fun t ht i hi => by
    have ht' := gS_pl ht
    rw [lo _ (by unfold txA; omega)]
    have : m1.1 (txA t i + 2) = mm.1 (txA t i + 2) := by
      by_cases e : t = s
      · rw [e]
        exact hfT _ (by unfold txA; omega)
      · refine fr _ ?_ (by unfold txA; omega)
        unfold txA
        rcases ht with rfl | rfl | rfl <;> rcases hs with rfl | rfl | rfl <;> omega
    rw [this]
    exact h.2.2.2.2.1 t ht i hi
  have hPB : PB W H m5 := PB_T h R5 (fun p hp => by
    rw [a2, r3] at hp
    rw [← Option.some.inj hp]
    exact hs) hvS5 hvQ (fun a ha => F a (by omega)) ⟨by rw [lo 1121 (by decide)]; exact f5, by rw [lo 1121 (by decide)]; exact f6⟩ (fun c hc => by rw [i8]; exact f8 c (by omega) (by omega) (by omega)) F5 ⟨by rw [F 1285 (by omega)], by rw [F 1285 (by omega)]⟩
  obtain ⟨s', hs', h5', hsc', _, _⟩ := hvS
  have es : s' = s := by
    rw [rf 0 5 (by omega) (by omega), h05] at h5'
    exact (Option.some.inj h5').symm
  subst es
  obtain ⟨s'', hs'', h5'', hsc0, _, _⟩ := h.2.2.2.1
  have hW0 := (Rsc_W hsc0).1
  have row1 : ∀ q, q < 30 → m1.1 (1187 + q) = mm.1 (1187 + q) := fun q hq => o1 _ (by omega)
  have b20 : ∀ q, q < cn (fun a => mm.1 (1187 + a)) 3 → mm.1 (1187 + 20) q = m5.1 (1247 + 20) q := fun q hq => by
    have n3 := (Wsc_n hW0).2.2.2
    have hb : mm.1 (1187 + 20) q = 0 ∨ mm.1 (1187 + 20) q = 1 := (hW0.2.2.2.1 q hq).2.2.2.2.1
    have := a8 q (by omega)
    show mm.1 (1187 + 20) q = m5.1 1267 q
    rw [this, o1 1207 (by omega)]
    exact (nar_01 hb).symm
  have rq : rEq mm.1 1187 m5.1 1247 := ⟨fun c hc => by rw [a6 c hc, o1 1187 (by omega)], fun j j1 j2 j3 q hq => by rw [a7 j j1 j2 j3 q hq, row1 j j2], b20⟩
  have ePL := PLr_in (W := W) (H := H) rq hW0
  have hscz : Rsc m5.1 s' (fun a => m5.1 (1247 + a)) := by
    have h1 : Rsc m5.1 s' (fun a => mm.1 (1187 + a)) := Rsc_c (fun b b1 b2 => lo b (by omega)) (fun c _ => (congrFun (row1 0 (by decide)) c).symm) (fun j _ j2 q _ => (congrFun (row1 j j2) q).symm) hsc'
    exact Rsc_e h1 (fun c hc => (rq.1 c hc).symm) (fun j j1 j2 j3 q hq => (rq.2.1 j j1 j2 j3 q hq).symm) (fun q hq => (rq.2.2 q hq).symm)
  obtain ⟨hWz, hXz⟩ := Rsc_W hscz
  have Nz := Wsc_n hWz
  obtain ⟨S0, hS0⟩ := hx.2.1
  have hCPX : CPX W H S0 m5 := fun x hx y hy => by
    rw [lo 1183 (by decide), lo 1184 (by decide), o1 1183 (by omega), o1 1184 (by omega)]
    exact hS0 x hx y hy
  refine zok_s ⟨hPB, ⟨?_, ⟨S0, hCPX⟩, Or.inr ⟨by rw [i8]; exact f12, a5, s', fun _ _ => ((fun k => nI (gr k)), 0), S0, gr, 0, hs', ?_, hWz, hXz, ⟨?_, hgr⟩, ⟨?_, Nat.two_pow_pos _, fun k hk => ?_⟩, a11, hCPX, fun x hx y hy => ?_⟩⟩⟩
  · obtain ⟨A, B, z1, z2, z3⟩ := qA
    exact ⟨A, B, z1, by rw [a2]; exact z2, by rw [a2]; exact z3⟩
  · refine ⟨R5, by rw [a2]; exact r3, fun n p hp => ?_, ?_, by rw [List.length_take]; omega, hscz.1.2.2.1, hscz.1.2.1, Nz.2.1, Nz.1, (hWz.1 0 (by decide)).1, fun p hp => ?_⟩
    · rw [← ePL] at hp
      obtain ⟨t1, t2, t3⟩ := hPC n p hp
      rw [lo 1179 (by decide), lo 1180 (by decide)]
      obtain ⟨n1, n2⟩ := PLr_1 (List.mem_of_mem_take (List.mem_of_getElem? hp))
      refine ⟨t1, ?_, t3⟩
      rw [t2, mt_in rq hW0 n1 n2]
    · rw [i8, f10, ePL]
    · exact PLr_mt hWz (List.mem_of_mem_take hp)
  · rw [i8, f7, hbg]
    rfl
  · rw [a10 1178 (by decide), l13]
    rfl
  · rw [Nat.zero_testBit, a9 k (by have := nT_le hW48 hH48; omega)]
    exact (decide_eq_false (fun q => q rfl)).symm
  · rw [Nat.zero_testBit, if_neg (by decide)]
end ZSB
