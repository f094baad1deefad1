/-! PURE: call 19: file -/
section ZSI
variable {W H : Nat} {mm : zMem}
theorem m_f16y {m : zMem} (hR : RF m.2.2) (h0 : m.1 1185 0 = nI W) (h1 : m.1 1185 1 = nI H) (hW48 : W ≤ 48) (hH48 : H ≤ 48) (hd : ∀ j, j < nT W H → ¬ m.1 1282 j = 0) : ∀ (d k fuel : Nat), k + d = nT W H → d < fuel → L_MD_file_16 (sh0 W H) fuel 1185 (nI k) m = some (1, 0, 1185, nI (nT W H), m) := by
  have h36 := nT_le hW48 hH48
  intro d
  induction d with
  | zero =>
    intro k fuel hk hf
    obtain ⟨fu, rfl⟩ : ∃ fu, fuel = fu + 1 := ⟨fuel - 1, by omega⟩
    obtain rfl : k = nT W H := by omega
    rw [L_MD_file_16, zoS_h sh_1185, zob_h (e_tiles h0 h1 hW48 hH48)]
    dsimp only
    rw [if_pos (by rw [nI_leD (by omega) (by omega)]; omega)]
  | succ d ih =>
    intro k fuel hk hf
    obtain ⟨fu, rfl⟩ : ∃ fu, fuel = fu + 1 := ⟨fuel - 1, by omega⟩
    rw [L_MD_file_16, zoS_h sh_1185, zob_h (e_tiles h0 h1 hW48 hH48)]
    dsimp only
    rw [if_neg (by rw [nI_leD (by omega) (by omega)]; omega), zoS_h sh_1185, zob_h (rf_1185_16 hR), zoS_h sh_1282, nI_ix (by omega) (by decide), nI_cl (n := k) (by omega), if_neg (hd k (by omega)), nI_p1]
    exact ih (k + 1) fu (by omega) (by omega)
theorem m_f16n {m : zMem} (hR : RF m.2.2) (h0 : m.1 1185 0 = nI W) (h1 : m.1 1185 1 = nI H) (hW48 : W ≤ 48) (hH48 : H ≤ 48) : ∀ (d k fuel : Nat), k + d = nT W H → d < fuel → (∃ j, k ≤ j ∧ j < nT W H ∧ m.1 1282 j = 0) → L_MD_file_16 (sh0 W H) fuel 1185 (nI k) m = some (0, -1, 0, 0, m) := by
  have h36 := nT_le hW48 hH48
  intro d
  induction d with
  | zero =>
    intro k fuel hk hf he
    obtain ⟨j, j1, j2, _⟩ := he
    omega
  | succ d ih =>
    intro k fuel hk hf he
    obtain ⟨fu, rfl⟩ : ∃ fu, fuel = fu + 1 := ⟨fuel - 1, by omega⟩
    rw [L_MD_file_16, zoS_h sh_1185, zob_h (e_tiles h0 h1 hW48 hH48)]
    dsimp only
    rw [if_neg (by rw [nI_leD (by omega) (by omega)]; omega), zoS_h sh_1185, zob_h (rf_1185_16 hR), zoS_h sh_1282, nI_ix (by omega) (by decide), nI_cl (n := k) (by omega)]
    by_cases c : m.1 1282 k = 0
    · rw [if_pos c]
    · rw [if_neg c, nI_p1]
      refine ih (k + 1) fu (by omega) (by omega) ?_
      obtain ⟨j, j1, j2, j3⟩ := he
      refine ⟨j, ?_, j2, j3⟩
      by_cases e : j = k
      · rw [e] at j3
        exact absurd j3 c
      · omega
theorem vS_T2 {m z : zMem} (h : vS m) (r5 : z.2.2 0 5 = m.2.2 0 5) (F : ∀ a, (11 ≤ a ∧ a < 1121 ∨ 1187 ≤ a ∧ a < 1217) → z.1 a = m.1 a) (F10 : z.1 1185 10 = m.1 1185 10) : vS z := by
  obtain ⟨s, hs, h5, hsc, htm, hpl⟩ := h
  have hp := gS_pl hs
  have s11 : 11 ≤ s := by rcases hs with e | e | e <;> omega
  have hsd : ∀ b, s ≤ b → b < s + 370 → z.1 b = m.1 b := fun b b1 b2 => F b (by omega)
  have hrw : ∀ q, q < 30 → z.1 (1187 + q) = m.1 (1187 + q) := fun q hq => F _ (by omega)
  refine ⟨s, hs, by rw [r5]; exact h5, Rsc_c (fun b b1 b2 => hsd b (by omega) b2) (fun c _ => congrFun (hrw 0 (by decide)) c) (fun j _ j2 q _ => congrFun (hrw j j2) q) hsc, by rw [hsd s (by omega) (by omega), F10]; exact htm, fun hq => ?_⟩
  rw [hsd s (by omega) (by omega)] at hq
  have hcn : cn (fun a => z.1 (1187 + a)) 3 = cn (fun a => m.1 (1187 + a)) 3 := by
    unfold cn
    dsimp only
    rw [hrw 0 (by decide)]
  rw [hcn]
  have h48 := (hsc.1.1 3 (by decide)).2.2
  rw [lim_v.2.2.2.1] at h48
  exact Plc_c h48 (fun b b1 b2 => hsd b (by omega) b2) hrw (hpl hq)
set_option maxHeartbeats 2000000 in
theorem s_file {x1 x2 x3 x4 x5 : Int32} (h : PB W H mm) (hx : PX W H mm) (hW8 : 8 ≤ W) (hH8 : 8 ≤ H) (hW48 : W ≤ 48) (hH48 : H ≤ 48) : zok (lawS19 (sh0 W H) mm x1 x2 x3 x4 x5) (fun mq => PB W H mq ∧ PX W H mq) := by
  have hR := h.1
  have h36 := nT_le hW48 hH48
  obtain ⟨⟨k1, k2⟩, k22, ⟨k3, k4, k5, k6⟩, ⟨k7, k8⟩, ⟨k9, k10⟩⟩ := h.2.1
  have k3' : mm.1 1178 0 = nI (nT W H) := k3
  have p11 := PB_11 h
  have q11 : PB W H (mI mm 1185 11 0) ∧ PX W H (mI mm 1185 11 0) := ⟨p11.1, PX_ag hx p11.2 hR⟩
  have R11 : RF (mI mm 1185 11 0).2.2 := hR
  have g0 : (mI mm 1185 11 0).1 1185 0 = nI W := by rw [m11 (by decide)]; exact k7
  have g1 : (mI mm 1185 11 0).1 1185 1 = nI H := by rw [m11 (by decide)]; exact k8
  have no : F_XPicture_isWhole (sh0 W H) mm 1178 = some (0, mm) → F_MD_file (sh0 W H) mm 1185 = some (-1, mI mm 1185 11 0) → zok (lawS19 (sh0 W H) mm x1 x2 x3 x4 x5) (fun mq => PB W H mq ∧ PX W H mq) := fun e1 e2 => by
    refine law2 (v := -1) (m1 := mm) (B := fun q => F_MD_file (sh0 W H) q 1185) ?_ e2 q11
    unfold F_OB_file
    rw [zoS_h sh_0, zob_h (rf_0_8 hR), zoS_h sh_1178, zob_h e1]
    exact if_pos rfl
  rcases hx.2.2 with ⟨b1, b2⟩ | ⟨b1, b2, s, S, S', gr, N, p1, p2, p3, p4, p5, p6, p7, p8, p9⟩
  · refine no ?_ ?_
    · unfold F_XPicture_isWhole
      rw [zoS_h sh_1178, if_pos b1]
    · unfold F_MD_file
      rw [zoS_h sh_1185, zoL_e, zoS_h sh_1185, m11 (show 15 ≠ 11 by decide), if_pos b2]
  obtain ⟨q1, q2, q3⟩ := p6
  have ball := bt_all (N := N) (T := nT W H) q2 h36
  by_cases c : ∀ k, k < nT W H → N.testBit k = true
  · have wh : F_XPicture_isWhole (sh0 W H) mm 1178 = some (1, mm) := by
      unfold F_XPicture_isWhole
      rw [zoS_h sh_1178, b1, if_neg (by decide), zoS_h sh_1178, zoS_h sh_1178, q1, k3', if_pos (ball.mpr c)]
    have hWH : W * H ≤ 48 * 48 := Nat.mul_le_mul hW48 hH48
    have e3 : 3 * (W * H) = H * (3 * W) := by rw [Nat.mul_comm W H, ← Nat.mul_assoc, Nat.mul_comm 3 H, Nat.mul_assoc]
    -- the colours
    have pix : ∀ k, k < W * H → ∃ cc : Nat → Nat, (∀ j, j < 3 → cc j < 256 ∧ mm.1 1283 (3 * k + j) = nI (cc j)) ∧ mm.1 1183 k = pk (cc 0) (cc 1) (cc 2) := fun k hk => by
      have hxw : k % W < W := Nat.mod_lt _ (by omega)
      have hyh : k / W < H := Nat.div_lt_of_lt_mul hk
      have ek : W * (k / W) + k % W = k := Nat.div_add_mod k W
      have e9 := p9 (k % W) hxw (k / W) hyh
      rw [if_pos (c _ (tlN_lt hxw hyh))] at e9
      obtain ⟨⟨cc, c1, c2⟩, _⟩ := p8 (k % W) hxw (k / W) hyh
      obtain ⟨s1, _⟩ := p7 (k % W) hxw (k / W) hyh
      rw [ek] at c2 s1
      exact ⟨cc, fun j hj => ⟨(c1 j hj).1, by rw [s1 j hj, e9]; exact (c1 j hj).2⟩, c2⟩
    generalize hcd : (fun i => (mm.1 1283 i).toNatClampNeg) = cl
    have hcl : ∀ k, k < W * H → ∀ j, j < 3 → cl (3 * k + j) < 256 ∧ mm.1 1283 (3 * k + j) = nI (cl (3 * k + j)) := fun k hk j hj => by
      obtain ⟨cc, c1, _⟩ := pix k hk
      obtain ⟨a1, a2⟩ := c1 j hj
      have e : cl (3 * k + j) = cc j := by
        rw [← hcd]
        show (mm.1 1283 (3 * k + j)).toNatClampNeg = cc j
        rw [a2, nI_cl (by omega)]
      rw [e]
      exact ⟨a1, a2⟩
    have hb : ∀ k, k < 3 * (W * H) → cl k < 256 ∧ mm.1 1283 k = nI (cl k) := fun k hk => by
      have := hcl (k / 3) (by omega) (k % 3) (by omega)
      rw [show 3 * (k / 3) + k % 3 = k by omega] at this
      exact this
    have hc : ∀ k, k < W * H → mm.1 1183 k = pk (cl (3 * k)) (cl (3 * k + 1)) (cl (3 * k + 2)) := fun k hk => by
      obtain ⟨cc, c1, c2⟩ := pix k hk
      have e : ∀ j, j < 3 → cl (3 * k + j) = cc j := fun j hj => by
        rw [← hcd]
        show (mm.1 1283 (3 * k + j)).toNatClampNeg = cc j
        rw [(c1 j hj).2, nI_cl (by have := (c1 j hj).1; omega)]
      rw [c2, ← e 0 (by decide), ← e 1 (by decide), ← e 2 (by decide)]
      rfl
    unfold lawS19
    rw [zoS_h sh_0]
    obtain ⟨m1, d1, ⟨d2, d3⟩, d4, d5⟩ := c_write (W := W) (H := H) (m := mm) (c := cl) hR hW8 hH8 hW48 hH48 hc (fun k hk => (hb k hk).1)
    have R1 : RF m1.2.2 := by rw [d2]; exact hR
    have of_ : F_OB_file (sh0 W H) mm 0 = some (m1.1 5 1, m1) := by
      unfold F_OB_file
      rw [zoS_h sh_0, zob_h (rf_0_8 hR), zoS_h sh_1178, zob_h wh]
      dsimp only
      rw [if_neg (by decide), zoS_h sh_0, zob_h (rf_0_9 hR), zoS_h sh_0, zob_h (rf_0_8 hR), zoS_h sh_1178, zob_h (rf_1178_1 hR), zoS_h sh_0, zoS_h sh_0, zoS_h sh_5, k1, k2, zob_h d1, zoS_h sh_0, zob_h (rf_0_9 R1), zoS_h sh_5]
    rw [zob_h of_, zoS_h sh_1185]
    dsimp only
    have i5 : m1.1 1185 = mm.1 1185 := d3 1185 (by omega)
    have y0 : (mI m1 1185 11 0).1 1185 0 = nI W := by rw [m11 (by decide), i5]; exact k7
    have y1 : (mI m1 1185 11 0).1 1185 1 = nI H := by rw [m11 (by decide), i5]; exact k8
    have done : ∀ j, j < nT W H → ¬ (mI m1 1185 11 0).1 1282 j = 0 := fun j hj => by
      rw [m11o (by decide), d3 1282 (by omega)]
      have := q3 j hj
      rw [c j hj] at this
      exact of_decide_eq_true this.symm
    unfold F_MD_file
    rw [zoS_h sh_1185, zoL_e, zoS_h sh_1185, m11 (show 15 ≠ 11 by decide), i5, b2, if_neg (by decide), zob_h (show L_MD_file_16 (sh0 W H) zfuel 1185 0 (mI m1 1185 11 0) = _ from m_f16y (W := W) (H := H) (show RF (mI m1 1185 11 0).2.2 from R1) y0 y1 hW48 hH48 done (nT W H) 0 zfuel (by omega) (zf_lt (by omega)))]
    dsimp only
    rw [if_pos rfl, zoS_h sh_1185, zob_h (rf_1185_9 (show RF (mI m1 1185 11 0).2.2 from R1)), zoS_h sh_1185, zoS_h sh_1185, zoS_h sh_1185, zob_h (rf_1185_17 (show RF (mI m1 1185 11 0).2.2 from R1)), zoS_h sh_1278, y0, y1, zoL_e, zoL_e]
    obtain ⟨z, w1, w2, ⟨w3, w4, w5⟩, w6⟩ := m_write (W := W) (H := H) (m := mI m1 1185 11 0) (c := cl) R1 hW8 hH8 hW48 hH48 (fun k hk => by
      rw [m11o (by decide), d3 1283 (by omega)]
      exact hb k (by rw [e3]; exact hk)) d5
    obtain ⟨zv, m5⟩ := z
    dsimp only at w2 w3 w4 w5 w6
    rw [zob_h w1, zob_e]
    dsimp only
    rw [d4.1, w2, if_pos rfl]
    have F : ∀ a, (a < 5 ∨ 10 < a ∧ a < 1278 ∨ 1280 < a) → a ≠ 1185 → m5.1 a = mm.1 a := fun a ha h5 => by rw [w5 a (by omega), m11o h5, d3 a (by omega)]
    have F5 : ∀ c, c ≠ 11 → m5.1 1185 c = mm.1 1185 c := fun c hc => by rw [w5 1185 (by omega), m11 hc, i5]
    have RR : ∀ k j, ¬ (k = 1278 ∧ j = 6) → m5.2.2 k j = mm.2.2 k j := fun k j hk => by
      rw [w4 k j hk]
      show m1.2.2 k j = _
      rw [d2]
    have R5 : RF m5.2.2 := fun k j hk => (RR k j (fun q => hk (by unfold rMut; omega))).trans (hR k j hk)
    have L5 : m5.2.1 = mm.2.1 := by
      rw [w3]
      show m1.2.1 = _
      rw [d2]
    have hPB : PB W H m5 := by
      obtain ⟨_, hK, hT, hvS, hvQ, ⟨v1, v2, v3, v4⟩, hPp⟩ := h
      refine ⟨R5, ?_, ?_, vS_T2 hvS (RR 0 5 (by omega)) (fun a ha => F a (by omega) (by omega)) (F5 10 (by decide)), ?_, ?_, fun p hp => hPp p (by rw [RR 1178 3 (by omega)] at hp; exact hp)⟩
      · refine ⟨by rw [F 0 (by omega) (by decide)]; exact ⟨k1, k2⟩, by rw [F 1121 (by omega) (by decide)]; exact k22, by rw [F 1178 (by omega) (by decide)]; exact ⟨k3, k4, k5, k6⟩, ⟨by rw [F5 0 (by decide)]; exact k7, by rw [F5 1 (by decide)]; exact k8⟩, by rw [F 1285 (by omega) (by decide)]; exact ⟨k9, k10⟩⟩
      · unfold vT at *
        rw [F 1186 (by omega) (by decide), F 1 (by omega) (by decide), F 0 (by omega) (by decide), F5 3 (by decide)]
        exact hT
      · intro t ht i hi
        have ht' := gS_pl ht
        have s11 : 11 ≤ t := by rcases ht with e | e | e <;> omega
        rw [F _ (by unfold txA; omega) (by unfold txA; omega)]
        exact hvQ t ht i hi
      · unfold vO
        rw [F 3 (by omega) (by decide), F 0 (by omega) (by decide), F 1281 (by omega) (by decide), F5 12 (by decide), F5 13 (by decide), F5 19 (by decide)]
        refine ⟨v1, v2, v3, (b3B W H (RWf cl (3 * W)) (H * (3 * W + 1))).length, d5, ?_, w6.1, fun k hk => ?_⟩
        · rw [w5 5 (by omega), m11o (by decide)]
          exact d4.1
        · rw [w5 6 (by omega), m11o (by decide), d4.2 k hk, w6.2 k hk]
    have hag : agP mm m5 := by
      refine ⟨by rw [RR 1178 3 (by omega), RR 1121 2 (by omega), RR 1121 14 (by omega)], by rw [L5], by rw [L5], fun a ha => F a (by omega) (by omega), F5 15 (by decide), fun p hp a ha => ?_⟩
      have hgp := h.2.2.2.2.2.2 p hp
      have hp2 := gS_pl hgp
      have s11 : 11 ≤ p := by rcases hgp with e | e | e <;> omega
      exact F a (by omega) (by omega)
    exact zok_s ⟨hPB, PX_ag hx hag R5⟩
  · refine no ?_ ?_
    · unfold F_XPicture_isWhole
      rw [zoS_h sh_1178, b1, if_neg (by decide), zoS_h sh_1178, zoS_h sh_1178, q1, k3', if_neg (fun q => c (ball.mp q))]
    · have hne : ∃ j, 0 ≤ j ∧ j < nT W H ∧ (mI mm 1185 11 0).1 1282 j = 0 := by
        have : ∃ k, ¬ (k < nT W H → N.testBit k = true) := Classical.not_forall.mp c
        obtain ⟨k, hk⟩ := this
        have hk1 : k < nT W H := by
          by_cases e : k < nT W H
          · exact e
          · exact absurd (fun q => absurd q e) hk
        refine ⟨k, Nat.zero_le _, hk1, ?_⟩
        rw [m11o (by decide)]
        have hq := q3 k hk1
        have hf : N.testBit k = false := by
          cases e : N.testBit k with
          | false => rfl
          | true => exact absurd (fun _ => e) hk
        rw [hf] at hq
        exact Decidable.not_not.mp (of_decide_eq_false hq.symm)
      unfold F_MD_file
      rw [zoS_h sh_1185, zoL_e, zoS_h sh_1185, m11 (show 15 ≠ 11 by decide), b2, if_neg (by decide), zob_h (show L_MD_file_16 (sh0 W H) zfuel 1185 0 (mI mm 1185 11 0) = _ from m_f16n (W := W) (H := H) R11 g0 g1 hW48 hH48 (nT W H) 0 zfuel (by omega) (zf_lt (by omega)) hne)]
      dsimp only
      rw [if_neg (by decide)]
end ZSI
