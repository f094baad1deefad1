/-! PURE: call 14: tile -/
section ZST
variable {W H : Nat} {mm : zMem}
theorem vS_T {m z : zMem} (h : vS m) (r5 : z.2.2 0 5 = m.2.2 0 5) (F : ∀ a, (a < 1121 ∨ 1187 ≤ a ∧ a < 1217) → z.1 a = m.1 a) (F10 : z.1 1185 10 = m.1 1185 10) : vS z := by
  obtain ⟨s, hs, h5, hsc, htm, hpl⟩ := h
  have hp := gS_pl hs
  have hsd : ∀ b, s ≤ b → b < s + 370 → z.1 b = m.1 b := fun b b1 b2 => F b (by omega)
  have hrw : ∀ q, q < 30 → z.1 (1187 + q) = m.1 (1187 + q) := fun q hq => F _ (by omega)
  refine ⟨s, hs, by rw [r5]; exact h5, Rsc_c (fun b b1 b2 => hsd b (by omega) b2) (fun c _ => congrFun (hrw 0 (by decide)) c) (fun j _ j2 q _ => congrFun (hrw j j2) q) hsc, by rw [hsd s (by omega) (by omega), F10]; exact htm, fun hq => ?_⟩
  rw [hsd s (by omega) (by omega)] at hq
  have hcn : cn (fun a => z.1 (1187 + a)) 3 = cn (fun a => m.1 (1187 + a)) 3 := by
    unfold cn
    dsimp only
    rw [hrw 0 (by decide)]
  rw [hcn]
  have h48 := (hsc.1.1 3 (by decide)).2.2
  rw [lim_v.2.2.2.1] at h48
  exact Plc_c h48 (fun b b1 b2 => hsd b (by omega) b2) hrw (hpl hq)
theorem PB_T {m z : zMem} (h : PB W H m) (hR : RF z.2.2) (r3 : ∀ p, z.2.2 1178 3 = some p → gS p) (hS : vS z) (hQ : vQ z.1) (F : ∀ a, (a < 11 ∨ a = 1186 ∨ 1277 ≤ a ∧ a ≤ 1281) → z.1 a = m.1 a) (F1 : z.1 1121 5 = m.1 1121 5 ∧ z.1 1121 6 = m.1 1121 6) (F8 : ∀ c, c < 7 → z.1 1178 c = m.1 1178 c) (F5 : ∀ c, c ≠ 11 → c ≠ 15 → z.1 1185 c = m.1 1185 c) (FP : z.1 1285 1 = m.1 1285 1 ∧ z.1 1285 2 = m.1 1285 2) : PB W H z := by
  obtain ⟨_, hK, hT, _, _, hO, _⟩ := h
  refine ⟨hR, ?_, ?_, hS, hQ, ?_, r3⟩
  · unfold vK at *
    rw [F 0 (by omega), F1.1, F1.2, F8 0 (by decide), F8 4 (by decide), F8 5 (by decide), F8 6 (by decide), F5 0 (by decide) (by decide), F5 1 (by decide) (by decide), FP.1, FP.2]
    exact hK
  · unfold vT at *
    rw [F 1186 (by omega), F 1 (by omega), F 0 (by omega), F5 3 (by decide) (by decide)]
    exact hT
  · unfold vO at *
    rw [F 3 (by omega), F 0 (by omega), F 1281 (by omega), F 5 (by omega), F 6 (by omega), F 1278 (by omega), F 1280 (by omega), F5 12 (by decide) (by decide), F5 13 (by decide) (by decide), F5 19 (by decide) (by decide)]
    exact hO
theorem vQ_T {f f' : Nat → Nat → Int32} (h : vQ f) (F : ∀ a, a < 1121 → f' a = f a) : vQ f' := by
  intro t ht i hi
  have hp := gS_pl ht
  rw [F _ (by unfold txA; omega)]
  exact h t ht i hi
theorem pcL2_pt {g : Nat → Nat → Int32} {R : Nat → Nat → Bool} {x y : Nat} : ∀ (D : List Pc) (S T : Nat → Nat → pSt), S x y = T x y → pcL2 g R D S x y = pcL2 g R D T x y := by
  intro D
  induction D with
  | nil => intro S T h; exact h
  | cons p t ih =>
    intro S T h
    rw [pcL2, pcL2]
    refine ih _ _ ?_
    unfold pt1
    rw [h]
theorem pcL2_no {g : Nat → Nat → Int32} {R : Nat → Nat → Bool} {x y : Nat} (hR : R x y = false) : ∀ (D : List Pc) (S : Nat → Nat → pSt), pcL2 g R D S x y = S x y := by
  intro D
  induction D with
  | nil => intro S; rfl
  | cons p t ih =>
    intro S
    rw [pcL2, ih]
    unfold pt1
    rw [hR]
    rfl
theorem SB_x {s : Nat} {g : Nat → Nat → Int32} {D : List Pc} {m m' : zMem} (hs : gS s) (h : SB s g D m) (hR : RF m'.2.2) (r3 : m'.2.2 1178 3 = m.2.2 1178 3) (e : ∀ a, (a < 1121 ∨ a = 1179 ∨ a = 1180) → m'.1 a = m.1 a) (e10 : m'.1 1178 10 = m.1 1178 10) : SB s g D m' := by
  obtain ⟨h1, h2, h3, h4, h5, h6, h7, h8, h9, h10, h11⟩ := h
  have hp := gS_pl hs
  have ek : ∀ a, a < 1121 → m'.1 a = m.1 a := fun a ha => e a (by omega)
  refine ⟨hR, by rw [r3]; exact h2, fun n p hp => ?_, by rw [e10]; exact h4, h5, fun i hi => ⟨?_, (h6 i hi).2⟩, fun t ht => RtxN_a (h7 t ht) (ek _ (by unfold txA; omega)) (ek _ (by unfold txA; omega)) (ek _ (by unfold txA; omega)), h8, h9, h10, h11⟩
  · rw [e 1179 (by omega), e 1180 (by omega)]
    exact h3 n p hp
  · unfold RmtG
    rw [ek _ (by omega)]
    exact (h6 i hi).1
theorem nar_1 : vp_nar .boolean 1 = 1 := by decide
/-- the reference's tile, from where it draws -/
theorem m_tile {m : zMem} {k : Nat} {S : Nat → Nat → pSt} (hR : RF m.2.2) (hk : k < nT W H) (hW8 : 8 ≤ W) (hH8 : 8 ≤ H) (hW48 : W ≤ 48) (hH48 : H ≤ 48) (h0 : m.1 1185 0 = nI W) (h1 : m.1 1185 1 = nI H) (h15 : m.1 1185 15 = 1) (hp1 : m.1 1285 1 = nI W) (hp2 : m.1 1285 2 = nI H) (hd : m.1 1282 k = 0) (hW : Wsc (fun a => m.1 (1247 + a))) (hX : Wtx (fun a => m.1 (1247 + a))) (hS : PXM W H S m) : zok (F_MD_tile (sh0 W H) m 1185 (nI k)) (fun z => z.1 = 1 ∧ (RF z.2.2.2 ∧ z.2.2.2 1178 3 = m.2.2 1178 3 ∧ z.2.2.2 0 5 = m.2.2 0 5 ∧ z.2.2.2 1121 2 = m.2.2 1121 2 ∧ z.2.2.2 1121 14 = m.2.2 1121 14) ∧ (∀ a, a < 1282 → a ≠ 1185 → z.2.1 a = m.1 a) ∧ (∀ c, c ≠ 11 → z.2.1 1185 c = m.1 1185 c) ∧ z.2.1 1282 = upd (m.1 1282) k 1 ∧ (z.2.1 1285 1 = nI W ∧ z.2.1 1285 2 = nI H) ∧ (∀ a, a < 1284 → z.2.2.1 a = m.2.1 a) ∧ PXM W H (pcL2 (fun a => m.1 (1247 + a)) (inR (tl W k) (tt W k) (tr W k) (tb W H k)) ((PLr W H m.1 1247).take 36864) S) z.2) := by
  obtain ⟨t1, t2, t3, t4, t5, t6⟩ := tile_in (W := W) (H := H) hW8 hH8 hk
  have h36 := nT_le hW48 hH48
  have n6 : ¬ nI ((W + 7) / 8) = 0 := fun q => by
    have := (nI_eqD (a := (W + 7) / 8) (b := 0) (by omega) (by decide)).mp q
    omega
  have e1 : (8 : Int32) * (nI k - nI k / nI ((W + 7) / 8) * nI ((W + 7) / 8)) = nI (tl W k) := by
    rw [i32_rem (by omega) (by omega) (by omega), show (8 : Int32) = nI 8 from rfl, nI_mul]
    rfl
  have e2 : (8 : Int32) * (nI k / nI ((W + 7) / 8)) = nI (tt W k) := by
    rw [nI_div (by omega) (by omega) (by omega), show (8 : Int32) = nI 8 from rfl, nI_mul]
    rfl
  unfold F_MD_tile
  rw [zoS_h sh_1185, zoL_e]
  generalize hm3 : mI m 1185 11 0 = m3
  have o3 : ∀ a, a ≠ 1185 → m3.1 a = m.1 a := fun a ha => by rw [← hm3, mI_o ha]
  have c3 : ∀ c, c ≠ 11 → m3.1 1185 c = m.1 1185 c := fun c hc => by rw [← hm3, mI_v, if_pos rfl, if_neg hc]
  have r3 : m3.2 = m.2 := by rw [← hm3]; rfl
  have R3 : RF m3.2.2 := by rw [r3]; exact hR
  have g0 : m3.1 1185 0 = nI W := by rw [c3 0 (by decide)]; exact h0
  have g1 : m3.1 1185 1 = nI H := by rw [c3 1 (by decide)]; exact h1
  rw [zoS_h sh_1185, c3 15 (by decide), h15, if_neg (by decide), if_neg (nI_pos (by omega)), zoS_h sh_1185, zob_h (e_tiles (W := W) (H := H) g0 g1 hW48 hH48)]
  dsimp only
  rw [if_neg (by rw [nI_leD (by omega) (by omega)]; omega), zoS_h sh_1185, zob_h (rf_1185_16 R3), zoS_h sh_1282, nI_ix (by omega) (by decide), nI_cl (n := k) (by omega), o3 1282 (by decide), hd, if_pos rfl, zoS_h sh_1185, zob_h (rf_1185_16 R3), zoS_h sh_1282, if_neg (fun q => q.elim (nI_pos (by omega)) (by omega)), zoL_e, nar_1]
  generalize hm4 : mI m3 1282 k 1 = m4
  have o4 : ∀ a, a ≠ 1185 → a ≠ 1282 → m4.1 a = m.1 a := fun a ha hb => by rw [← hm4, mI_o hb, o3 a ha]
  have c4 : ∀ c, c ≠ 11 → m4.1 1185 c = m.1 1185 c := fun c hc => by rw [← hm4, mI_o (by decide), c3 c hc]
  have r4 : m4.2 = m.2 := by rw [← hm4]; exact r3
  have R4 : RF m4.2.2 := by rw [r4]; exact hR
  have v4 : m4.1 1282 = upd (m.1 1282) k 1 := by rw [← hm4, mI_a, o3 1282 (by decide)]
  have g0' : m4.1 1185 0 = nI W := by rw [c4 0 (by decide)]; exact h0
  have g1' : m4.1 1185 1 = nI H := by rw [c4 1 (by decide)]; exact h1
  have ac := e_across (W := W) (H := H) (mm := m4) g0' hW48
  rw [zoS_h sh_1185, zob_h ac]
  dsimp only
  rw [if_neg n6, e1, zoL_e, zoS_h sh_1185, zob_h ac]
  dsimp only
  rw [if_neg n6, e2, zoL_e, zoS_h sh_1185, zob_h (rf_1185_8 R4), zoS_h sh_1185, zob_h (rf_1185_6 R4), zoS_h sh_1185, g0', g1', show (8 : Int32) = nI 8 from rfl, nI_pp, nI_pp]
  have hrow : ∀ q, q < 30 → m4.1 (1247 + q) = m.1 (1247 + q) := fun q hq => o4 _ (by omega) (by omega)
  have paint := e_paint (W := W) (H := H) (r := 1247) (le := tl W k) (to := tt W k) (ri := tr W k) (bo := tb W H k) (g := fun a => m.1 (1247 + a)) (S := S) (m := m4) (Or.inr (Or.inr rfl)) R4 hrow (by rw [o4 1285 (by decide) (by decide)]; exact hp1) (by rw [o4 1285 (by decide) (by decide)]; exact hp2) hW hX hW8 hH8 hW48 hH48 t5 (by omega) (by omega) t6 (fun x hx y hy => by
    rw [o4 1283 (by decide) (by decide), r4]
    exact hS x hx y hy)
  rw [PLr_g (W := W) (H := H) hrow] at paint
  have fin : zok (Option.bind (F_MPainter_paint (sh0 W H) m4 1285 1247 (nI (tl W k)) (nI (tt W k)) (nI (tr W k)) (nI (tb W H k))) (fun p54 => some ((1 : Int32), p54))) (fun z => z.1 = 1 ∧ (RF z.2.2.2 ∧ z.2.2.2 1178 3 = m.2.2 1178 3 ∧ z.2.2.2 0 5 = m.2.2 0 5 ∧ z.2.2.2 1121 2 = m.2.2 1121 2 ∧ z.2.2.2 1121 14 = m.2.2 1121 14) ∧ (∀ a, a < 1282 → a ≠ 1185 → z.2.1 a = m.1 a) ∧ (∀ c, c ≠ 11 → z.2.1 1185 c = m.1 1185 c) ∧ z.2.1 1282 = upd (m.1 1282) k 1 ∧ (z.2.1 1285 1 = nI W ∧ z.2.1 1285 2 = nI H) ∧ (∀ a, a < 1284 → z.2.2.1 a = m.2.1 a) ∧ PXM W H (pcL2 (fun a => m.1 (1247 + a)) (inR (tl W k) (tt W k) (tr W k) (tb W H k)) ((PLr W H m.1 1247).take 36864) S) z.2) := by
    refine zok_b paint (fun m5 hm5 => zok_s ?_)
    obtain ⟨⟨p1, p2, p3, p4, p5⟩, q, w, l, px⟩ := hm5
    dsimp only
    exact ⟨rfl, ⟨p1, by rw [p2, r4], by rw [p3, r4], by rw [p4, r4], by rw [p5, r4]⟩, fun a h1 h2 => by rw [q a (by omega) (by omega) (by omega) (by omega), o4 a h2 (by omega)], fun c hc => by rw [q 1185 (by decide) (by decide) (by decide) (by decide), c4 c hc], by rw [q 1282 (by decide) (by decide) (by decide) (by decide), v4], w, fun a h1 => by rw [l a (by omega) (by omega), r4], px⟩
  have er : tr W k = if W ≤ tl W k + 8 then W else tl W k + 8 := by
    unfold tr
    split <;> omega
  have eb : tb W H k = if H ≤ tt W k + 8 then H else tt W k + 8 := by
    unfold tb
    split <;> omega
  by_cases c1 : W ≤ tl W k + 8
  · rw [show nI (tr W k) = nI W by rw [er, if_pos c1]] at fin
    rw [if_pos (by rw [nI_leD (by omega) (by omega)]; exact c1), zoS_h sh_1185, zoS_h sh_1185]
    by_cases c2 : H ≤ tt W k + 8
    · rw [show nI (tb W H k) = nI H by rw [eb, if_pos c2]] at fin
      rw [if_pos (by rw [nI_leD (by omega) (by omega)]; exact c2), zoS_h sh_1185, zoS_h sh_1285]
      exact fin
    · rw [show nI (tb W H k) = nI (tt W k + 8) by rw [eb, if_neg c2]] at fin
      rw [if_neg (by rw [nI_leD (by omega) (by omega)]; exact c2), zoS_h sh_1285]
      exact fin
  · rw [show nI (tr W k) = nI (tl W k + 8) by rw [er, if_neg c1]] at fin
    rw [if_neg (by rw [nI_leD (by omega) (by omega)]; exact c1), zoS_h sh_1185]
    by_cases c2 : H ≤ tt W k + 8
    · rw [show nI (tb W H k) = nI H by rw [eb, if_pos c2]] at fin
      rw [if_pos (by rw [nI_leD (by omega) (by omega)]; exact c2), zoS_h sh_1185, zoS_h sh_1285]
      exact fin
    · rw [show nI (tb W H k) = nI (tt W k + 8) by rw [eb, if_neg c2]] at fin
      rw [if_neg (by rw [nI_leD (by omega) (by omega)]; exact c2), zoS_h sh_1285]
      exact fin
end ZST
