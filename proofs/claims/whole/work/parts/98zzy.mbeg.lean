/-! PURE: the reference begins a picture -/
section ZMB
variable {W H : Nat}
theorem e_mb23 {m0 : zMem} (hR : RF m0.2.2) : ∀ (d k fuel : Nat) (m : zMem), k + d = 36 → d < fuel → m.2 = m0.2 → (∀ a, a ≠ 1282 → m.1 a = m0.1 a) → (∀ j, j < k → m.1 1282 j = 0) → zok (L_MD_begin_23 (sh0 W H) fuel 1185 (nI k) m) (fun q => q.1 = 1185 ∧ q.2.2.2 = m0.2 ∧ (∀ a, a ≠ 1282 → q.2.2.1 a = m0.1 a) ∧ ∀ j, j < 36 → q.2.2.1 1282 j = 0) := by
  intro d
  induction d with
  | zero =>
    intro k fuel m hk hf h1 h2 h3
    obtain ⟨fu, rfl⟩ : ∃ fu, fuel = fu + 1 := ⟨fuel - 1, by omega⟩
    obtain rfl : k = 36 := by omega
    rw [L_MD_begin_23, if_pos (by decide)]
    exact zok_s ⟨rfl, h1, h2, h3⟩
  | succ d ih =>
    intro k fuel m hk hf h1 h2 h3
    obtain ⟨fu, rfl⟩ : ∃ fu, fuel = fu + 1 := ⟨fuel - 1, by omega⟩
    have Rm : RF m.2.2 := by rw [h1]; exact hR
    rw [L_MD_begin_23, if_neg (by rw [show (36 : Int32) = nI 36 from rfl, nI_leD (by decide) (by omega)]; omega), zoS_h sh_1185, zob_h (rf_1185_16 Rm), zoS_h sh_1282, nI_ix (by omega) (by decide), nI_cl (n := k) (by omega), zoL_e, nar_b0, nI_p1]
    refine ih (k + 1) fu _ (by omega) (by omega) h1 (fun a ha => by rw [mI_o ha, h2 a ha]) (fun j hj => ?_)
    rw [mI_v, if_pos rfl]
    by_cases e : j = k
    · rw [if_pos e]
    · rw [if_neg e]
      exact h3 j (by omega)
theorem e_mb66 {m : zMem} {k : Nat} (hR : RF m.2.2) (hk : 3 * k + 3 ≤ 6912) : zok (L_MD_begin_66 (sh0 W H) zfuel 1185 (nI k) 0 m) (fun q => q.1 = 1185 ∧ q.2.1 = nI k ∧ q.2.2.2.2 = m.2 ∧ (∀ a, a ≠ 1283 → q.2.2.2.1 a = m.1 a) ∧ (∀ j, ¬ (3 * k ≤ j ∧ j < 3 * k + 3) → q.2.2.2.1 1283 j = m.1 1283 j) ∧ ∀ c, c < 3 → q.2.2.2.1 1283 (3 * k + c) = m.1 1281 c) := by
  have f1 : zfuel = 999996 + 1 + 1 + 1 + 1 := nrfl rfl
  have k0 : (0 : Int32).toNatClampNeg = 0 := by decide
  have k1 : (1 : Int32).toNatClampNeg = 1 := by decide
  have k2 : (2 : Int32).toNatClampNeg = 2 := by decide
  have a0 : nI (3 * k) + (0 : Int32) = nI (3 * k) := nI_pp (3 * k) 0
  rw [f1, L_MD_begin_66, if_neg (by decide), zoS_h sh_1185, zob_h (rf_1185_17 hR), zoS_h sh_1185, zob_h (rf_1185_14 hR), zoS_h sh_1281, if_neg (by decide), k0, zoL_e, nI_3mul, a0, zoL_e, zoS_h sh_1283, nI_ix (by omega) (by decide), nI_cl (n := 3 * k) (by omega), zoL_e]
  generalize hm1 : mI m 1283 (3 * k) (m.1 1281 0) = m1
  have R1 : RF m1.2.2 := by rw [← hm1]; exact hR
  have o1 : ∀ a, a ≠ 1283 → m1.1 a = m.1 a := fun a ha => by rw [← hm1, mI_o ha]
  have v1 : ∀ j, m1.1 1283 j = if j = 3 * k then m.1 1281 0 else m.1 1283 j := fun j => by rw [← hm1, mI_v, if_pos rfl]
  have r1 : m1.2 = m.2 := by rw [← hm1]; rfl
  rw [show (0 : Int32) + 1 = 1 by decide, L_MD_begin_66, if_neg (by decide), zoS_h sh_1185, zob_h (rf_1185_17 R1), zoS_h sh_1185, zob_h (rf_1185_14 R1), zoS_h sh_1281, if_neg (by decide), k1, o1 1281 (by decide), zoL_e, nI_3mul, nI_p1, zoL_e, zoS_h sh_1283, nI_ix (by omega) (by decide), nI_cl (n := 3 * k + 1) (by omega), zoL_e]
  generalize hm2 : mI m1 1283 (3 * k + 1) (m.1 1281 1) = m2
  have R2 : RF m2.2.2 := by rw [← hm2]; exact R1
  have o2 : ∀ a, a ≠ 1283 → m2.1 a = m.1 a := fun a ha => by rw [← hm2, mI_o ha, o1 a ha]
  have v2 : ∀ j, m2.1 1283 j = if j = 3 * k + 1 then m.1 1281 1 else m1.1 1283 j := fun j => by rw [← hm2, mI_v, if_pos rfl]
  have r2 : m2.2 = m.2 := by rw [← hm2]; exact r1
  rw [show (1 : Int32) + 1 = 2 by decide, L_MD_begin_66, if_neg (by decide), zoS_h sh_1185, zob_h (rf_1185_17 R2), zoS_h sh_1185, zob_h (rf_1185_14 R2), zoS_h sh_1281, if_neg (by decide), k2, o2 1281 (by decide), zoL_e, nI_3mul, nI_p2, zoL_e, zoS_h sh_1283, nI_ix (by omega) (by decide), nI_cl (n := 3 * k + 2) (by omega), zoL_e]
  generalize hm3 : mI m2 1283 (3 * k + 2) (m.1 1281 2) = m3
  have o3 : ∀ a, a ≠ 1283 → m3.1 a = m.1 a := fun a ha => by rw [← hm3, mI_o ha, o2 a ha]
  have v3 : ∀ j, m3.1 1283 j = if j = 3 * k + 2 then m.1 1281 2 else m2.1 1283 j := fun j => by rw [← hm3, mI_v, if_pos rfl]
  have r3 : m3.2 = m.2 := by rw [← hm3]; exact r2
  rw [show (2 : Int32) + 1 = 3 by decide, L_MD_begin_66, if_pos (by decide)]
  refine zok_s ⟨rfl, rfl, r3, o3, fun j hj => ?_, fun c hc => ?_⟩
  · show m3.1 1283 j = m.1 1283 j
    rw [v3, if_neg (by omega), v2, if_neg (by omega), v1, if_neg (by omega)]
  · show m3.1 1283 (3 * k + c) = m.1 1281 c
    rcases (show c = 0 ∨ c = 1 ∨ c = 2 by omega) with rfl | rfl | rfl
    · rw [v3, if_neg (by omega), v2, if_neg (by omega), v1, if_pos (by omega)]
    · rw [v3, if_neg (by omega), v2, if_pos (by omega)]
    · rw [v3, if_pos (by omega)]
def B44 (m0 : zMem) (k : Nat) (m : zMem) : Prop := m.2.2 = m0.2.2 ∧ (∀ a, a ≠ 1283 → m.1 a = m0.1 a) ∧ (∀ a, a ≠ 1284 → m.2.1 a = m0.2.1 a) ∧ ∀ j, j < k → m.2.1 1284 j = 0 ∧ ∀ c, c < 3 → m.1 1283 (3 * j + c) = m0.1 1281 c
theorem e_mb44 {m0 : zMem} (hR : RF m0.2.2) (h0 : m0.1 1185 0 = nI W) (h1 : m0.1 1185 1 = nI H) (hW48 : W ≤ 48) (hH48 : H ≤ 48) : ∀ (d k fuel : Nat) (m : zMem), k + d = W * H → d < fuel → B44 m0 k m → zok (L_MD_begin_44 (sh0 W H) fuel 1185 (nI k) m) (fun q => q.1 = 1185 ∧ B44 m0 (W * H) q.2.2) := by
  have hWH : W * H ≤ 48 * 48 := Nat.mul_le_mul hW48 hH48
  intro d
  induction d with
  | zero =>
    intro k fuel m hk hf hB
    obtain ⟨fu, rfl⟩ : ∃ fu, fuel = fu + 1 := ⟨fuel - 1, by omega⟩
    obtain rfl : k = W * H := by omega
    rw [L_MD_begin_44, zoS_h sh_1185, zoS_h sh_1185, hB.2.1 1185 (by decide), h0, h1, nI_mul, if_pos (by rw [nI_leD (by omega) (by omega)]; omega)]
    exact zok_s ⟨rfl, hB⟩
  | succ d ih =>
    intro k fuel m hk hf hB
    obtain ⟨fu, rfl⟩ : ∃ fu, fuel = fu + 1 := ⟨fuel - 1, by omega⟩
    obtain ⟨b1, b2, b3, b4⟩ := hB
    have Rm : RF m.2.2 := by rw [b1]; exact hR
    rw [L_MD_begin_44, zoS_h sh_1185, zoS_h sh_1185, b2 1185 (by decide), h0, h1, nI_mul, if_neg (by rw [nI_leD (by omega) (by omega)]; omega), zoS_h sh_1185, zob_h (rf_1185_18 Rm), zoS_h sh_1284, nI_ix (by omega) (by decide), nI_cl (n := k) (by omega), zoL_e]
    refine zok_b (e_mb66 (W := W) (H := H) (m := mL m 1284 k 0) (k := k) Rm (by omega)) (fun q hq => ?_)
    obtain ⟨q0, q1, q2, m2⟩ := q
    obtain ⟨w0, w1, w2, w3, w4, w5⟩ := hq
    simp only at w0 w1 w2 w3 w4 w5
    subst w0 w1
    dsimp only
    rw [nI_p1]
    refine ih (k + 1) fu m2 (by omega) (by omega) ⟨?_, fun a ha => ?_, fun a ha => ?_, fun j hj => ⟨?_, fun c hc => ?_⟩⟩
    · rw [w2]
      exact b1
    · rw [w3 a ha]
      exact b2 a ha
    · rw [w2, mLn ha]
      exact b3 a ha
    · rw [w2]
      by_cases e : j = k
      · rw [e, mLs]
      · rw [mLo e]
        exact (b4 j (by omega)).1
    · by_cases e : j = k
      · rw [e, w5 c hc]
        exact congrFun (b2 1281 (by decide)) c
      · rw [w4 _ (by omega)]
        exact (b4 j (by omega)).2 c hc
theorem m_beg {m : zMem} {gr : Nat → Nat} (hR : RF m.2.2) (h0 : m.1 1185 0 = nI W) (h1 : m.1 1185 1 = nI H) (hg : ∀ k, k < 3 → m.1 1281 k = nI (gr k)) (hW48 : W ≤ 48) (hH48 : H ≤ 48) : zok (F_MD_begin (sh0 W H) m 1185) (fun z => z.1 = nI (nT W H) ∧ z.2.2.2 = m.2.2 ∧ (∀ a, a ≠ 1185 → ¬ (1247 ≤ a ∧ a < 1277) → a ≠ 1282 → a ≠ 1283 → z.2.1 a = m.1 a) ∧ (∀ c, c ≠ 11 → c ≠ 15 → z.2.1 1185 c = m.1 1185 c) ∧ z.2.1 1185 15 = 1 ∧ ((∀ c, (c < 5 ∨ c = 34 ∨ c = 35) → z.2.1 1247 c = m.1 1187 c) ∧ (∀ j, 1 ≤ j → j < 30 → j ≠ 20 → ∀ q, q < rl j → z.2.1 (1247 + j) q = m.1 (1187 + j) q) ∧ ∀ q, q < 48 → z.2.1 1267 q = vp_nar .boolean (m.1 1207 q)) ∧ (∀ j, j < 36 → z.2.1 1282 j = 0) ∧ (∀ a, a ≠ 1284 → z.2.2.1 a = m.2.1 a) ∧ PXM W H (fun _ _ => ((fun k => nI (gr k)), 0)) z.2) := by
  have hWH : W * H ≤ 48 * 48 := Nat.mul_le_mul hW48 hH48
  unfold F_MD_begin
  rw [zoS_h sh_1185, zoL_e, zoS_h sh_1185, zoL_e]
  generalize hm6 : mI (mI m 1185 11 0) 1185 15 1 = m6
  have o6 : ∀ a, a ≠ 1185 → m6.1 a = m.1 a := fun a ha => by rw [← hm6, mI_o ha, mI_o ha]
  have c6 : ∀ c, m6.1 1185 c = if c = 15 then 1 else if c = 11 then 0 else m.1 1185 c := fun c => by rw [← hm6, mI_v, if_pos rfl, mI_v, if_pos rfl]
  have r6 : m6.2 = m.2 := by rw [← hm6]; rfl
  have R6 : RF m6.2.2 := by rw [r6]; exact hR
  rw [zoS_h sh_1185, zob_h (rf_1185_6 R6), zoS_h sh_1185, zob_h (rf_1185_4 R6), zoS_h (sh_m0 (Or.inr (Or.inr rfl)))]
  refine zok_b (m_shot (W := W) (H := H) R6) (fun m7 hm7 => ?_)
  obtain ⟨b1, b2, b3, b4, b5⟩ := hm7
  have R7 : RF m7.2.2 := by rw [b1]; exact R6
  refine zok_b (show zok (L_MD_begin_23 (sh0 W H) zfuel 1185 0 m7) _ from e_mb23 (W := W) (H := H) (m0 := m7) R7 36 0 zfuel m7 (by omega) (zf_lt (by decide)) rfl (fun _ _ => rfl) (fun j hj => absurd hj (Nat.not_lt_zero _))) (fun q hq => ?_)
  obtain ⟨q0, q1, m8⟩ := q
  obtain ⟨w0, w1, w2, w3⟩ := hq
  simp only at w0 w1 w2 w3
  subst w0
  dsimp only
  have R8 : RF m8.2.2 := by rw [w1]; exact R7
  have i5 : ∀ c, m8.1 1185 c = if c = 15 then 1 else if c = 11 then 0 else m.1 1185 c := fun c => by rw [w2 1185 (by decide), b2 1185 (by omega), c6]
  have g0 : m8.1 1185 0 = nI W := by rw [i5, if_neg (by decide), if_neg (by decide)]; exact h0
  have g1 : m8.1 1185 1 = nI H := by rw [i5, if_neg (by decide), if_neg (by decide)]; exact h1
  refine zok_b (show zok (L_MD_begin_44 (sh0 W H) zfuel 1185 0 m8) _ from e_mb44 (W := W) (H := H) (m0 := m8) R8 g0 g1 hW48 hH48 (W * H) 0 zfuel m8 (by omega) (zf_lt (by omega)) ⟨rfl, fun _ _ => rfl, fun _ _ => rfl, fun j hj => absurd hj (Nat.not_lt_zero _)⟩) (fun q hq => ?_)
  obtain ⟨q0, q1, m9⟩ := q
  obtain ⟨v0, v1, v2, v3, v4⟩ := hq
  simp only at v0 v1 v2 v3 v4
  subst v0
  dsimp only
  rw [zoS_h sh_1185, zob_h (e_tiles (W := W) (H := H) (by rw [v2 1185 (by decide)]; exact g0) (by rw [v2 1185 (by decide)]; exact g1) hW48 hH48)]
  dsimp only
  have fr : ∀ a, a ≠ 1282 → a ≠ 1283 → m9.1 a = m7.1 a := fun a h2 h3 => by rw [v2 a h3, w2 a h2]
  refine zok_s ⟨rfl, by show m9.2.2 = m.2.2; rw [v1, w1, b1, r6], fun a a1 a2 a3 a4 => by show m9.1 a = m.1 a; rw [fr a a3 a4, b2 a a2, o6 a a1], fun c c1 c2 => by show m9.1 1185 c = m.1 1185 c; rw [fr 1185 (by decide) (by decide), b2 1185 (by omega), c6, if_neg c2, if_neg c1], by show m9.1 1185 15 = 1; rw [fr 1185 (by decide) (by decide), b2 1185 (by omega), c6, if_pos rfl], ⟨fun c hc => by show m9.1 1247 c = m.1 1187 c; rw [fr 1247 (by decide) (by decide), b3 c hc, o6 1187 (by decide)], fun j j1 j2 j3 q hq => by show m9.1 (1247 + j) q = m.1 (1187 + j) q; rw [fr _ (by omega) (by omega), b4 j j1 j2 j3 q hq, o6 _ (by omega)], fun q hq => by show m9.1 1267 q = vp_nar .boolean (m.1 1207 q); rw [fr 1267 (by decide) (by decide), b5 (by decide) q hq, o6 1207 (by decide)]⟩, fun j hj => by show m9.1 1282 j = 0; rw [v2 1282 (by decide), w3 j hj], fun a ha => by show m9.2.1 a = m.2.1 a; rw [v3 a ha, w1, b1, r6], fun x hx y hy => ?_⟩
  obtain ⟨z1, z2⟩ := v4 (W * y + x) (at_lt hx hy)
  refine ⟨fun k hk => ?_, z1⟩
  show m9.1 1283 (3 * (W * y + x) + k) = nI (gr k)
  rw [z2 k hk, w2 1281 (by decide), b2 1281 (by omega), o6 1281 (by decide), hg k hk]
end ZMB
