/-! PURE: the shot becomes the scene -/
/-- rows 1 to K - 1 are copied -/
def bS (m0 : zMem) (K : Nat) (m : zMem) : Prop := m.2 = m0.2 ∧ (∀ a, ¬ (1247 ≤ a ∧ a < 1277) → m.1 a = m0.1 a) ∧ (∀ c, (c < 5 ∨ c = 34 ∨ c = 35) → m.1 1247 c = m0.1 1187 c) ∧ (∀ j, 1 ≤ j → j < K → j ≠ 20 → ∀ q, q < rl j → m.1 (1247 + j) q = m0.1 (1187 + j) q) ∧ (20 < K → ∀ q, q < 48 → m.1 1267 q = vp_nar .boolean (m0.1 1207 q))
section ZNS
variable {W H : Nat} {m0 : zMem}
theorem bSC {m : zMem} {K len : Nat} (h1 : 1 ≤ K) (h2 : K < 30) (h3 : K ≠ 20) (ha : sh0 W H (1187 + K) = some (100, len)) (hb : sh0 W H (1247 + K) = some (100, len)) (hl : len < 100000) (hrl : rl K = len) (h : bS m0 K m) : zok (F_MScene_copy (sh0 W H) m (1187 + K) (1247 + K)) (bS m0 (K + 1)) := by
  obtain ⟨b1, b2, b3, b4, b5⟩ := h
  refine zok_e (e_copy ha hb (by omega) hl m) ⟨b1, fun a q => ?_, fun c hc => ?_, fun j j1 j2 j3 q hq => ?_, fun k q hq => ?_⟩
  · rw [sI_ne (by omega)]
    exact b2 a q
  · rw [sI_ne (by omega)]
    exact b3 c hc
  · by_cases e : j = K
    · subst e
      rw [sI_at, if_pos (by omega), b2 (1187 + j) (by omega)]
    · rw [sI_ne (by omega)]
      exact b4 j j1 (by omega) j3 q hq
  · rw [sI_ne (by omega)]
    exact b5 (by omega) q hq
theorem bSH {m : zMem} (hR : RF m.2.2) (h : bS m0 20 m) : ∃ m', L_MScene_become_267 (sh0 W H) zfuel 1247 1187 (nI 0) m = some (1247, 1187, nI 48, m') ∧ bS m0 21 m' := by
  have e := e_bec267 (W := W) (H := H) (r := 1247) (s := 1187) (Or.inr (Or.inr rfl)) (Or.inl rfl) (by decide) 48 0 zfuel m (by omega) (zf_lt (by decide)) hR
  obtain ⟨b1, b2, b3, b4, b5⟩ := h
  refine ⟨_, e, b1, fun a q => ?_, fun c hc => ?_, fun j j1 j2 j3 q hq => ?_, fun k q hq => ?_⟩
  · rw [sI_ne (by omega)]
    exact b2 a q
  · rw [sI_ne (by decide)]
    exact b3 c hc
  · rw [sI_ne (by omega)]
    exact b4 j j1 (by omega) j3 q hq
  · rw [show (1267 : Nat) = 1247 + 20 from rfl, sI_at, if_pos (by omega), b2 (1187 + 20) (by omega)]
theorem bSHd {mm : zMem} : bS mm 1 (mI (mI (mI (mI (mI (mI (mI mm 1247 0 (mm.1 1187 0)) 1247 1 (mm.1 1187 1)) 1247 2 (mm.1 1187 2)) 1247 3 (mm.1 1187 3)) 1247 4 (mm.1 1187 4)) 1247 34 (mm.1 1187 34)) 1247 35 (mm.1 1187 35)) := by
  refine ⟨rfl, fun a q => ?_, fun c hc => ?_, fun j j1 j2 => by omega, fun k => by omega⟩
  · repeat rw [mI_o (by omega)]
  · rcases (show c = 0 ∨ c = 1 ∨ c = 2 ∨ c = 3 ∨ c = 4 ∨ c = 34 ∨ c = 35 by omega) with rfl | rfl | rfl | rfl | rfl | rfl | rfl <;> simp [mI_v]
set_option maxHeartbeats 8000000 in
set_option maxRecDepth 4000 in
theorem m_shot {mm : zMem} (hR : RF mm.2.2) : zok (F_MScene_become (sh0 W H) mm 1247 1187) (bS mm 30) := by
  have hr : gM 1247 := Or.inr (Or.inr rfl)
  have hs : gM 1187 := Or.inl rfl
  unfold F_MScene_become
  rw [zoS_h (sh_m0 hs), zoL_e, zoS_h (sh_m0 hr), zoL_e]
  rw [zoS_h (sh_m0 hs), zoL_e, zoS_h (sh_m0 hr), zoL_e]
  rw [zoS_h (sh_m0 hs), zoL_e, zoS_h (sh_m0 hr), zoL_e]
  rw [zoS_h (sh_m0 hs), zoL_e, zoS_h (sh_m0 hr), zoL_e]
  rw [zoS_h (sh_m0 hs), zoL_e, zoS_h (sh_m0 hr), zoL_e]
  rw [zoS_h (sh_m0 hs), zoL_e, zoS_h (sh_m0 hr), zoL_e]
  rw [zoS_h (sh_m0 hs), zoL_e, zoS_h (sh_m0 hr), zoL_e]
  simp only [mI_o (show (1187 : Nat) ≠ 1247 by decide)]
  have h0 := bSHd (mm := mm)
  generalize mI (mI (mI (mI (mI (mI (mI mm 1247 0 (mm.1 1187 0)) 1247 1 (mm.1 1187 1)) 1247 2 (mm.1 1187 2)) 1247 3 (mm.1 1187 3)) 1247 4 (mm.1 1187 4)) 1247 34 (mm.1 1187 34)) 1247 35 (mm.1 1187 35) = n0 at h0
  have hR1 : RF n0.2.2 := by rw [h0.1]; exact hR
  rw [zoS_h (sh_m0 hs), zob_h (rf_m5 hR1 hs), zoS_h (sh_m0 hr), zob_h (rf_m5 hR1 hr)]
  refine zok_b (bSC (K := 1) (by decide) (by decide) (by decide) (sh_m1 hs) (sh_m1 hr) (by decide) rfl h0) (fun n1 h1 => ?_)
  have hR2 : RF n1.2.2 := by rw [h1.1]; exact hR
  rw [zoS_h (sh_m0 hs), zob_h (rf_m6 hR2 hs), zoS_h (sh_m0 hr), zob_h (rf_m6 hR2 hr)]
  refine zok_b (bSC (K := 2) (by decide) (by decide) (by decide) (sh_m2 hs) (sh_m2 hr) (by decide) rfl h1) (fun n2 h2 => ?_)
  have hR3 : RF n2.2.2 := by rw [h2.1]; exact hR
  rw [zoS_h (sh_m0 hs), zob_h (rf_m7 hR3 hs), zoS_h (sh_m0 hr), zob_h (rf_m7 hR3 hr)]
  refine zok_b (bSC (K := 3) (by decide) (by decide) (by decide) (sh_m3 hs) (sh_m3 hr) (by decide) rfl h2) (fun n3 h3 => ?_)
  have hR4 : RF n3.2.2 := by rw [h3.1]; exact hR
  rw [zoS_h (sh_m0 hs), zob_h (rf_m8 hR4 hs), zoS_h (sh_m0 hr), zob_h (rf_m8 hR4 hr)]
  refine zok_b (bSC (K := 4) (by decide) (by decide) (by decide) (sh_m4 hs) (sh_m4 hr) (by decide) rfl h3) (fun n4 h4 => ?_)
  have hR5 : RF n4.2.2 := by rw [h4.1]; exact hR
  rw [zoS_h (sh_m0 hs), zob_h (rf_m9 hR5 hs), zoS_h (sh_m0 hr), zob_h (rf_m9 hR5 hr)]
  refine zok_b (bSC (K := 5) (by decide) (by decide) (by decide) (sh_m5 hs) (sh_m5 hr) (by decide) rfl h4) (fun n5 h5 => ?_)
  have hR6 : RF n5.2.2 := by rw [h5.1]; exact hR
  rw [zoS_h (sh_m0 hs), zob_h (rf_m10 hR6 hs), zoS_h (sh_m0 hr), zob_h (rf_m10 hR6 hr)]
  refine zok_b (bSC (K := 6) (by decide) (by decide) (by decide) (sh_m6 hs) (sh_m6 hr) (by decide) rfl h5) (fun n6 h6 => ?_)
  have hR7 : RF n6.2.2 := by rw [h6.1]; exact hR
  rw [zoS_h (sh_m0 hs), zob_h (rf_m11 hR7 hs), zoS_h (sh_m0 hr), zob_h (rf_m11 hR7 hr)]
  refine zok_b (bSC (K := 7) (by decide) (by decide) (by decide) (sh_m7 hs) (sh_m7 hr) (by decide) rfl h6) (fun n7 h7 => ?_)
  have hR8 : RF n7.2.2 := by rw [h7.1]; exact hR
  rw [zoS_h (sh_m0 hs), zob_h (rf_m12 hR8 hs), zoS_h (sh_m0 hr), zob_h (rf_m12 hR8 hr)]
  refine zok_b (bSC (K := 8) (by decide) (by decide) (by decide) (sh_m8 hs) (sh_m8 hr) (by decide) rfl h7) (fun n8 h8 => ?_)
  have hR9 : RF n8.2.2 := by rw [h8.1]; exact hR
  rw [zoS_h (sh_m0 hs), zob_h (rf_m13 hR9 hs), zoS_h (sh_m0 hr), zob_h (rf_m13 hR9 hr)]
  refine zok_b (bSC (K := 9) (by decide) (by decide) (by decide) (sh_m9 hs) (sh_m9 hr) (by decide) rfl h8) (fun n9 h9 => ?_)
  have hR10 : RF n9.2.2 := by rw [h9.1]; exact hR
  rw [zoS_h (sh_m0 hs), zob_h (rf_m14 hR10 hs), zoS_h (sh_m0 hr), zob_h (rf_m14 hR10 hr)]
  refine zok_b (bSC (K := 10) (by decide) (by decide) (by decide) (sh_m10 hs) (sh_m10 hr) (by decide) rfl h9) (fun n10 h10 => ?_)
  have hR11 : RF n10.2.2 := by rw [h10.1]; exact hR
  rw [zoS_h (sh_m0 hs), zob_h (rf_m15 hR11 hs), zoS_h (sh_m0 hr), zob_h (rf_m15 hR11 hr)]
  refine zok_b (bSC (K := 11) (by decide) (by decide) (by decide) (sh_m11 hs) (sh_m11 hr) (by decide) rfl h10) (fun n11 h11 => ?_)
  have hR12 : RF n11.2.2 := by rw [h11.1]; exact hR
  rw [zoS_h (sh_m0 hs), zob_h (rf_m16 hR12 hs), zoS_h (sh_m0 hr), zob_h (rf_m16 hR12 hr)]
  refine zok_b (bSC (K := 12) (by decide) (by decide) (by decide) (sh_m12 hs) (sh_m12 hr) (by decide) rfl h11) (fun n12 h12 => ?_)
  have hR13 : RF n12.2.2 := by rw [h12.1]; exact hR
  rw [zoS_h (sh_m0 hs), zob_h (rf_m17 hR13 hs), zoS_h (sh_m0 hr), zob_h (rf_m17 hR13 hr)]
  refine zok_b (bSC (K := 13) (by decide) (by decide) (by decide) (sh_m13 hs) (sh_m13 hr) (by decide) rfl h12) (fun n13 h13 => ?_)
  have hR14 : RF n13.2.2 := by rw [h13.1]; exact hR
  rw [zoS_h (sh_m0 hs), zob_h (rf_m18 hR14 hs), zoS_h (sh_m0 hr), zob_h (rf_m18 hR14 hr)]
  refine zok_b (bSC (K := 14) (by decide) (by decide) (by decide) (sh_m14 hs) (sh_m14 hr) (by decide) rfl h13) (fun n14 h14 => ?_)
  have hR15 : RF n14.2.2 := by rw [h14.1]; exact hR
  rw [zoS_h (sh_m0 hs), zob_h (rf_m19 hR15 hs), zoS_h (sh_m0 hr), zob_h (rf_m19 hR15 hr)]
  refine zok_b (bSC (K := 15) (by decide) (by decide) (by decide) (sh_m15 hs) (sh_m15 hr) (by decide) rfl h14) (fun n15 h15 => ?_)
  have hR16 : RF n15.2.2 := by rw [h15.1]; exact hR
  rw [zoS_h (sh_m0 hs), zob_h (rf_m20 hR16 hs), zoS_h (sh_m0 hr), zob_h (rf_m20 hR16 hr)]
  refine zok_b (bSC (K := 16) (by decide) (by decide) (by decide) (sh_m16 hs) (sh_m16 hr) (by decide) rfl h15) (fun n16 h16 => ?_)
  have hR17 : RF n16.2.2 := by rw [h16.1]; exact hR
  rw [zoS_h (sh_m0 hs), zob_h (rf_m21 hR17 hs), zoS_h (sh_m0 hr), zob_h (rf_m21 hR17 hr)]
  refine zok_b (bSC (K := 17) (by decide) (by decide) (by decide) (sh_m17 hs) (sh_m17 hr) (by decide) rfl h16) (fun n17 h17 => ?_)
  have hR18 : RF n17.2.2 := by rw [h17.1]; exact hR
  rw [zoS_h (sh_m0 hs), zob_h (rf_m22 hR18 hs), zoS_h (sh_m0 hr), zob_h (rf_m22 hR18 hr)]
  refine zok_b (bSC (K := 18) (by decide) (by decide) (by decide) (sh_m18 hs) (sh_m18 hr) (by decide) rfl h17) (fun n18 h18 => ?_)
  have hR19 : RF n18.2.2 := by rw [h18.1]; exact hR
  rw [zoS_h (sh_m0 hs), zob_h (rf_m23 hR19 hs), zoS_h (sh_m0 hr), zob_h (rf_m23 hR19 hr)]
  refine zok_b (bSC (K := 19) (by decide) (by decide) (by decide) (sh_m19 hs) (sh_m19 hr) (by decide) rfl h18) (fun n19 h19 => ?_)
  have hR20 : RF n19.2.2 := by rw [h19.1]; exact hR
  obtain ⟨n20, e20, h20⟩ := bSH (W := W) (H := H) hR20 h19
  rw [nI_k0, zob_h e20]
  have hR21 : RF n20.2.2 := by rw [h20.1]; exact hR
  rw [zoS_h (sh_m0 hs), zob_h (rf_m25 hR21 hs), zoS_h (sh_m0 hr), zob_h (rf_m25 hR21 hr)]
  refine zok_b (bSC (K := 21) (by decide) (by decide) (by decide) (sh_m21 hs) (sh_m21 hr) (by decide) rfl h20) (fun n21 h21 => ?_)
  have hR22 : RF n21.2.2 := by rw [h21.1]; exact hR
  rw [zoS_h (sh_m0 hs), zob_h (rf_m26 hR22 hs), zoS_h (sh_m0 hr), zob_h (rf_m26 hR22 hr)]
  refine zok_b (bSC (K := 22) (by decide) (by decide) (by decide) (sh_m22 hs) (sh_m22 hr) (by decide) rfl h21) (fun n22 h22 => ?_)
  have hR23 : RF n22.2.2 := by rw [h22.1]; exact hR
  rw [zoS_h (sh_m0 hs), zob_h (rf_m27 hR23 hs), zoS_h (sh_m0 hr), zob_h (rf_m27 hR23 hr)]
  refine zok_b (bSC (K := 23) (by decide) (by decide) (by decide) (sh_m23 hs) (sh_m23 hr) (by decide) rfl h22) (fun n23 h23 => ?_)
  have hR24 : RF n23.2.2 := by rw [h23.1]; exact hR
  rw [zoS_h (sh_m0 hs), zob_h (rf_m28 hR24 hs), zoS_h (sh_m0 hr), zob_h (rf_m28 hR24 hr)]
  refine zok_b (bSC (K := 24) (by decide) (by decide) (by decide) (sh_m24 hs) (sh_m24 hr) (by decide) rfl h23) (fun n24 h24 => ?_)
  have hR25 : RF n24.2.2 := by rw [h24.1]; exact hR
  rw [zoS_h (sh_m0 hs), zob_h (rf_m29 hR25 hs), zoS_h (sh_m0 hr), zob_h (rf_m29 hR25 hr)]
  refine zok_b (bSC (K := 25) (by decide) (by decide) (by decide) (sh_m25 hs) (sh_m25 hr) (by decide) rfl h24) (fun n25 h25 => ?_)
  have hR26 : RF n25.2.2 := by rw [h25.1]; exact hR
  rw [zoS_h (sh_m0 hs), zob_h (rf_m30 hR26 hs), zoS_h (sh_m0 hr), zob_h (rf_m30 hR26 hr)]
  refine zok_b (bSC (K := 26) (by decide) (by decide) (by decide) (sh_m26 hs) (sh_m26 hr) (by decide) rfl h25) (fun n26 h26 => ?_)
  have hR27 : RF n26.2.2 := by rw [h26.1]; exact hR
  rw [zoS_h (sh_m0 hs), zob_h (rf_m31 hR27 hs), zoS_h (sh_m0 hr), zob_h (rf_m31 hR27 hr)]
  refine zok_b (bSC (K := 27) (by decide) (by decide) (by decide) (sh_m27 hs) (sh_m27 hr) (by decide) rfl h26) (fun n27 h27 => ?_)
  have hR28 : RF n27.2.2 := by rw [h27.1]; exact hR
  rw [zoS_h (sh_m0 hs), zob_h (rf_m32 hR28 hs), zoS_h (sh_m0 hr), zob_h (rf_m32 hR28 hr)]
  refine zok_b (bSC (K := 28) (by decide) (by decide) (by decide) (sh_m28 hs) (sh_m28 hr) (by decide) rfl h27) (fun n28 h28 => ?_)
  have hR29 : RF n28.2.2 := by rw [h28.1]; exact hR
  rw [zoS_h (sh_m0 hs), zob_h (rf_m33 hR29 hs), zoS_h (sh_m0 hr), zob_h (rf_m33 hR29 hr)]
  refine zok_b (bSC (K := 29) (by decide) (by decide) (by decide) (sh_m29 hs) (sh_m29 hr) (by decide) rfl h28) (fun n29 h29 => ?_)
  exact zok_s h29
end ZNS
