/-! PURE: the reference takes a text -/
section ZNE
variable {W H : Nat} {mm : zMem} {n : Nat}
/-- the scene at 1187 is g4 -/
def scG (f : Nat → Nat → Int32) (g4 : Nat → Nat → Int32) : Prop := (∀ c, (c < 5 ∨ c = 34 ∨ c = 35) → f 1187 c = g4 0 c) ∧ (∀ j, 1 ≤ j → j < 30 → j ≠ 20 → ∀ q, q < rl j → f (1187 + j) q = g4 j q) ∧ ∀ q, q < 48 → f 1207 q = vp_nar .boolean (g4 20 q)
set_option maxHeartbeats 4000000 in
theorem m_loadK (hR : RF mm.2.2) (hn : n ≤ 65536) (h3 : mm.1 1185 3 = nI n) (hb : btB (mm.1 1186) n) {m1 : zMem} (e1 : F_MScene_clear (sh0 W H) (mI mm 1185 3 0) 1217 = some m1) {g' : Nat → Nat → Int32} (he : sRead (mm.1 1186) n (fun a => m1.1 (1217 + a)) = .ok g') {c : Nat} (hc : c ≤ 8) {E : Nat → Nat} {BB : Nat → Nat → Nat} (hE : ∀ t, t < c → E t ≤ 5) (hB : ∀ t, t < c → ∀ k, k < 3 * (sd (E t) 0 * sd (E t) 0) → BB t k < 256) (g00 : g' 0 0 = nI c) (g01 : ∀ t, t < c → g' 1 t = nI (sd (E t) 0)) (g04 : ∀ t, t < c → ∀ k, k < 3 * (sd (E t) 0 * sd (E t) 0) → g' 4 (4095 * t + k) = nI (BB t k)) : zok (F_MD_load (sh0 W H) mm 1185) (fun z => z.1 = g' 0 3 ∧ z.2.2 = mm.2 ∧ (z.2.1 1185 3 = 0 ∧ z.2.1 1185 10 = 0 ∧ z.2.1 1185 11 = 0 ∧ z.2.1 1185 12 = 0 ∧ z.2.1 1185 13 = 0) ∧ (∀ c, c ≠ 3 → c ≠ 10 → c ≠ 11 → c ≠ 12 → c ≠ 13 → z.2.1 1185 c = mm.1 1185 c) ∧ (∃ g4, (∀ a, a < 30 → a ≠ 4 → g4 a = g' a) ∧ (∀ t, t < c → ∀ j, j ≤ E t → ∀ k, k < 3 * (sd (E t) j * sd (E t) j) → g4 4 (4095 * t + 3 * st (E t) j + k) = nI (lvN (BB t) (E t) j k)) ∧ scG z.2.1 g4) ∧ ∀ a, a ≠ 1185 → a ≠ 1277 → ¬ (1187 ≤ a ∧ a < 1247) → z.2.1 a = mm.1 a) := by
  have hM : gM 1217 := Or.inr (Or.inl rfl)
  have hN : gM 1187 := Or.inl rfl
  have hR0 : RF (mI mm 1185 3 0).2.2 := hR
  obtain ⟨m1', e1', c1, c2, c3⟩ := m_clear (W := W) (H := H) hR0
  obtain rfl : m1 = m1' := Option.some.inj (e1.symm.trans e1')
  have t1 : m1.1 1186 = mm.1 1186 := by rw [c2 1186 (by omega), mI_o (by decide)]
  have hR1 : RF m1.2.2 := by rw [c1]; exact hR
  have hrd := m_read (W := W) (H := H) (mm := m1) (n := n) hR1 hn (by rw [t1]; exact hb) (gC_clr c3)
  rw [t1, he] at hrd
  unfold F_MD_load
  rw [zoS_h sh_1185, zoL_e, h3, zoS_h sh_1185, zoL_e, zoS_h sh_1185, zob_h (rf_1185_5 hR0), zoS_h (sh_m0 hM), zob_h e1, zoS_h sh_1185, zob_h (rf_1185_7 hR1), zoS_h sh_1277]
  refine zok_b hrd (fun m2 h2 => ?_)
  obtain ⟨_, q, h2⟩ := h2
  have hR2 := mS_R h2
  have hR3 : RF (mI m2 1185 12 (m2.1 1277 4)).2.2 := hR2
  have k4 := h2.2.1
  have k5 := h2.2.2.1
  rw [zoS_h sh_1185, zob_h (rf_1185_7 hR2), zoS_h sh_1277, zoL_e, zoS_h sh_1185, zoL_e, zoS_h sh_1185, zob_h (rf_1185_7 hR3), zoS_h sh_1277, zoL_e, zoS_h sh_1185, zoL_e, zoS_h sh_1185, mI_o (show (1277 : Nat) ≠ 1185 by decide), k4, k5]
  rw [if_pos (by rw [mI_v, if_pos rfl, if_neg (by decide), mI_v, if_pos rfl, if_pos rfl]), zoS_h sh_1185, zoL_e, zoS_h sh_1185, if_pos (by rw [mI_v, if_pos rfl, if_pos rfl])]
  have o2 : ∀ a, a ≠ 1277 → ¬ (1217 ≤ a ∧ a < 1247) → m2.1 a = (mI mm 1185 3 0).1 a := fun a a1 a2 => by rw [h2.2.2.2.2.2 a a1 a2, c2 a a2]
  have o5 := o2 1185 (by decide) (by decide)
  have o3 : ∀ a, a ≠ 1185 → (mI (mI (mI m2 1185 12 0) 1185 13 0) 1185 11 0).1 a = m2.1 a := fun a ha => by rw [mI_o ha, mI_o ha, mI_o ha]
  have o3c : ∀ c, (mI (mI (mI m2 1185 12 0) 1185 13 0) 1185 11 0).1 1185 c = if c = 11 ∨ c = 12 ∨ c = 13 ∨ c = 3 then 0 else mm.1 1185 c := fun c => by
    by_cases d1 : c = 11
    · simp [mI_v, d1]
    · by_cases d2 : c = 12
      · simp [mI_v, d2]
      · by_cases d3 : c = 13
        · simp [mI_v, d3]
        · by_cases d4 : c = 3 <;> simp [mI_v, o5, d1, d2, d3, d4]
  have o32 : (mI (mI (mI m2 1185 12 0) 1185 13 0) 1185 11 0).2 = mm.2 := by
    show m2.2 = mm.2
    rw [h2.2.2.2.1, c1]
    rfl
  generalize mI (mI (mI m2 1185 12 0) 1185 13 0) 1185 11 0 = m3 at o3 o3c o32
  have hR4 : RF m3.2.2 := by rw [o32]; exact hR
  have d3 : ∀ a, a < 30 → m3.1 (1217 + a) = g' a := fun a ha => by rw [o3 _ (by omega)]; exact h2.2.2.2.2.1 a ha
  have mk := e_mkL (W := W) (H := H) hM hR4 hc hE hB (by rw [show (1217 : Nat) = 1217 + 0 from rfl, d3 0 (by decide)]; exact g00) (fun t ht => by rw [d3 1 (by decide)]; exact g01 t ht) (fun t ht k hk => by rw [d3 4 (by decide)]; exact g04 t ht k hk)
  rw [zoS_h sh_1185, zob_h (rf_1185_5 hR4), zoS_h (sh_m0 hM)]
  refine zok_b mk (fun m4 h4 => ?_)
  obtain ⟨p1, p2, p3⟩ := h4
  have hR5 : RF m4.2.2 := by rw [p1]; exact hR4
  rw [zoS_h sh_1185, zob_h (rf_1185_4 hR5), zoS_h sh_1185, zob_h (rf_1185_5 hR5), zoS_h (sh_m0 hN)]
  refine zok_b (m_become (W := W) (H := H) hR5) (fun m5 h5 => ?_)
  obtain ⟨b1, b2, b3, b4, b5⟩ := h5
  have hR6 : RF (mI m5 1185 10 0).2.2 := by
    show RF m5.2.2
    rw [b1]
    exact hR5
  rw [zoS_h sh_1185, zoL_e, zoS_h sh_1185, zob_h (rf_1185_4 hR6), zoS_h (sh_m0 hN)]
  have o6 : ∀ a, a ≠ 1185 → (mI m5 1185 10 0).1 a = m5.1 a := fun a ha => mI_o ha
  have f5 : m5.1 1185 = m3.1 1185 := by rw [b2 1185 (by omega), p2 1185 (by omega)]
  refine zok_s ⟨?_, ?_, ⟨?_, ?_, ?_, ?_, ?_⟩, fun c d1 d2 d3' d4 d5 => ?_, ⟨fun a => m4.1 (1217 + a), fun a a1 a2 => ?_, p3, fun c hc => ?_, fun j j1 j2 j3 q hq => ?_, fun q hq => ?_⟩, fun a a1 a2 a3 => ?_⟩
  · show (mI m5 1185 10 0).1 1187 3 = _
    rw [o6 _ (by decide), b3 3 (by omega), p2 1217 (by decide), show (1217 : Nat) = 1217 + 0 from rfl, d3 0 (by decide)]
  · show m5.2 = mm.2
    rw [b1, p1, o32]
  · simp [mI_v, f5, o3c]
  · simp [mI_v]
  · simp [mI_v, f5, o3c]
  · simp [mI_v, f5, o3c]
  · simp [mI_v, f5, o3c]
  · simp [mI_v, f5, o3c, d1, d2, d3', d4, d5]
  · show m4.1 (1217 + a) = g' a
    rw [p2 _ (by omega), d3 a a1]
  · rw [o6 _ (by decide)]
    exact b3 c hc
  · rw [o6 _ (by omega)]
    exact b4 j j1 j2 j3 q hq
  · rw [o6 _ (by decide)]
    exact b5 (by decide) q hq
  · rw [o6 a a1, b2 a (by omega), p2 a (by omega), o3 a a1, o2 a a2 (by omega), mI_o a1]
end ZNE
