/-! PURE: the reference refuses a text -/
section ZND
variable {W H : Nat} {mm : zMem} {n : Nat}
theorem gC_clr {g : Nat → Nat → Int32} (h : gClr g) : gC g := fun j hj => ⟨0, Nat.zero_le _, by rw [h.1 j hj]; rfl⟩
set_option maxHeartbeats 4000000 in
theorem m_loadE (hR : RF mm.2.2) (hn : n ≤ 65536) (h3 : mm.1 1185 3 = nI n) (hb : btB (mm.1 1186) n) {m1 : zMem} (e1 : F_MScene_clear (sh0 W H) (mI mm 1185 3 0) 1217 = some m1) {e : Nat × Nat} (he : sRead (mm.1 1186) n (fun a => m1.1 (1217 + a)) = .error e) : zok (F_MD_load (sh0 W H) mm 1185) (fun z => z.1 = 0 ∧ z.2.2 = mm.2 ∧ z.2.1 1185 3 = 0 ∧ z.2.1 1185 11 = 1 ∧ z.2.1 1185 12 = nI e.1 ∧ z.2.1 1185 13 = nI e.2 ∧ (∀ c, c ≠ 3 → c ≠ 11 → c ≠ 12 → c ≠ 13 → z.2.1 1185 c = mm.1 1185 c) ∧ ∀ a, a ≠ 1185 → a ≠ 1277 → ¬ (1217 ≤ a ∧ a < 1247) → z.2.1 a = mm.1 a) := by
  have hM : gM 1217 := Or.inr (Or.inl rfl)
  have hR0 : RF (mI mm 1185 3 0).2.2 := hR
  obtain ⟨m1', e1', c1, c2, c3⟩ := m_clear (W := W) (H := H) hR0
  obtain rfl : m1 = m1' := Option.some.inj (e1.symm.trans e1')
  have t1 : m1.1 1186 = mm.1 1186 := by rw [c2 1186 (by omega), mI_o (by decide)]
  have hR1 : RF m1.2.2 := by rw [c1]; exact hR
  have hrd := m_read (W := W) (H := H) (mm := m1) (n := n) hR1 hn (by rw [t1]; exact hb) (gC_clr c3)
  rw [t1, he] at hrd
  unfold F_MD_load
  rw [zoS_h sh_1185, zoL_e, h3, zoS_h sh_1185, zoL_e, zoS_h sh_1185, zob_h (rf_1185_5 hR0), zoS_h (sh_m0 hM), zob_h e1, zoS_h sh_1185, zob_h (rf_1185_7 hR1), zoS_h sh_1277]
  refine zok_b hrd (fun m2 h2 => ?_)
  have hR2 := mE_R h2
  have hR3 : RF (mI m2 1185 12 (m2.1 1277 4)).2.2 := hR2
  have k4 := h2.2.1
  have k5 := h2.2.2.1
  have kk : ¬ nI e.1 = 0 := nI_ne0 (by have := h2.1.1; omega) (by have := h2.1.2; omega)
  rw [zoS_h sh_1185, zob_h (rf_1185_7 hR2), zoS_h sh_1277, zoL_e, zoS_h sh_1185, zoL_e, zoS_h sh_1185, zob_h (rf_1185_7 hR3), zoS_h sh_1277, zoL_e, zoS_h sh_1185, zoL_e, zoS_h sh_1185, mI_o (show (1277 : Nat) ≠ 1185 by decide), k4, k5]
  rw [if_neg (by rw [mI_v, if_pos rfl, if_neg (by decide), mI_v, if_pos rfl, if_pos rfl]; exact kk), zoS_h sh_1185, zoL_e, zoS_h sh_1185, if_neg (by rw [mI_v, if_pos rfl, if_pos rfl]; decide)]
  have o2 : ∀ a, a ≠ 1277 → ¬ (1217 ≤ a ∧ a < 1247) → m2.1 a = (mI mm 1185 3 0).1 a := fun a a1 a2 => by rw [h2.2.2.2.2.2 a a1 a2, c2 a a2]
  have o5 := o2 1185 (by decide) (by decide)
  refine zok_s ⟨rfl, ?_, ?_, ?_, ?_, ?_, fun c d1 d2 d3 d4 => ?_, fun a a1 a2 a3 => ?_⟩
  · show m2.2 = mm.2
    rw [h2.2.2.2.2.1, c1]
    rfl
  · simp [mI_v, o5]
  · simp [mI_v]
  · simp [mI_v]
  · simp [mI_v]
  · simp [mI_v, o5, d1, d2, d3, d4]
  · rw [mI_o a1, mI_o a1, mI_o a1, o2 a a2 a3, mI_o a1]
end ZND
