/-! PURE: camera, light and world as the law calls them -/
section ZWO
variable {W H : Nat} {mm : zMem}
theorem s_camera {x1 x2 x3 x4 x5 : Int32} (h : PB W H mm) : zok (lawS9 (sh0 W H) mm x1 x2 x3 x4 x5) (fun mq => PB W H mq ∧ agP mm mq) := by
  have hR := h.1
  have hM : gM 1187 := Or.inl rfl
  obtain ⟨s, n, hs, h5, hn, hc, hc', hcn, hsc, htm, hpl⟩ := vS_k h
  obtain ⟨l1, l2, l3⟩ := s_lt hs
  have e0 : (0 : Int32).toInt = 0 := rfl
  have e1 : (1 : Int32).toInt = 1 := rfl
  have e2 : (2 : Int32).toInt = 2 := rfl
  have e8 : (8 : Int32).toInt = 8 := rfl
  have e512 : (512 : Int32).toInt = 512 := rfl
  unfold lawS9
  by_cases k2 : x1 = 2
  · subst k2
    by_cases hx : 8 ≤ x2.toInt ∧ x2.toInt ≤ 512
    · refine law2 (B := fun m => F_MD_camera (sh0 W H) m 1185 2 x2 x3 x4) (v := 1) (m1 := mI mm (s + 23) 6 x2) (m2 := mI (mI (mI mm (s + 23) 6 x2) 1185 11 0) 1187 34 x2) ?_ ?_ (foc_go h hs h5 hn hcn hsc htm hpl hx)
      · unfold F_OB_camera
        rw [zoS_h sh_0, zob_h h5, zoS_h (sh_s0 hs), zob_h (rf_s6 hR hs), if_pos rfl, if_neg (by rw [wi_0, e8, e512]; omega), zoS_h (sh_s23 hs), if_neg (by decide), zoL_e]
        rfl
      · show F_MD_camera (sh0 W H) (mI mm (s + 23) 6 x2) 1185 2 x2 x3 x4 = _
        have hR1 : RF (mI (mI mm (s + 23) 6 x2) 1185 11 0).2.2 := hR
        unfold F_MD_camera
        rw [zoS_h sh_1185, zoL_e, if_neg (by decide), if_pos (by decide), if_pos rfl, if_neg (by rw [i32_lt, e8]; omega), if_pos (by rw [i32_le, e512]; omega), zoS_h sh_1185, zob_h (rf_1185_4 hR1), zoS_h (sh_m0 hM), zoL_e]
    · refine law2 (B := fun m => F_MD_camera (sh0 W H) m 1185 2 x2 x3 x4) (v := 0) (m1 := mm) (m2 := mI mm 1185 11 0) ?_ ?_ (PB_11 h)
      · unfold F_OB_camera
        rw [zoS_h sh_0, zob_h h5, zoS_h (sh_s0 hs), zob_h (rf_s6 hR hs), if_pos rfl, if_pos (by rw [wi_0, e8, e512]; omega), if_pos (by decide)]
      · show F_MD_camera (sh0 W H) mm 1185 2 x2 x3 x4 = _
        unfold F_MD_camera
        rw [zoS_h sh_1185, zoL_e, if_neg (by decide), if_pos (by decide), if_pos rfl]
        by_cases k : x2 < 8
        · rw [if_pos k]
        · rw [if_neg k, if_neg (by rw [i32_lt, e8] at k; rw [i32_le, e512]; omega)]
  · by_cases hx : (0 ≤ x1.toInt ∧ x1.toInt ≤ 1) ∧ ¬ sp_MD_within x2 x3 x4 (sp_OB_reachOf x1) = 0
    · obtain ⟨hx1, hx3⟩ := hx
      obtain ⟨w, hw, rfl⟩ : ∃ w, w < 2 ∧ x1 = nI w := ⟨x1.toNatClampNeg, by have := (i32_cl hx1.1).2; omega, (i32_cl hx1.1).1⟩
      have hwi : (nI w).toInt = w := nI_toInt (by omega)
      have g0 : 3 * nI w = nI (3 * w) := by rw [show (3 : Int32) = nI 3 from rfl, nI_mul]
      have g1 : 3 * nI w + 1 = nI (3 * w + 1) := nI_3 w 1
      have g2 : 3 * nI w + 2 = nI (3 * w + 2) := nI_3 w 2
      have hvv : ∀ c, c < 3 → (if w = 0 then -4194304 else -1048576) ≤ (v3 x2 x3 x4 c).toInt ∧ (v3 x2 x3 x4 c).toInt ≤ (if w = 0 then 4194304 else 1048576) := fun c hc3 => by
        unfold sp_OB_reachOf at hx3
        have hv3 : ∀ {lo hi : Int}, (lo ≤ x2.toInt ∧ x2.toInt ≤ hi) ∧ (lo ≤ x3.toInt ∧ x3.toInt ≤ hi) ∧ (lo ≤ x4.toInt ∧ x4.toInt ≤ hi) → lo ≤ (v3 x2 x3 x4 c).toInt ∧ (v3 x2 x3 x4 c).toInt ≤ hi := fun q => by
          unfold v3
          by_cases c0 : c = 0
          · rw [if_pos c0]; exact q.1
          · rw [if_neg c0]
            by_cases c1 : c = 1
            · rw [if_pos c1]; exact q.2.1
            · rw [if_neg c1]; exact q.2.2
        by_cases ew : nI w = 0
        · rw [if_pos ew] at hx3
          have w0 : w = 0 := by
            rw [show (0 : Int32) = nI 0 from rfl, nI_eqD (by omega) (by decide)] at ew
            exact ew
          rw [if_pos w0, if_pos w0]
          exact hv3 (mw_n hx3)
        · rw [if_neg ew] at hx3
          have w0 : ¬ w = 0 := fun q => ew (by rw [q]; rfl)
          rw [if_neg w0, if_neg w0]
          exact hv3 (mw_n hx3)
      refine law2 (B := fun m => F_MD_camera (sh0 W H) m 1185 (nI w) x2 x3 x4) (v := 1) (m1 := mI (mI (mI mm (s + 23) (3 * w) x2) (s + 23) (3 * w + 1) x3) (s + 23) (3 * w + 2) x4) (m2 := mI (mI (mI (mI (mI (mI (mI mm (s + 23) (3 * w) x2) (s + 23) (3 * w + 1) x3) (s + 23) (3 * w + 2) x4) 1185 11 0) (1214 + w) 0 x2) (1214 + w) (0 + 1) x3) (1214 + w) (0 + 2) x4) ?_ ?_ (cam_go h hs h5 hn hcn hsc htm hpl hw hvv)
      · unfold F_OB_camera
        rw [g1, g2, g0, zoS_h sh_0, zob_h h5, zoS_h (sh_s0 hs), zob_h (rf_s6 hR hs), if_neg k2, if_neg (by rw [wi_0, e0, e1]; omega), aw_mw, if_neg hx3, zoL_e, zoS_h (sh_s23 hs), nI_ix (by omega) (by decide), nI_cl (by omega), zoL_e, zoL_e, zoS_h (sh_s23 hs), nI_ix (by omega) (by decide), nI_cl (by omega), zoL_e, zoL_e, zoS_h (sh_s23 hs), nI_ix (by omega) (by decide), nI_cl (by omega), zoL_e]
      · show F_MD_camera (sh0 W H) (mI (mI (mI mm (s + 23) (3 * w) x2) (s + 23) (3 * w + 1) x3) (s + 23) (3 * w + 2) x4) 1185 (nI w) x2 x3 x4 = _
        generalize hm1 : mI (mI (mI mm (s + 23) (3 * w) x2) (s + 23) (3 * w + 1) x3) (s + 23) (3 * w + 2) x4 = m1
        have hR1 : RF (mI m1 1185 11 0).2.2 := by rw [← hm1]; exact hR
        unfold F_MD_camera
        unfold sp_OB_reachOf at hx3
        rcases (show w = 0 ∨ w = 1 by omega) with rfl | rfl
        · rw [if_pos (by decide)] at hx3
          rw [zoS_h sh_1185, zoL_e, if_neg (by decide), if_pos (by decide), if_neg (by decide), if_pos (by decide), if_neg hx3, zoS_h sh_1185, zob_h (rf_1185_4 hR1), zoS_h (sh_m0 hM), zob_h (rf_m31 hR1 hM), zoS_h (sh_m27 hM), if_neg (by decide), zoL_e, zoS_h (sh_m27 hM), if_neg (by decide), zoL_e, zoS_h (sh_m27 hM), if_neg (by decide), zoL_e]
          rfl
        · rw [if_neg (by decide)] at hx3
          rw [zoS_h sh_1185, zoL_e, if_neg (by decide), if_pos (by decide), if_neg (by decide), if_neg (by decide), if_neg hx3, zoS_h sh_1185, zob_h (rf_1185_4 hR1), zoS_h (sh_m0 hM), zob_h (rf_m32 hR1 hM), zoS_h (sh_m28 hM), if_neg (by decide), zoL_e, zoS_h (sh_m28 hM), if_neg (by decide), zoL_e, zoS_h (sh_m28 hM), if_neg (by decide), zoL_e]
          rfl
    · refine law2 (B := fun m => F_MD_camera (sh0 W H) m 1185 x1 x2 x3 x4) (v := 0) (m1 := mm) (m2 := mI mm 1185 11 0) ?_ ?_ (PB_11 h)
      · unfold F_OB_camera
        rw [zoS_h sh_0, zob_h h5, zoS_h (sh_s0 hs), zob_h (rf_s6 hR hs), if_neg k2]
        by_cases k : sp_OB_within x1 0 1 = 0
        · rw [if_pos k]
        · rw [if_neg k, aw_mw]
          rw [wi_0, e0, e1] at k
          rw [if_pos (Classical.byContradiction fun q => hx ⟨by omega, q⟩)]
      · show F_MD_camera (sh0 W H) mm 1185 x1 x2 x3 x4 = _
        unfold F_MD_camera
        rw [zoS_h sh_1185, zoL_e]
        by_cases k0 : x1 < 0
        · rw [if_pos k0]
        · rw [if_neg k0]
          rw [i32_lt, e0] at k0
          by_cases k3 : x1 ≤ 2
          · have n2 : x1.toInt ≠ 2 := fun q => k2 (i32_ext (by rw [q]; rfl))
            rw [if_pos k3, if_neg k2]
            rw [i32_le, e2] at k3
            have hz : sp_MD_within x2 x3 x4 (sp_OB_reachOf x1) = 0 := Classical.byContradiction fun q => hx ⟨by omega, q⟩
            unfold sp_OB_reachOf at hz
            by_cases ew : x1 = 0
            · rw [if_pos ew] at hz
              rw [if_pos ew, if_pos hz]
            · rw [if_neg ew] at hz
              rw [if_neg ew, if_pos hz]
          · rw [if_neg k3]
theorem s_light {x1 x2 x3 x4 x5 : Int32} (h : PB W H mm) : zok (lawS10 (sh0 W H) mm x1 x2 x3 x4 x5) (fun mq => PB W H mq ∧ agP mm mq) := by
  have hR := h.1
  have hM : gM 1187 := Or.inl rfl
  obtain ⟨s, n, hs, h5, hn, hc, hc', hcn, hsc, htm, hpl⟩ := vS_k h
  obtain ⟨l1, l2, l3⟩ := s_lt hs
  have e0 : (0 : Int32).toInt = 0 := rfl
  have e6 : (65536 : Int32).toInt = 65536 := rfl
  unfold lawS10
  by_cases hx : ¬ sp_MD_within x1 x2 x3 65536 = 0 ∧ (0 ≤ x4.toInt ∧ x4.toInt ≤ 65536)
  · obtain ⟨hx1, hx2⟩ := hx
    refine law2 (B := fun m => F_MD_light (sh0 W H) m 1185 x1 x2 x3 x4) (v := 1) (m1 := mI (mI (mI (mI mm (s + 24) 0 x1) (s + 24) 1 x2) (s + 24) 2 x3) (s + 24) 3 x4) (m2 := mI (mI (mI (mI (mI (mI (mI (mI (mI mm (s + 24) 0 x1) (s + 24) 1 x2) (s + 24) 2 x3) (s + 24) 3 x4) 1185 11 0) 1216 0 x1) 1216 1 x2) 1216 2 x3) 1187 35 x4) ?_ ?_ (lit_go h hs h5 hn hcn hsc htm hpl (mw_n hx1) hx2)
    · unfold F_OB_light
      rw [aw_mw, if_neg hx1, if_neg (by rw [wi_0, e0, e6]; omega)]
      have h5a : ∀ (a j : Nat) (v : Int32) (m : zMem), m.2.2 0 5 = some s → (mI m a j v).2.2 0 5 = some s := fun a j v m q => q
      rw [zoS_h sh_0, zob_h h5, zoS_h (sh_s0 hs), zob_h (rf_s7 hR hs), zoS_h (sh_s24 hs), if_neg (by decide), zoL_e, zoS_h sh_0, zob_h (h5a _ _ _ _ h5), zoS_h (sh_s0 hs), zob_h (rf_s7 (R := (mI mm (s + 24) (0 : Int32).toNatClampNeg x1).2.2) hR hs), zoS_h (sh_s24 hs), if_neg (by decide), zoL_e, zoS_h sh_0, zob_h (h5a _ _ _ _ (h5a _ _ _ _ h5)), zoS_h (sh_s0 hs), zob_h (rf_s7 (R := (mI (mI mm (s + 24) (0 : Int32).toNatClampNeg x1) (s + 24) (1 : Int32).toNatClampNeg x2).2.2) hR hs), zoS_h (sh_s24 hs), if_neg (by decide), zoL_e, zoS_h sh_0, zob_h (h5a _ _ _ _ (h5a _ _ _ _ (h5a _ _ _ _ h5))), zoS_h (sh_s0 hs), zob_h (rf_s7 (R := (mI (mI (mI mm (s + 24) (0 : Int32).toNatClampNeg x1) (s + 24) (1 : Int32).toNatClampNeg x2) (s + 24) (2 : Int32).toNatClampNeg x3).2.2) hR hs), zoS_h (sh_s24 hs), if_neg (by decide), zoL_e]
      rfl
    · show F_MD_light (sh0 W H) (mI (mI (mI (mI mm (s + 24) 0 x1) (s + 24) 1 x2) (s + 24) 2 x3) (s + 24) 3 x4) 1185 x1 x2 x3 x4 = _
      generalize hm1 : mI (mI (mI (mI mm (s + 24) 0 x1) (s + 24) 1 x2) (s + 24) 2 x3) (s + 24) 3 x4 = m1
      have hR1 : RF (mI m1 1185 11 0).2.2 := by rw [← hm1]; exact hR
      unfold F_MD_light
      rw [zoS_h sh_1185, zoL_e, if_neg hx1, if_neg (by rw [i32_lt, e0]; omega), if_pos (by rw [i32_le, e6]; omega)]
      rw [zoS_h sh_1185, zob_h (rf_1185_4 hR1), zoS_h (sh_m0 hM), zob_h (rf_m33 hR1 hM), zoS_h (sh_m29 hM), if_neg (by decide), zoL_e, zoS_h sh_1185, zob_h (rf_1185_4 (R := (mI (mI m1 1185 11 0) (1187 + 29) (0 : Int32).toNatClampNeg x1).2.2) hR1), zoS_h (sh_m0 hM), zob_h (rf_m33 (R := (mI (mI m1 1185 11 0) (1187 + 29) (0 : Int32).toNatClampNeg x1).2.2) hR1 hM), zoS_h (sh_m29 hM), if_neg (by decide), zoL_e, zoS_h sh_1185, zob_h (rf_1185_4 (R := (mI (mI (mI m1 1185 11 0) (1187 + 29) (0 : Int32).toNatClampNeg x1) (1187 + 29) (1 : Int32).toNatClampNeg x2).2.2) hR1), zoS_h (sh_m0 hM), zob_h (rf_m33 (R := (mI (mI (mI m1 1185 11 0) (1187 + 29) (0 : Int32).toNatClampNeg x1) (1187 + 29) (1 : Int32).toNatClampNeg x2).2.2) hR1 hM), zoS_h (sh_m29 hM), if_neg (by decide), zoL_e, zoS_h sh_1185, zob_h (rf_1185_4 (R := (mI (mI (mI (mI m1 1185 11 0) (1187 + 29) (0 : Int32).toNatClampNeg x1) (1187 + 29) (1 : Int32).toNatClampNeg x2) (1187 + 29) (2 : Int32).toNatClampNeg x3).2.2) hR1), zoS_h (sh_m0 hM), zoL_e]
      rfl
  · refine law2 (B := fun m => F_MD_light (sh0 W H) m 1185 x1 x2 x3 x4) (v := 0) (m1 := mm) (m2 := mI mm 1185 11 0) ?_ ?_ (PB_11 h)
    · unfold F_OB_light
      rw [aw_mw]
      by_cases k : sp_MD_within x1 x2 x3 65536 = 0
      · rw [if_pos k]
      · rw [if_neg k, if_pos (by rw [wi_0, e0, e6]; exact Classical.byContradiction fun q => hx ⟨k, by omega⟩)]
    · show F_MD_light (sh0 W H) mm 1185 x1 x2 x3 x4 = _
      unfold F_MD_light
      rw [zoS_h sh_1185, zoL_e]
      by_cases k : sp_MD_within x1 x2 x3 65536 = 0
      · rw [if_pos k]
      · rw [if_neg k]
        by_cases k0 : x4 < 0
        · rw [if_pos k0]
        · rw [if_neg k0, if_neg (by rw [i32_lt, e0] at k0; rw [i32_le, e6]; exact fun q => hx ⟨k, by omega⟩)]
end ZWO
