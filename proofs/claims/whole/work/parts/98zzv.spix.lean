/-! PURE: calls 15 and 16: pixel and nearness -/
section ZSP
variable {W H : Nat} {mm : zMem}
theorem pk_3 {r g b : Nat} : nI r * 65536 + nI g * 256 + nI b = pk r g b := by
  rw [show (65536 : Int32) = nI 65536 from rfl, show (256 : Int32) = nI 256 from rfl, nI_mul, nI_mul, nI_pp, nI_pp]
  rfl
theorem m11 {c : Nat} (hc : c ≠ 11) : (mI mm 1185 11 0).1 1185 c = mm.1 1185 c := by rw [mI_v, if_pos rfl, if_neg hc]
theorem m11o {a : Nat} (ha : a ≠ 1185) : (mI mm 1185 11 0).1 a = mm.1 a := mI_o ha
theorem m_pxN {x y : Int32} (h0 : mm.1 1185 0 = nI W) (h1 : mm.1 1185 1 = nI H) (hW48 : W ≤ 48) (hH48 : H ≤ 48) (hn : mm.1 1185 15 = 0 ∨ isP W H x y = false) : F_MD_isDone (sh0 W H) (mI mm 1185 11 0) 1185 x y = some (0, mI mm 1185 11 0) := by
  unfold F_MD_isDone
  rw [zoS_h sh_1185, m11 (by decide)]
  by_cases c : mm.1 1185 15 = 0
  · rw [if_pos c]
  · rw [if_neg c, zoS_h sh_1185, zob_h (e_isp (by rw [m11 (by decide)]; exact h0) (by rw [m11 (by decide)]; exact h1) hW48 hH48)]
    rcases hn with hn | hn
    · exact absurd hn c
    · rw [hn]
      exact if_pos rfl
set_option maxHeartbeats 2000000 in
theorem s_pixel {x1 x2 x3 x4 x5 : Int32} (h : PB W H mm) (hx : PX W H mm) (hW8 : 8 ≤ W) (hH8 : 8 ≤ H) (hW48 : W ≤ 48) (hH48 : H ≤ 48) : zok (lawS15 (sh0 W H) mm x1 x2 x3 x4 x5) (fun mq => PB W H mq ∧ agP mm mq) ∧ zok (lawS16 (sh0 W H) mm x1 x2 x3 x4 x5) (fun mq => PB W H mq ∧ agP mm mq) := by
  have hR := h.1
  obtain ⟨⟨k1, k2⟩, _, ⟨k3, k4, k5, k6⟩, ⟨k7, k8⟩, _⟩ := h.2.1
  have hP := e_hasP (W := W) (H := H) (mm := mm) (x := x1) (y := x2) k1 k2 hW8 hH8 hW48 hH48
  have m1 : (-1 : Int32) = -1 := rfl
  have no : isP W H x1 x2 = false → zok (lawS15 (sh0 W H) mm x1 x2 x3 x4 x5) (fun mq => PB W H mq ∧ agP mm mq) ∧ zok (lawS16 (sh0 W H) mm x1 x2 x3 x4 x5) (fun mq => PB W H mq ∧ agP mm mq) := fun e => by
    rw [e] at hP
    have d := m_pxN (W := W) (H := H) (mm := mm) (x := x1) (y := x2) k7 k8 hW48 hH48 (Or.inr e)
    refine ⟨law2 (v := -1) (m1 := mm) (B := fun q => F_MD_pixel (sh0 W H) q 1185 x1 x2) ?_ ?_ (PB_11 h), law2 (v := -1) (m1 := mm) (B := fun q => F_MD_nearness (sh0 W H) q 1185 x1 x2) ?_ ?_ (PB_11 h)⟩
    · unfold F_OB_pixel
      rw [zoS_h sh_0, zob_h hP]
      exact if_pos rfl
    · show F_MD_pixel (sh0 W H) mm 1185 x1 x2 = _
      unfold F_MD_pixel
      rw [zoS_h sh_1185, zoL_e, zoS_h sh_1185, zob_h d]
      exact if_pos rfl
    · unfold F_OB_nearness
      rw [zoS_h sh_0, zob_h hP]
      exact if_pos rfl
    · show F_MD_nearness (sh0 W H) mm 1185 x1 x2 = _
      unfold F_MD_nearness
      rw [zoS_h sh_1185, zoL_e, zoS_h sh_1185, zob_h d]
      exact if_pos rfl
  cases e : isP W H x1 x2 with
  | false => exact no e
  | true =>
    rw [e] at hP
    have n1 : ¬ b32 true = 0 := by decide
    rcases hx.2.2 with ⟨b1, b2⟩ | ⟨b1, b2, s, S, S', gr, N, p1, p2, p3, p4, p5, p6, p7, p8, p9⟩
    · have d := m_pxN (W := W) (H := H) (mm := mm) (x := x1) (y := x2) k7 k8 hW48 hH48 (Or.inl b2)
      have sw : F_XPicture_shows (sh0 W H) mm 1178 x1 x2 = some (0, mm) := by
        unfold F_XPicture_shows
        rw [zoS_h sh_1178, if_pos b1]
      refine ⟨law2 (v := -1) (m1 := mm) (B := fun q => F_MD_pixel (sh0 W H) q 1185 x1 x2) ?_ ?_ (PB_11 h), law2 (v := -1) (m1 := mm) (B := fun q => F_MD_nearness (sh0 W H) q 1185 x1 x2) ?_ ?_ (PB_11 h)⟩
      · unfold F_OB_pixel
        rw [zoS_h sh_0, zob_h hP]
        dsimp only
        rw [if_neg n1, zoS_h sh_0, zob_h (rf_0_8 hR), zoS_h sh_1178, zob_h sw]
        exact if_pos rfl
      · show F_MD_pixel (sh0 W H) mm 1185 x1 x2 = _
        unfold F_MD_pixel
        rw [zoS_h sh_1185, zoL_e, zoS_h sh_1185, zob_h d]
        exact if_pos rfl
      · unfold F_OB_nearness
        rw [zoS_h sh_0, zob_h hP]
        dsimp only
        rw [if_neg n1, zoS_h sh_0, zob_h (rf_0_8 hR), zoS_h sh_1178, zob_h sw]
        exact if_pos rfl
      · show F_MD_nearness (sh0 W H) mm 1185 x1 x2 = _
        unfold F_MD_nearness
        rw [zoS_h sh_1185, zoL_e, zoS_h sh_1185, zob_h d]
        exact if_pos rfl
    · obtain ⟨a, b, ha, hb, rfl, rfl⟩ := isP_y e
      obtain ⟨q1, q2, q3⟩ := p6
      have sw := e_shw (W := W) (H := H) (mm := mm) ha hb hW48 hH48 b1 k6 q1 q2
      have R1 : RF (mI mm 1185 11 0).2.2 := hR
      have d := e_isd (W := W) (H := H) (mm := mI mm 1185 11 0) R1 ha hb hW48 hH48 (by rw [m11 (by decide)]; exact k7) (by rw [m11 (by decide)]; exact k8) (by rw [m11 (by decide)]; exact b2)
      rw [m11o (by decide), ← q3 _ (tlN_lt ha hb)] at d
      have hat := at_lt (W := W) (H := H) ha hb
      have hWH : W * H ≤ 48 * 48 := Nat.mul_le_mul hW48 hH48
      cases hbt : N.testBit (tlN W a b) with
      | false =>
        rw [hbt] at sw d
        refine ⟨law2 (v := -1) (m1 := mm) (B := fun q => F_MD_pixel (sh0 W H) q 1185 (nI a) (nI b)) ?_ ?_ (PB_11 h), law2 (v := -1) (m1 := mm) (B := fun q => F_MD_nearness (sh0 W H) q 1185 (nI a) (nI b)) ?_ ?_ (PB_11 h)⟩
        · unfold F_OB_pixel
          rw [zoS_h sh_0, zob_h hP]
          dsimp only
          rw [if_neg n1, zoS_h sh_0, zob_h (rf_0_8 hR), zoS_h sh_1178, zob_h sw]
          exact if_pos rfl
        · show F_MD_pixel (sh0 W H) mm 1185 (nI a) (nI b) = _
          unfold F_MD_pixel
          rw [zoS_h sh_1185, zoL_e, zoS_h sh_1185, zob_h d]
          exact if_pos rfl
        · unfold F_OB_nearness
          rw [zoS_h sh_0, zob_h hP]
          dsimp only
          rw [if_neg n1, zoS_h sh_0, zob_h (rf_0_8 hR), zoS_h sh_1178, zob_h sw]
          exact if_pos rfl
        · show F_MD_nearness (sh0 W H) mm 1185 (nI a) (nI b) = _
          unfold F_MD_nearness
          rw [zoS_h sh_1185, zoL_e, zoS_h sh_1185, zob_h d]
          exact if_pos rfl
      | true =>
        rw [hbt] at sw d
        have eS := p9 a ha b hb
        rw [if_pos hbt] at eS
        obtain ⟨⟨c, c1, c2⟩, c3⟩ := p8 a ha b hb
        obtain ⟨s1, s2⟩ := p7 a ha b hb
        rw [← eS] at c1 c3
        have eat : nI b * nI W + nI a = nI (W * b + a) := by rw [nI_mul, nI_pp, Nat.mul_comm]
        have eat2 : nI W * nI b + nI a = nI (W * b + a) := by rw [nI_mul, nI_pp]
        refine ⟨law2 (v := pk (c 0) (c 1) (c 2)) (m1 := mm) (B := fun q => F_MD_pixel (sh0 W H) q 1185 (nI a) (nI b)) ?_ ?_ (PB_11 h), law2 (v := mm.1 1184 (W * b + a)) (m1 := mm) (B := fun q => F_MD_nearness (sh0 W H) q 1185 (nI a) (nI b)) ?_ ?_ (PB_11 h)⟩
        · unfold F_OB_pixel
          rw [zoS_h sh_0, zob_h hP]
          dsimp only
          rw [if_neg n1, zoS_h sh_0, zob_h (rf_0_8 hR), zoS_h sh_1178, zob_h sw]
          dsimp only
          rw [if_neg n1, zoS_h sh_0, zob_h (rf_0_8 hR), zoS_h sh_1178, zob_h (rf_1178_1 hR), zoS_h sh_0, k1, eat, zoL_e, zoS_h sh_1183, nI_ix hat (by omega), nI_cl (n := W * b + a) (by omega), c2]
        · show F_MD_pixel (sh0 W H) mm 1185 (nI a) (nI b) = _
          unfold F_MD_pixel
          rw [zoS_h sh_1185, zoL_e, zoS_h sh_1185, zob_h d]
          dsimp only
          rw [if_neg n1, zoS_h sh_1185, m11 (show 0 ≠ 11 by decide), k7, eat2, nI_3mul, zoL_e, zoS_h sh_1185, zob_h (rf_1185_17 R1), zoS_h sh_1283, nI_ix (by omega) (by decide), nI_cl (n := 3 * (W * b + a)) (by omega), zoS_h sh_1185, zob_h (rf_1185_17 R1), nI_p1, zoL_e, zoS_h sh_1283, nI_ix (by omega) (by decide), nI_cl (n := 3 * (W * b + a) + 1) (by omega), zoS_h sh_1185, zob_h (rf_1185_17 R1), nI_p2, zoL_e, zoS_h sh_1283, nI_ix (by omega) (by decide), nI_cl (n := 3 * (W * b + a) + 2) (by omega), m11o (show 1283 ≠ 1185 by decide), (show mm.1 1283 (3 * (W * b + a)) = nI (c 0) from (s1 0 (by decide)).trans (c1 0 (by decide)).2), (show mm.1 1283 (3 * (W * b + a) + 1) = nI (c 1) from (s1 1 (by decide)).trans (c1 1 (by decide)).2), (show mm.1 1283 (3 * (W * b + a) + 2) = nI (c 2) from (s1 2 (by decide)).trans (c1 2 (by decide)).2), pk_3]
        · unfold F_OB_nearness
          rw [zoS_h sh_0, zob_h hP]
          dsimp only
          rw [if_neg n1, zoS_h sh_0, zob_h (rf_0_8 hR), zoS_h sh_1178, zob_h sw]
          dsimp only
          rw [if_neg n1, zoS_h sh_0, zob_h (rf_0_8 hR), zoS_h sh_1178, zob_h (rf_1178_2 hR), zoS_h sh_0, k1, eat, zoL_e, zoS_h sh_1184, nI_ix hat (by omega), nI_cl (n := W * b + a) (by omega)]
        · show F_MD_nearness (sh0 W H) mm 1185 (nI a) (nI b) = _
          unfold F_MD_nearness
          rw [zoS_h sh_1185, zoL_e, zoS_h sh_1185, zob_h d]
          dsimp only
          have e4 : ((mI mm 1185 11 0).2.1 1284 (W * b + a)).toInt32 = mm.1 1184 (W * b + a) := by
            show (mm.2.1 1284 (W * b + a)).toInt32 = _
            rw [s2, ← c3, i32_rt]
          rw [if_neg n1, zoS_h sh_1185, zob_h (rf_1185_18 R1), zoS_h sh_1185, m11 (show 0 ≠ 11 by decide), k7, eat2, zoL_e, zoS_h sh_1284, nI_ix (by omega) (by decide), nI_cl (n := W * b + a) (by omega), e4]
end ZSP
