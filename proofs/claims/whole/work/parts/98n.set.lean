/-! PURE: set, camera, light -/
section ZSE2
variable {W H : Nat} {mm : zMem}
theorem sh_mv {w : Nat} (hw : w < 3) : sh0 W H (1204 + w) = some (100, 144) := by
  rcases (show w = 0 ∨ w = 1 ∨ w = 2 by omega) with rfl | rfl | rfl
  · exact sh_m17 (r := 1187) (Or.inl rfl)
  · exact sh_m18 (r := 1187) (Or.inl rfl)
  · exact sh_m19 (r := 1187) (Or.inl rfl)
theorem e_of {m : zMem} {w : Nat} (hR : RF m.2.2) (hw : w < 3) : F_MScene_of (sh0 W H) m 1187 (nI w) = some (1204 + w, m) := by
  have hM : gM 1187 := Or.inl rfl
  unfold F_MScene_of
  rcases (show w = 0 ∨ w = 1 ∨ w = 2 by omega) with rfl | rfl | rfl
  · rw [if_pos (by decide), zoS_h (sh_m0 hM), zob_h (rf_m21 hR hM)]
  · rw [if_neg (by decide), if_pos (by decide), zoS_h (sh_m0 hM), zob_h (rf_m22 hR hM)]
  · rw [if_neg (by decide), if_neg (by decide), zoS_h (sh_m0 hM), zob_h (rf_m23 hR hM)]
theorem nI_3 (w c : Nat) : 3 * nI w + nI c = nI (3 * w + c) := by
  rw [show (3 : Int32) = nI 3 from rfl, nI_mul]
  exact (Int32.ofNat_add _ _).symm
theorem set_go {s n i w : Nat} {x y v : Int32} (h : PB W H mm) (hs : gS s) (h5 : mm.2.2 0 5 = some s) (hn : n ≤ 48) (hcn : cn (fun a => mm.1 (1187 + a)) 3 = n) (hsc : Rsc mm.1 s (fun a => mm.1 (1187 + a))) (htm : mm.1 s 8 = mm.1 1185 10) (hi : i < n) (hw : w < 3) (hv : ∀ c, c < 3 → (if w = 0 then -4194304 else -1048576) ≤ (v3 x y v c).toInt ∧ (v3 x y v c).toInt ≤ (if w = 0 then 4194304 else 1048576)) : PB W H (mI (mI (mI (mI (mI (mI (mI (mI mm (ndA s i + 1) (3 * w) x) (ndA s i + 1) (3 * w + 1) y) (ndA s i + 1) (3 * w + 2) v) s 9 0) 1185 11 0) (1204 + w) (3 * i) x) (1204 + w) (3 * i + 1) y) (1204 + w) (3 * i + 2) v) ∧ agP mm (mI (mI (mI (mI (mI (mI (mI (mI mm (ndA s i + 1) (3 * w) x) (ndA s i + 1) (3 * w + 1) y) (ndA s i + 1) (3 * w + 2) v) s 9 0) 1185 11 0) (1204 + w) (3 * i) x) (1204 + w) (3 * i + 1) y) (1204 + w) (3 * i + 2) v) := by
  have hR := h.1
  obtain ⟨d1, d2, d3, d4, d5, d6⟩ := nd_far hs (show i < 48 by omega)
  obtain ⟨l1, l2, l3⟩ := s_lt hs
  have hz2 : (mI (mI (mI (mI (mI (mI (mI (mI mm (ndA s i + 1) (3 * w) x) (ndA s i + 1) (3 * w + 1) y) (ndA s i + 1) (3 * w + 2) v) s 9 0) 1185 11 0) (1204 + w) (3 * i) x) (1204 + w) (3 * i + 1) y) (1204 + w) (3 * i + 2) v).2 = mm.2 := nrfl rfl
  have o : ∀ a, a ≠ ndA s i + 1 → a ≠ s → a ≠ 1185 → a ≠ 1204 + w → (mI (mI (mI (mI (mI (mI (mI (mI mm (ndA s i + 1) (3 * w) x) (ndA s i + 1) (3 * w + 1) y) (ndA s i + 1) (3 * w + 2) v) s 9 0) 1185 11 0) (1204 + w) (3 * i) x) (1204 + w) (3 * i + 1) y) (1204 + w) (3 * i + 2) v).1 a = mm.1 a := fun a a1 a2 a3 a4 => by rw [mI_3o a4, mI_o a3, mI_o a2, mI_3o a1]
  have on : (mI (mI (mI (mI (mI (mI (mI (mI mm (ndA s i + 1) (3 * w) x) (ndA s i + 1) (3 * w + 1) y) (ndA s i + 1) (3 * w + 2) v) s 9 0) 1185 11 0) (1204 + w) (3 * i) x) (1204 + w) (3 * i + 1) y) (1204 + w) (3 * i + 2) v).1 (ndA s i + 1) = upd3 (mm.1 (ndA s i + 1)) (3 * w) x y v := by rw [mI_3o (by omega), mI_o (by omega), mI_o d2, mI_3]
  have os : ∀ c, (mI (mI (mI (mI (mI (mI (mI (mI mm (ndA s i + 1) (3 * w) x) (ndA s i + 1) (3 * w + 1) y) (ndA s i + 1) (3 * w + 2) v) s 9 0) 1185 11 0) (1204 + w) (3 * i) x) (1204 + w) (3 * i + 1) y) (1204 + w) (3 * i + 2) v).1 s c = if c = 9 then 0 else mm.1 s c := fun c => by rw [mI_3o (by omega), mI_o (by omega), mI_v, if_pos rfl, mI_3o (Ne.symm d2)]
  have om : ∀ c, c ≠ 11 → (mI (mI (mI (mI (mI (mI (mI (mI mm (ndA s i + 1) (3 * w) x) (ndA s i + 1) (3 * w + 1) y) (ndA s i + 1) (3 * w + 2) v) s 9 0) 1185 11 0) (1204 + w) (3 * i) x) (1204 + w) (3 * i + 1) y) (1204 + w) (3 * i + 2) v).1 1185 c = mm.1 1185 c := fun c hc => by rw [mI_3o (by omega), mI_v, if_pos rfl, if_neg hc, mI_o (by omega), mI_3o (by omega)]
  have op : (mI (mI (mI (mI (mI (mI (mI (mI mm (ndA s i + 1) (3 * w) x) (ndA s i + 1) (3 * w + 1) y) (ndA s i + 1) (3 * w + 2) v) s 9 0) 1185 11 0) (1204 + w) (3 * i) x) (1204 + w) (3 * i + 1) y) (1204 + w) (3 * i + 2) v).1 (1204 + w) = upd3 (mm.1 (1204 + w)) (3 * i) x y v := by rw [mI_3, mI_o (by omega), mI_o (by omega), mI_3o (by omega)]
  generalize mI (mI (mI (mI (mI (mI (mI (mI mm (ndA s i + 1) (3 * w) x) (ndA s i + 1) (3 * w + 1) y) (ndA s i + 1) (3 * w + 2) v) s 9 0) 1185 11 0) (1204 + w) (3 * i) x) (1204 + w) (3 * i + 1) y) (1204 + w) (3 * i + 2) v = z at o on os om op hz2
  have FT : fT s mm.1 z.1 := fun b hb => o b (by unfold ndA; omega) (by omega) (by omega) (by omega)
  have G : ∀ j, j < 30 → j ≠ 17 + w → z.1 (1187 + j) = mm.1 (1187 + j) := fun j j1 j2 => o _ (by omega) (by omega) (by omega) (by omega)
  refine PB_B h hs (by rw [hz2]; exact hR) (by rw [hz2]) (by rw [hz2]; exact ⟨rfl, rfl⟩) (fun a a1 a2 a3 _ => o a (by unfold ndA; omega) (by omega) a1 (by omega)) FT (fun c _ c2 => om c c2) ?_
  refine vS_n (m := mm) hs (by rw [hz2]; exact h5) hsc (by rw [os, if_neg (by decide), om 10 (by decide)]; exact htm) (by rw [os, if_pos rfl]) FT (o _ (by unfold ndA; omega) (by omega) (by omega) (by omega)) (o _ (by unfold ndA; omega) (by omega) (by omega) (by omega)) (fun j j1 j2 => G j j1 (by omega)) ?_
  refine nd_set (f := mm.1) (i := i) (w := w) (v := v3 x y v) hn hcn hi hw hv (fun j hj c _ => congrFun (o _ (by unfold ndA; omega) (by unfold ndA; omega) (by unfold ndA; omega) (by unfold ndA; omega)) c) (fun j hj j2 => o _ (by unfold ndA; omega) (by unfold ndA; omega) (by unfold ndA; omega) (by unfold ndA; omega)) (fun c _ => by rw [on, upd3_v]) G (fun q => ?_) hsc.2.1
  rw [show 1187 + (17 + w) = 1204 + w by omega, op, upd3_v]
theorem s_set {x1 x2 x3 x4 x5 : Int32} (h : PB W H mm) : zok (lawS6 (sh0 W H) mm x1 x2 x3 x4 x5) (fun mq => PB W H mq ∧ agP mm mq) := by
  have hR := h.1
  have hM : gM 1187 := Or.inl rfl
  obtain ⟨s, n, hs, h5, hn, hc, hc', hcn, hsc, htm, hpl⟩ := vS_k h
  obtain ⟨l1, l2, l3⟩ := s_lt hs
  have e0 : (0 : Int32).toInt = 0 := rfl
  have e2 : (2 : Int32).toInt = 2 := rfl
  have hnn : (nI n).toInt = n := nI_toInt (by omega)
  have hh := e_has (W := W) (H := H) (x := x1) hR hs hc hn
  unfold lawS6
  by_cases hx : (0 ≤ x1.toInt ∧ x1.toInt < n) ∧ (0 ≤ x2.toInt ∧ x2.toInt ≤ 2) ∧ ¬ sp_MD_within x3 x4 x5 (sp_OB_reachOf x2) = 0
  · obtain ⟨hx1, hx2, hx3⟩ := hx
    obtain ⟨k1, k2⟩ := i32_cl hx1.1
    obtain ⟨k3, k4⟩ := i32_cl hx2.1
    have hi : x1.toNatClampNeg < n := by omega
    have hw : x2.toNatClampNeg < 3 := by omega
    generalize x1.toNatClampNeg = i at k1 k2 hi
    generalize x2.toNatClampNeg = w at k3 k4 hw
    have hi48 : i < 48 := by omega
    obtain ⟨d1, d2, d3, d4, d5, d6⟩ := nd_far hs hi48
    subst k1 k3
    have g0 : 3 * nI w = nI (3 * w) := by rw [show (3 : Int32) = nI 3 from rfl, nI_mul]
    have g1 : 3 * nI w + 1 = nI (3 * w + 1) := nI_3 w 1
    have g2 : 3 * nI w + 2 = nI (3 * w + 2) := nI_3 w 2
    have q0 : 3 * nI i = nI (3 * i) := by rw [show (3 : Int32) = nI 3 from rfl, nI_mul]
    have q1 : 3 * nI i + 1 = nI (3 * i + 1) := nI_3 i 1
    have q2 : 3 * nI i + 2 = nI (3 * i + 2) := nI_3 i 2
    refine law2 (B := fun m => F_MD_set (sh0 W H) m 1185 (nI i) (nI w) x3 x4 x5) (v := 1) (m1 := mI (mI (mI (mI mm (ndA s i + 1) (3 * w) x3) (ndA s i + 1) (3 * w + 1) x4) (ndA s i + 1) (3 * w + 2) x5) s 9 0) (m2 := mI (mI (mI (mI (mI (mI (mI (mI mm (ndA s i + 1) (3 * w) x3) (ndA s i + 1) (3 * w + 1) x4) (ndA s i + 1) (3 * w + 2) x5) s 9 0) 1185 11 0) (1204 + w) (3 * i) x3) (1204 + w) (3 * i + 1) x4) (1204 + w) (3 * i + 2) x5) ?_ ?_ ?_
    · unfold F_OB_set
      rw [g1, g2, g0, zoS_h sh_0, zob_h h5, zoS_h (sh_s0 hs), hh, if_pos hx1, zob_e, if_neg (show ¬ ((1 : Int32) = 0) by decide), if_neg (by rw [wi_0, e0, e2]; omega), aw_mw, if_neg hx3, zoS_h sh_0, zob_h h5, zoS_h (sh_s0 hs), zob_h (rf_s4 hR hs), zoR_h (sh_s21 hs) (by decide), nI_ix hi48 (by decide), nI_cl (by omega), zob_h (rf_nd hR hs hi48), zoS_h (sh_ndA hs hi48), zob_h (rf_ndA4 hR hs hi48), zoL_e, zoS_h (sh_ndA1 hs hi48), nI_ix (by omega) (by decide), nI_cl (by omega), zoL_e, zoL_e, zoS_h (sh_ndA1 hs hi48), nI_ix (by omega) (by decide), nI_cl (by omega), zoL_e, zoL_e, zoS_h (sh_ndA1 hs hi48), nI_ix (by omega) (by decide), nI_cl (by omega), zoL_e, zoS_h sh_0, zob_h (show (mI (mI (mI mm (ndA s i + 1) (3 * w) x3) (ndA s i + 1) (3 * w + 1) x4) (ndA s i + 1) (3 * w + 2) x5).2.2 0 5 = some s from h5), zoS_h (sh_s0 hs), zoL_e]
    · show F_MD_set (sh0 W H) (mI (mI (mI (mI mm (ndA s i + 1) (3 * w) x3) (ndA s i + 1) (3 * w + 1) x4) (ndA s i + 1) (3 * w + 2) x5) s 9 0) 1185 (nI i) (nI w) x3 x4 x5 = _
      generalize hm1 : mI (mI (mI (mI mm (ndA s i + 1) (3 * w) x3) (ndA s i + 1) (3 * w + 1) x4) (ndA s i + 1) (3 * w + 2) x5) s 9 0 = m1
      have hR1 : RF (mI m1 1185 11 0).2.2 := by rw [← hm1]; exact hR
      have f3 : (mI m1 1185 11 0).1 1187 3 = nI n := by rw [← hm1, mI_o (by decide), mI_o (by omega), mI_3o (by omega), hc']
      unfold F_MD_set
      rw [q1, q2, q0, zoS_h sh_1185, zoL_e, if_neg (by rw [i32_lt, e0]; omega), zoS_h sh_1185, zob_h (rf_1185_4 hR1), zoS_h (sh_m0 hM), if_neg (by rw [i32_le, f3, hnn]; omega), if_neg (by rw [i32_lt, e0]; omega), if_neg (by rw [i32_lt, e2]; omega)]
      unfold sp_OB_reachOf at hx3
      by_cases ew : nI w = 0
      · rw [if_pos ew] at hx3
        rw [if_pos ew, if_neg hx3, zoS_h sh_1185, zob_h (rf_1185_4 hR1), zoS_h (sh_m0 hM), zob_h (e_of hR1 hw), zoL_e, zoS_h (sh_mv hw), nI_ix (by omega) (by decide), nI_cl (by omega), zoL_e, zoL_e, zoS_h (sh_mv hw), nI_ix (by omega) (by decide), nI_cl (by omega), zoL_e, zoL_e, zoS_h (sh_mv hw), nI_ix (by omega) (by decide), nI_cl (by omega), zoL_e]
      · rw [if_neg ew] at hx3
        rw [if_neg ew, if_neg hx3, zoS_h sh_1185, zob_h (rf_1185_4 hR1), zoS_h (sh_m0 hM), zob_h (e_of hR1 hw), zoL_e, zoS_h (sh_mv hw), nI_ix (by omega) (by decide), nI_cl (by omega), zoL_e, zoL_e, zoS_h (sh_mv hw), nI_ix (by omega) (by decide), nI_cl (by omega), zoL_e, zoL_e, zoS_h (sh_mv hw), nI_ix (by omega) (by decide), nI_cl (by omega), zoL_e]
    · refine set_go h hs h5 hn hcn hsc htm hi hw (fun c hc3 => ?_)
      unfold sp_OB_reachOf at hx3
      have hv3 : ∀ {lo hi : Int}, (lo ≤ x3.toInt ∧ x3.toInt ≤ hi) ∧ (lo ≤ x4.toInt ∧ x4.toInt ≤ hi) ∧ (lo ≤ x5.toInt ∧ x5.toInt ≤ hi) → lo ≤ (v3 x3 x4 x5 c).toInt ∧ (v3 x3 x4 x5 c).toInt ≤ hi := fun q => by
        unfold v3
        by_cases c0 : c = 0
        · rw [if_pos c0]; exact q.1
        · rw [if_neg c0]
          by_cases c1 : c = 1
          · rw [if_pos c1]; exact q.2.1
          · rw [if_neg c1]; exact q.2.2
      by_cases ew : nI w = 0
      · rw [if_pos ew] at hx3
        have w0 : w = 0 := by
          rw [show (0 : Int32) = nI 0 from rfl, nI_eqD (by omega) (by decide)] at ew
          exact ew
        rw [if_pos w0, if_pos w0]
        exact hv3 (mw_n hx3)
      · rw [if_neg ew] at hx3
        have w0 : ¬ w = 0 := fun q => ew (by rw [q]; rfl)
        rw [if_neg w0, if_neg w0]
        exact hv3 (mw_n hx3)
  · refine law2 (B := fun m => F_MD_set (sh0 W H) m 1185 x1 x2 x3 x4 x5) (v := 0) (m1 := mm) (m2 := mI mm 1185 11 0) ?_ ?_ (PB_11 h)
    · unfold F_OB_set
      rw [zoS_h sh_0, zob_h h5, zoS_h (sh_s0 hs), hh, zob_e]
      by_cases k : 0 ≤ x1.toInt ∧ x1.toInt < n
      · rw [if_pos k, if_neg (show ¬ ((1 : Int32) = 0) by decide)]
        by_cases k2 : sp_OB_within x2 0 2 = 0
        · rw [if_pos k2]
        · rw [if_neg k2, aw_mw]
          rw [wi_0, e0, e2] at k2
          rw [if_pos (Classical.byContradiction fun q => hx ⟨k, by omega, q⟩)]
      · rw [if_neg k, if_pos rfl]
    · show F_MD_set (sh0 W H) mm 1185 x1 x2 x3 x4 x5 = _
      have hR1 : RF (mI mm 1185 11 0).2.2 := hR
      have f3 : (mI mm 1185 11 0).1 1187 3 = nI n := by rw [mI_o (by decide), hc']
      unfold F_MD_set
      rw [zoS_h sh_1185, zoL_e]
      by_cases k0 : x1 < 0
      · rw [if_pos k0]
      · rw [if_neg k0, zoS_h sh_1185, zob_h (rf_1185_4 hR1), zoS_h (sh_m0 hM), f3]
        rw [i32_lt, e0] at k0
        by_cases k1 : nI n ≤ x1
        · rw [if_pos k1]
        · rw [if_neg k1]
          rw [i32_le, hnn] at k1
          by_cases k2 : x2 < 0
          · rw [if_pos k2]
          · rw [if_neg k2]
            rw [i32_lt, e0] at k2
            by_cases k3 : 2 < x2
            · rw [if_pos k3]
            · rw [if_neg k3]
              rw [i32_lt, e2] at k3
              have hz : sp_MD_within x3 x4 x5 (sp_OB_reachOf x2) = 0 := Classical.byContradiction fun q => hx ⟨by omega, by omega, q⟩
              unfold sp_OB_reachOf at hz
              by_cases ew : x2 = 0
              · rw [if_pos ew] at hz
                rw [if_pos ew, if_pos hz]
              · rw [if_neg ew] at hz
                rw [if_neg ew, if_pos hz]
end ZSE2
