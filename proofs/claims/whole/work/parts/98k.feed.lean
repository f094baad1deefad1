/-! PURE: count and feed -/
section ZFE
variable {W H : Nat} {mm : zMem}
theorem s_count {x1 x2 x3 x4 x5 : Int32} (h : PB W H mm) : zok (lawS4 (sh0 W H) mm x1 x2 x3 x4 x5) (fun mq => PB W H mq ∧ agP mm mq) := by
  have hR := h.1
  have hR1 : RF (mI mm 1185 11 0).2.2 := hR
  obtain ⟨s, hs, h5, hsc, htm, hpl⟩ := h.2.2.2.1
  have hM : gM 1187 := Or.inl rfl
  have e0 : (0 : Int32).toInt = 0 := rfl
  have e4 : (4 : Int32).toInt = 4 := rfl
  have e5 : (5 : Int32).toInt = 5 := rfl
  have o : (mI mm 1185 11 0).1 1187 = mm.1 1187 := mI_o (by decide)
  have hc : ∀ c, c < 5 → mm.1 (s + 1) c = mm.1 1187 c := fun c hc => (hsc.1.1 c hc).1
  unfold lawS4
  by_cases k5 : x1 = 5
  · refine law2 (B := fun m => F_MD_count (sh0 W H) m 1185 x1) (v := mm.1 s 8) (m1 := mm) (m2 := mI mm 1185 11 0) ?_ ?_ (PB_11 h)
    · unfold F_OB_count
      rw [if_pos k5, zoS_h sh_0, zob_h h5, zoS_h (sh_s0 hs)]
    · show F_MD_count (sh0 W H) mm 1185 x1 = _
      unfold F_MD_count
      subst k5
      rw [zoS_h sh_1185, zoL_e, if_neg (by decide), if_neg (by decide), if_neg (by decide), if_neg (by decide), if_neg (by decide), if_pos rfl, zoS_h sh_1185, htm, mI_v, if_pos rfl, if_neg (by decide)]
  · by_cases hx : 0 ≤ x1.toInt ∧ x1.toInt ≤ 4
    · refine law2 (B := fun m => F_MD_count (sh0 W H) m 1185 x1) (v := mm.1 (s + 1) x1.toNatClampNeg) (m1 := mm) (m2 := mI mm 1185 11 0) ?_ ?_ (PB_11 h)
      · unfold F_OB_count
        have q := i32_cl hx.1
        rw [if_neg k5, if_neg (by rw [wi_0, e0, e4]; omega), zoS_h sh_0, zob_h h5, zoS_h (sh_s0 hs), zob_h (rf_s0 hR hs), zoS_h (sh_s1 hs), if_neg (by rw [i32_lt, e0]; omega)]
      · show F_MD_count (sh0 W H) mm 1185 x1 = _
        unfold F_MD_count
        rcases (show x1.toInt = 0 ∨ x1.toInt = 1 ∨ x1.toInt = 2 ∨ x1.toInt = 3 ∨ x1.toInt = 4 by omega) with e | e | e | e | e
        · obtain rfl : x1 = 0 := i32_ext e
          rw [zoS_h sh_1185, zoL_e, if_pos rfl, zoS_h sh_1185, zob_h (rf_1185_4 hR1), zoS_h (sh_m0 hM), o, show (0 : Int32).toNatClampNeg = 0 from rfl, hc 0 (by decide)]
        · obtain rfl : x1 = 1 := i32_ext e
          rw [zoS_h sh_1185, zoL_e, if_neg (by decide), if_pos rfl, zoS_h sh_1185, zob_h (rf_1185_4 hR1), zoS_h (sh_m0 hM), o, show (1 : Int32).toNatClampNeg = 1 from rfl, hc 1 (by decide)]
        · obtain rfl : x1 = 2 := i32_ext e
          rw [zoS_h sh_1185, zoL_e, if_neg (by decide), if_neg (by decide), if_pos rfl, zoS_h sh_1185, zob_h (rf_1185_4 hR1), zoS_h (sh_m0 hM), o, show (2 : Int32).toNatClampNeg = 2 from rfl, hc 2 (by decide)]
        · obtain rfl : x1 = 3 := i32_ext e
          rw [zoS_h sh_1185, zoL_e, if_neg (by decide), if_neg (by decide), if_neg (by decide), if_pos rfl, zoS_h sh_1185, zob_h (rf_1185_4 hR1), zoS_h (sh_m0 hM), o, show (3 : Int32).toNatClampNeg = 3 from rfl, hc 3 (by decide)]
        · obtain rfl : x1 = 4 := i32_ext e
          rw [zoS_h sh_1185, zoL_e, if_neg (by decide), if_neg (by decide), if_neg (by decide), if_neg (by decide), if_pos rfl, zoS_h sh_1185, zob_h (rf_1185_4 hR1), zoS_h (sh_m0 hM), o, show (4 : Int32).toNatClampNeg = 4 from rfl, hc 4 (by decide)]
    · have ne : ∀ (k : Int32) (K : Int), k.toInt = K → 0 ≤ K → K ≤ 4 → ¬ x1 = k := fun k K hk h1 h2 e => hx (by rw [e, hk]; exact ⟨h1, h2⟩)
      refine law2 (B := fun m => F_MD_count (sh0 W H) m 1185 x1) (v := -1) (m1 := mm) (m2 := mI mm 1185 11 0) ?_ ?_ (PB_11 h)
      · unfold F_OB_count
        rw [if_neg k5, if_pos (by rw [wi_0, e0, e4]; omega)]
      · show F_MD_count (sh0 W H) mm 1185 x1 = _
        unfold F_MD_count
        rw [zoS_h sh_1185, zoL_e, if_neg (ne 0 0 rfl (by decide) (by decide)), if_neg (ne 1 1 rfl (by decide) (by decide)), if_neg (ne 2 2 rfl (by decide) (by decide)), if_neg (ne 3 3 rfl (by decide) (by decide)), if_neg (ne 4 4 rfl (by decide) (by decide)), if_neg k5]
/-- a number's byte, and its four on a tape -/
def bt (x k : Int32) : Int32 := vp_nar .byte ((x >>> (k &&& 31)).toInt8.toInt32)
def w4 (t : Nat → Int32) (p : Nat) (x : Int32) : Nat → Int32 := upd (upd (upd (upd t p (bt x 24)) (p + 1) (bt x 16)) (p + 2) (bt x 8)) (p + 3) (bt x 0)
theorem bt_r (x k : Int32) : -128 ≤ (bt x k).toInt ∧ (bt x k).toInt ≤ 127 := by
  unfold bt
  generalize ((x >>> (k &&& 31)).toInt8.toInt32) = y
  show -128 ≤ (y.toInt8.toInt32).toInt ∧ (y.toInt8.toInt32).toInt ≤ 127
  rw [Int8.toInt_toInt32]
  have a := Int8.le_toInt y.toInt8
  have b := Int8.toInt_lt y.toInt8
  omega
theorem w4_B {t : Nat → Int32} {p : Nat} {x : Int32} (h : btB t 65536) : btB (w4 t p x) 65536 := by
  intro j hj
  unfold w4
  by_cases e3 : j = p + 3
  · rw [e3, upd_at]; exact bt_r x 0
  by_cases e2 : j = p + 2
  · rw [upd_ne e3, e2, upd_at]; exact bt_r x 8
  by_cases e1 : j = p + 1
  · rw [upd_ne e3, upd_ne e2, e1, upd_at]; exact bt_r x 16
  by_cases e0 : j = p
  · rw [upd_ne e3, upd_ne e2, upd_ne e1, e0, upd_at]; exact bt_r x 24
  rw [upd_ne e3, upd_ne e2, upd_ne e1, upd_ne e0]
  exact h j hj
theorem mI_a {m : zMem} {k j : Nat} {v : Int32} : (mI m k j v).1 k = upd (m.1 k) j v := by rw [mI_sI, sI_at]
theorem nI_p1 (p : Nat) : nI p + 1 = nI (p + 1) := (Int32.ofNat_add p 1).symm
/-- what four bytes on a tape leave: o the object, t its tape -/
def tpF (o t p : Nat) (x : Int32) (m m' : zMem) : Prop := m'.2 = m.2 ∧ m'.1 t = w4 (m.1 t) p x ∧ m'.1 o 3 = nI (p + 4) ∧ (∀ c, c ≠ 3 → m'.1 o c = m.1 o c) ∧ ∀ a, a ≠ o → a ≠ t → m'.1 a = m.1 a
theorem tpF_m {o t p : Nat} {x : Int32} {m : zMem} (hot : o ≠ t) : tpF o t p x m (mI (mI (mI (mI (mI (mI (mI (mI m t p (bt x 24)) o 3 (nI (p + 1))) t (p + 1) (bt x 16)) o 3 (nI (p + 1 + 1))) t (p + 1 + 1) (bt x 8)) o 3 (nI (p + 1 + 1 + 1))) t (p + 1 + 1 + 1) (bt x 0)) o 3 (nI (p + 1 + 1 + 1 + 1))) := by
  refine ⟨rfl, ?_, ?_, fun c hc => ?_, fun a h1 h2 => ?_⟩
  · rw [mI_o (Ne.symm hot), mI_a, mI_o (Ne.symm hot), mI_a, mI_o (Ne.symm hot), mI_a, mI_o (Ne.symm hot), mI_a]
    rfl
  · rw [mI_v, if_pos rfl, if_pos rfl]
  · rw [mI_v, if_pos rfl, if_neg hc, mI_o hot, mI_v, if_pos rfl, if_neg hc, mI_o hot, mI_v, if_pos rfl, if_neg hc, mI_o hot, mI_v, if_pos rfl, if_neg hc, mI_o hot]
  · rw [mI_o h1, mI_o h2, mI_o h1, mI_o h2, mI_o h1, mI_o h2, mI_o h1, mI_o h2]
theorem e_tn1 {m : zMem} {p fu : Nat} {x v : Int32} (hR : RF m.2.2) (hv : ¬ v < 0) (h3 : m.1 0 3 = nI p) (hp : p < 65536) : L_OB_tapeNumber_3 (sh0 W H) (fu + 1) 0 x v m = L_OB_tapeNumber_3 (sh0 W H) fu 0 x (v + (-8)) (mI (mI m 1 p (bt x v)) 0 3 (nI (p + 1))) := by
  conv => lhs; unfold L_OB_tapeNumber_3
  rw [if_neg hv, zoS_h sh_0, zob_h (rf_0_2 hR), zoS_h sh_0, zoL_e, zoL_e, zoS_h sh_1, h3, if_neg (by rw [nI_cl (by omega)]; exact fun q => q.elim (nI_pos (by omega)) (by omega)), zoL_e, zoS_h sh_0, zoL_e, zoS_h sh_0, zoL_e, nI_cl (by omega), mI_o (by decide), h3, nI_p1]
  rfl
theorem e_tn {m : zMem} {p : Nat} {x : Int32} (hR : RF m.2.2) (h3 : m.1 0 3 = nI p) (hp : p + 4 ≤ 65536) : zok (F_OB_tapeNumber (sh0 W H) m 0 x) (tpF 0 1 p x m) := by
  unfold F_OB_tapeNumber
  rw [show zfuel = 999995 + 1 + 1 + 1 + 1 + 1 from nrfl rfl, e_tn1 hR (by decide) h3 (by omega), show (24 : Int32) + (-8) = 16 from rfl, e_tn1 (m := (mI (mI m 1 p (bt x 24)) 0 3 (nI (p + 1)))) hR (by decide) (by rw [mI_v, if_pos rfl, if_pos rfl]) (by omega), show (16 : Int32) + (-8) = 8 from rfl, e_tn1 (m := (mI (mI (mI (mI m 1 p (bt x 24)) 0 3 (nI (p + 1))) 1 (p + 1) (bt x 16)) 0 3 (nI (p + 1 + 1)))) hR (by decide) (by rw [mI_v, if_pos rfl, if_pos rfl]) (by omega), show (8 : Int32) + (-8) = 0 from rfl, e_tn1 (m := (mI (mI (mI (mI (mI (mI m 1 p (bt x 24)) 0 3 (nI (p + 1))) 1 (p + 1) (bt x 16)) 0 3 (nI (p + 1 + 1))) 1 (p + 1 + 1) (bt x 8)) 0 3 (nI (p + 1 + 1 + 1)))) hR (by decide) (by rw [mI_v, if_pos rfl, if_pos rfl]) (by omega)]
  rw [L_OB_tapeNumber_3, if_pos (by decide)]
  exact zok_s (tpF_m (by decide))
theorem e_mn1 {m : zMem} {p fu : Nat} {x v : Int32} (hR : RF m.2.2) (hv : ¬ v < 0) (h3 : m.1 1185 3 = nI p) (hp : p < 65536) : L_MD_feedOne_3 (sh0 W H) (fu + 1) 1185 x v m = L_MD_feedOne_3 (sh0 W H) fu 1185 x (v + (-8)) (mI (mI m 1186 p (bt x v)) 1185 3 (nI (p + 1))) := by
  conv => lhs; unfold L_MD_feedOne_3
  rw [if_neg hv, zoS_h sh_1185, zob_h (rf_1185_2 hR), zoS_h sh_1185, zoL_e, zoL_e, zoS_h sh_1186, h3, if_neg (by rw [nI_cl (by omega)]; exact fun q => q.elim (nI_pos (by omega)) (by omega)), zoL_e, zoS_h sh_1185, zoL_e, zoS_h sh_1185, zoL_e, nI_cl (by omega), mI_o (by decide), h3, nI_p1]
  rfl
theorem e_mn {m : zMem} {p : Nat} {x : Int32} (hR : RF m.2.2) (h3 : m.1 1185 3 = nI p) (hp : p + 4 ≤ 65536) : zok (F_MD_feedOne (sh0 W H) m 1185 x) (tpF 1185 1186 p x m) := by
  unfold F_MD_feedOne
  rw [show zfuel = 999995 + 1 + 1 + 1 + 1 + 1 from nrfl rfl, e_mn1 hR (by decide) h3 (by omega), show (24 : Int32) + (-8) = 16 from rfl, e_mn1 (m := (mI (mI m 1186 p (bt x 24)) 1185 3 (nI (p + 1)))) hR (by decide) (by rw [mI_v, if_pos rfl, if_pos rfl]) (by omega), show (16 : Int32) + (-8) = 8 from rfl, e_mn1 (m := (mI (mI (mI (mI m 1186 p (bt x 24)) 1185 3 (nI (p + 1))) 1186 (p + 1) (bt x 16)) 1185 3 (nI (p + 1 + 1)))) hR (by decide) (by rw [mI_v, if_pos rfl, if_pos rfl]) (by omega), show (8 : Int32) + (-8) = 0 from rfl, e_mn1 (m := (mI (mI (mI (mI (mI (mI m 1186 p (bt x 24)) 1185 3 (nI (p + 1))) 1186 (p + 1) (bt x 16)) 1185 3 (nI (p + 1 + 1))) 1186 (p + 1 + 1) (bt x 8)) 1185 3 (nI (p + 1 + 1 + 1)))) hR (by decide) (by rw [mI_v, if_pos rfl, if_pos rfl]) (by omega)]
  rw [L_MD_feedOne_3, if_pos (by decide)]
  exact zok_s (tpF_m (by decide))
def w20 (t : Nat → Int32) (p : Nat) (x1 x2 x3 x4 x5 : Int32) : Nat → Int32 := w4 (w4 (w4 (w4 (w4 t p x1) (p + 4) x2) (p + 4 + 4) x3) (p + 4 + 4 + 4) x4) (p + 4 + 4 + 4 + 4) x5
def fdF (o t p : Nat) (x1 x2 x3 x4 x5 : Int32) (m m' : zMem) : Prop := m'.2 = m.2 ∧ m'.1 t = w20 (m.1 t) p x1 x2 x3 x4 x5 ∧ m'.1 o 3 = nI (p + 20) ∧ (∀ c, c ≠ 3 → m'.1 o c = m.1 o c) ∧ ∀ a, a ≠ o → a ≠ t → m'.1 a = m.1 a
theorem fdF_5 {o t p : Nat} {x1 x2 x3 x4 x5 : Int32} {m m1 m2 m3 m4 m5 : zMem} (h1 : tpF o t p x1 m m1) (h2 : tpF o t (p + 4) x2 m1 m2) (h3 : tpF o t (p + 4 + 4) x3 m2 m3) (h4 : tpF o t (p + 4 + 4 + 4) x4 m3 m4) (h5 : tpF o t (p + 4 + 4 + 4 + 4) x5 m4 m5) : fdF o t p x1 x2 x3 x4 x5 m m5 := by
  refine ⟨by rw [h5.1, h4.1, h3.1, h2.1, h1.1], by rw [h5.2.1, h4.2.1, h3.2.1, h2.2.1, h1.2.1]; rfl, h5.2.2.1, fun c hc => ?_, fun a a1 a2 => ?_⟩
  · rw [h5.2.2.2.1 c hc, h4.2.2.2.1 c hc, h3.2.2.2.1 c hc, h2.2.2.2.1 c hc, h1.2.2.2.1 c hc]
  · rw [h5.2.2.2.2 a a1 a2, h4.2.2.2.2 a a1 a2, h3.2.2.2.2 a a1 a2, h2.2.2.2.2 a a1 a2, h1.2.2.2.2 a a1 a2]
theorem s_feed {x1 x2 x3 x4 x5 : Int32} (h : PB W H mm) : zok (lawS0 (sh0 W H) mm x1 x2 x3 x4 x5) (fun mq => PB W H mq ∧ agP mm mq) := by
  have hR := h.1
  obtain ⟨t1, ⟨n, hn, t2, t3⟩, t4⟩ := h.2.2.1
  have q20 : nI n + 20 = nI (n + 20) := (Int32.ofNat_add n 20).symm
  have qc : (nI n + 20 ≤ 65536) ↔ n + 20 ≤ 65536 := by
    rw [q20, show (65536 : Int32) = nI 65536 from rfl]
    exact nI_leD (by omega) (by decide)
  unfold lawS0
  by_cases hx : n + 20 ≤ 65536
  · have hA : zok (F_OB_feed (sh0 W H) mm 0 x1 x2 x3 x4 x5) (fun z => z.1 = 1 ∧ fdF 0 1 n x1 x2 x3 x4 x5 mm z.2) := by
      unfold F_OB_feed
      rw [zoS_h sh_0, t2, if_pos (qc.mpr hx), zoS_h sh_0]
      refine zok_b (e_tn hR t2 (by omega)) (fun m1 k1 => ?_)
      rw [zoS_h sh_0]
      refine zok_b (e_tn (by rw [k1.1]; exact hR) k1.2.2.1 (by omega)) (fun m2 k2 => ?_)
      rw [zoS_h sh_0]
      refine zok_b (e_tn (by rw [k2.1, k1.1]; exact hR) k2.2.2.1 (by omega)) (fun m3 k3 => ?_)
      rw [zoS_h sh_0]
      refine zok_b (e_tn (by rw [k3.1, k2.1, k1.1]; exact hR) k3.2.2.1 (by omega)) (fun m4 k4 => ?_)
      rw [zoS_h sh_0]
      refine zok_b (e_tn (by rw [k4.1, k3.1, k2.1, k1.1]; exact hR) k4.2.2.1 (by omega)) (fun m5 k5 => ?_)
      exact zok_s ⟨rfl, fdF_5 k1 k2 k3 k4 k5⟩
    obtain ⟨⟨v1, ma⟩, a1, a2, a3⟩ := hA
    simp only at a2 a3
    subst a2
    obtain ⟨b1, b2, b3, b4, b5⟩ := a3
    have hRa : RF (mI ma 1185 11 0).2.2 := by
      show RF ma.2.2
      rw [b1]
      exact hR
    have t3' : (mI ma 1185 11 0).1 1185 3 = nI n := by rw [mI_v, if_pos rfl, if_neg (by decide), b5 1185 (by decide) (by decide), t3]
    have hB : zok (F_MD_feed (sh0 W H) ma 1185 x1 x2 x3 x4 x5) (fun z => z.1 = 1 ∧ fdF 1185 1186 n x1 x2 x3 x4 x5 (mI ma 1185 11 0) z.2) := by
      unfold F_MD_feed
      rw [zoS_h sh_1185, zoL_e, zoS_h sh_1185, t3', if_pos (qc.mpr hx), zoS_h sh_1185]
      refine zok_b (e_mn hRa t3' (by omega)) (fun m1 k1 => ?_)
      rw [zoS_h sh_1185]
      refine zok_b (e_mn (by rw [k1.1]; exact hRa) k1.2.2.1 (by omega)) (fun m2 k2 => ?_)
      rw [zoS_h sh_1185]
      refine zok_b (e_mn (by rw [k2.1, k1.1]; exact hRa) k2.2.2.1 (by omega)) (fun m3 k3 => ?_)
      rw [zoS_h sh_1185]
      refine zok_b (e_mn (by rw [k3.1, k2.1, k1.1]; exact hRa) k3.2.2.1 (by omega)) (fun m4 k4 => ?_)
      rw [zoS_h sh_1185]
      refine zok_b (e_mn (by rw [k4.1, k3.1, k2.1, k1.1]; exact hRa) k4.2.2.1 (by omega)) (fun m5 k5 => ?_)
      exact zok_s ⟨rfl, fdF_5 k1 k2 k3 k4 k5⟩
    obtain ⟨⟨v2, mb⟩, c1, c2, c3⟩ := hB
    simp only at c2 c3
    subst c2
    obtain ⟨d1, d2, d3, d4, d5⟩ := c3
    refine law2 (B := fun m => F_MD_feed (sh0 W H) m 1185 x1 x2 x3 x4 x5) a1 c1 ?_
    have o : ∀ a, a ≠ 0 → a ≠ 1 → a ≠ 1185 → a ≠ 1186 → mb.1 a = mm.1 a := fun a e0 e1 e2 e3 => by rw [d5 a e2 e3, mI_o e2, b5 a e0 e1]
    have c : ∀ c, c ≠ 11 → c ≠ 3 → mb.1 1185 c = mm.1 1185 c := fun c e1 e2 => by rw [d4 c e2, mI_v, if_pos rfl, if_neg e1, b5 1185 (by decide) (by decide)]
    have d : ∀ c, c ≠ 3 → mb.1 0 c = mm.1 0 c := fun c e1 => by rw [d5 0 (by decide) (by decide), mI_o (by decide), b4 c e1]
    have u1 : mb.1 1 = w20 (mm.1 1) n x1 x2 x3 x4 x5 := by rw [d5 1 (by decide) (by decide), mI_o (by decide), b2]
    refine PB_A h (by rw [d1]; exact b1) (fun a a0 a1 a2 a3 _ => o a a0 a2 a1 a3) (fun k hk => ⟨d k (by omega), c k (by omega) (by omega)⟩) (c 10 (by decide) (by decide)) (c 15 (by decide) (by decide)) ⟨?_, ⟨n + 20, hx, ?_, d3⟩, ?_⟩ ?_
    · rw [u1, d2, mI_o (by decide), b5 1186 (by decide) (by decide), t1]
    · rw [d5 0 (by decide) (by decide), mI_o (by decide), b3]
    · rw [u1]
      exact w4_B (w4_B (w4_B (w4_B (w4_B t4))))
    · have hO := h.2.2.2.2.2.1
      unfold vO at *
      rw [o 3 (by decide) (by decide) (by decide) (by decide), d 10 (by decide), d 11 (by decide), o 1281 (by decide) (by decide) (by decide) (by decide), o 5 (by decide) (by decide) (by decide) (by decide), o 6 (by decide) (by decide) (by decide) (by decide), o 1278 (by decide) (by decide) (by decide) (by decide), o 1280 (by decide) (by decide) (by decide) (by decide), c 12 (by decide) (by decide), c 13 (by decide) (by decide), c 19 (by decide) (by decide)]
      exact hO
  · refine law2 (B := fun m => F_MD_feed (sh0 W H) m 1185 x1 x2 x3 x4 x5) (v := 0) (m1 := mm) (m2 := mI mm 1185 11 0) ?_ ?_ (PB_11 h)
    · unfold F_OB_feed
      rw [zoS_h sh_0, t2, if_neg (fun q => hx (qc.mp q))]
    · show F_MD_feed (sh0 W H) mm 1185 x1 x2 x3 x4 x5 = _
      unfold F_MD_feed
      have t3' : (mI mm 1185 11 0).1 1185 3 = nI n := by rw [mI_v, if_pos rfl, if_neg (by decide), t3]
      rw [zoS_h sh_1185, zoL_e, zoS_h sh_1185, t3', if_neg (fun q => hx (qc.mp q))]
end ZFE
