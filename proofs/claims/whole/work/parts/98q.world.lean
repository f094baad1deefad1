/-! PURE: world -/
section ZWP
variable {W H : Nat} {mm : zMem}
theorem vS_o {m z : zMem} (h : vS m) (h5 : z.2.2 0 5 = m.2.2 0 5) (F : ∀ b, 11 ≤ b → b < 1121 → z.1 b = m.1 b) (G : ∀ q, q < 30 → z.1 (1187 + q) = m.1 (1187 + q)) (ht : z.1 1185 10 = m.1 1185 10) : vS z := by
  obtain ⟨s, hs, h5', hsc, htm, hpl⟩ := h
  obtain ⟨l1, l2, l3⟩ := s_lt hs
  have hcn : cn (fun a => z.1 (1187 + a)) 3 = cn (fun a => m.1 (1187 + a)) 3 := by
    unfold cn
    exact congrArg Int32.toNatClampNeg (congrFun (G 0 (by decide)) 3)
  have h48 := (hsc.1.1 3 (by decide)).2.2
  rw [lim_v.2.2.2.1] at h48
  refine ⟨s, hs, by rw [h5]; exact h5', Rsc_c (fun b b1 b2 => F b (by omega) (by omega)) (fun c _ => congrFun (G 0 (by decide)) c) (fun j _ j2 q _ => congrFun (G j j2) q) hsc, by rw [F s (by omega) (by omega), ht]; exact htm, fun hp => ?_⟩
  rw [F s (by omega) (by omega)] at hp
  rw [hcn]
  exact Plc_c h48 (fun b b1 b2 => F b (by omega) (by omega)) G (hpl hp)
/-- nodes in the reference's rows -/
theorem par_B {s n : Nat} (hcn : cn (fun a => mm.1 (1187 + a)) 3 = n) (hsc : Rsc mm.1 s (fun a => mm.1 (1187 + a))) : Rnd mm.1 s 1187 n ∧ parB (mm.1 (1187 + 15)) n ∧ trnB mm.1 1187 n := by
  refine ⟨fun i hi => (hsc.2.1 i (by rw [hcn]; exact hi)).1, fun i hi => ?_, fun j hj => ?_⟩
  · have w := (hsc.2.1 i (by rw [hcn]; exact hi)).2
    exact ⟨w.1, w.2.1⟩
  · have w := (hsc.2.1 (j / 3) (by rw [hcn]; omega)).2.2.2.2.2.2 (j % 3) (by omega)
    dsimp only at w
    rw [show 3 * (j / 3) + j % 3 = j by omega] at w
    exact ⟨w.2.2.1, w.2.2.2.1⟩
/-- the class places its nodes -/
theorem w_place {s n : Nat} (h : PB W H mm) (hs : gS s) (h5 : mm.2.2 0 5 = some s) (hn : n ≤ 48) (hc : mm.1 (s + 1) 3 = nI n) (hcn : cn (fun a => mm.1 (1187 + a)) 3 = n) (hsc : Rsc mm.1 s (fun a => mm.1 (1187 + a))) (htm : mm.1 s 8 = mm.1 1185 10) (hpl : ¬ mm.1 s 9 = 0 → Plc mm.1 s 1187 n) : zok (F_XScene_placeNodes (sh0 W H) mm s) (fun m' => m'.2 = mm.2 ∧ (∀ k c, ¬ plS s k c → ¬ (k = s ∧ c = 9) → m'.1 k c = mm.1 k c) ∧ (∀ a, (a < 11 ∨ 1121 ≤ a) → m'.1 a = mm.1 a) ∧ fT s mm.1 m'.1 ∧ (∀ a, ¬ (s ≤ a ∧ a < s + 370) → m'.1 a = mm.1 a) ∧ vS m' ∧ Plc m'.1 s 1187 n) := by
  obtain ⟨q1, q2, q3⟩ := par_B hcn hsc
  obtain ⟨l1, l2, l3⟩ := s_lt hs
  have hpn := e_placeNodes (W := W) (H := H) hs (Or.inl rfl) hn h.1 hc q1 q2 hpl
  refine zok_w hpn (fun m' hm => ?_)
  obtain ⟨m1, ⟨p1, p2⟩, rfl, p3⟩ := hm
  have hz2 : (mI m1 s 9 1).2 = mm.2 := p1
  have f : ∀ k c, ¬ plS s k c → ¬ (k = s ∧ c = 9) → (mI m1 s 9 1).1 k c = mm.1 k c := fun k c k1 k2 => by
    rw [mI_v]
    by_cases e : k = s
    · rw [if_pos e, if_neg (fun q => k2 ⟨e, q⟩), p2 k c k1]
    · rw [if_neg e, p2 k c k1]
  have f9 : (mI m1 s 9 1).1 s 9 = 1 := by rw [mI_v, if_pos rfl, if_pos rfl]
  generalize mI m1 s 9 1 = z at hz2 f f9 p3
  have fo : ∀ a, ¬ (s ≤ a ∧ a < s + 370) → z.1 a = mm.1 a := fun a ha => funext fun c => f a c (by rintro (e | ⟨j, j1, e⟩ | ⟨_, j, j1, e⟩) <;> (try unfold ndA at e) <;> omega) (by omega)
  have fl : ∀ a, (a < 11 ∨ 1121 ≤ a) → z.1 a = mm.1 a := fun a ha => fo a (by omega)
  have FT : fT s mm.1 z.1 := fun b hb => funext fun c => f b c (by rintro (e | ⟨j, j1, e⟩ | ⟨_, j, j1, e⟩) <;> (try unfold ndA at e) <;> omega) (by omega)
  refine ⟨hz2, f, fl, FT, fo, ⟨s, hs, by rw [hz2]; exact h5, ⟨RscT_c FT ⟨fun c _ => congrFun (fl (1187 + 0) (by omega)) c, fun j _ q _ => congrFun (fl (1187 + j) (by omega)) q⟩ hsc.1, RscN_c (by rw [hcn]; exact hn) (fun i hi => ⟨fun c c3 => f _ c (plS_nd hs hi (by omega)) (by unfold ndA; omega), funext fun c => f _ c (plS_nn hi) (by unfold ndA; omega)⟩) (congrFun (fl (1187 + 0) (by omega)) 2) (congrFun (fl (1187 + 0) (by omega)) 3) (fun j _ _ q _ => congrFun (fl (1187 + j) (by omega)) q) hsc.2.1, Rcam_d (funext fun c => f _ c (by rintro (e | ⟨j, j1, e⟩ | ⟨_, j, j1, e⟩) <;> (try unfold ndA at e) <;> omega) (by omega)) (fun c _ => ⟨congrFun (fl (1187 + 27) (by omega)) c, congrFun (fl (1187 + 28) (by omega)) c⟩) (congrFun (fl (1187 + 0) (by omega)) 34) hsc.2.2.1, Rlmp_d (funext fun c => f _ c (by rintro (e | ⟨j, j1, e⟩ | ⟨_, j, j1, e⟩) <;> (try unfold ndA at e) <;> omega) (by omega)) (fun c _ => congrFun (fl (1187 + 29) (by omega)) c) (congrFun (fl (1187 + 0) (by omega)) 35) hsc.2.2.2⟩, ?_, fun _ => ?_⟩, p3⟩
  · rw [f s 8 plS_0 (by omega), fl 1185 (by omega)]
    exact htm
  · have hcn' : cn (fun a => z.1 (1187 + a)) 3 = n := by
      rw [← hcn]
      unfold cn
      exact congrArg Int32.toNatClampNeg (congrFun (fl (1187 + 0) (by omega)) 3)
    rw [hcn']
    exact p3
theorem md_w1 {m : zMem} {α : Type} {A B : Option α} : (if (mI m 1185 11 1).1 1185 11 = 0 then A else B) = B := if_neg (by rw [mI_v, if_pos rfl, if_pos rfl]; decide)
set_option maxHeartbeats 4000000 in
theorem md_wE {n : Nat} {x1 x2 x3 : Int32} (hR : RF mm.2.2) (hn : n ≤ 48) (hc' : mm.1 1187 3 = nI n) (hx : ¬ ((0 ≤ x1.toInt ∧ x1.toInt < n) ∧ (0 ≤ x2.toInt ∧ x2.toInt ≤ 2) ∧ (0 ≤ x3.toInt ∧ x3.toInt ≤ 3))) : F_MD_world (sh0 W H) mm 1185 x1 x2 x3 = some (0, mI mm 1185 11 1) := by
  have hM : gM 1187 := Or.inl rfl
  have e0 : (0 : Int32).toInt = 0 := rfl
  have e2 : (2 : Int32).toInt = 2 := rfl
  have e3 : (3 : Int32).toInt = 3 := rfl
  have hnn : (nI n).toInt = n := nI_toInt (by omega)
  unfold F_MD_world
  by_cases k0 : x1 < 0
  · rw [if_pos k0, zoS_h sh_1185, zoL_e, zoS_h sh_1185, md_w1]
  rw [if_neg k0, zoS_h sh_1185, zob_h (rf_1185_4 hR), zoS_h (sh_m0 hM), hc']
  by_cases k1 : nI n ≤ x1
  · rw [if_pos k1, zoS_h sh_1185, zoL_e, zoS_h sh_1185, md_w1]
  rw [if_neg k1]
  by_cases k2 : x2 < 0
  · rw [if_pos k2, zoS_h sh_1185, zoL_e, zoS_h sh_1185, md_w1]
  rw [if_neg k2]
  by_cases k3 : 2 < x2
  · rw [if_pos k3, zoS_h sh_1185, zoL_e, zoS_h sh_1185, md_w1]
  rw [if_neg k3]
  by_cases k4 : x3 < 0
  · rw [if_pos k4, zoS_h sh_1185, zoL_e, zoS_h sh_1185, md_w1]
  rw [if_neg k4]
  rw [i32_lt, e0] at k0 k2 k4
  rw [i32_le, hnn] at k1
  rw [i32_lt, e2] at k3
  rw [if_neg (by rw [i32_le, e3]; exact fun q => hx (by omega)), zoS_h sh_1185, zoL_e, zoS_h sh_1185, md_w1]
set_option maxHeartbeats 4000000 in
theorem md_wK {n i a b : Nat} (hR : RF mm.2.2) (hn : n ≤ 48) (hc' : mm.1 1187 3 = nI n) (hi : i < n) (ha : a < 3) (hb : b < 4) (ht : trnB mm.1 1187 n) (hp : parB (mm.1 (1187 + 15)) n) : zok (F_MD_world (sh0 W H) mm 1185 (nI i) (nI a) (nI b)) (fun z => z.1 = (wW mm.1 1187 i (4 * a + b)).toInt32 ∧ wfr (mR (mI mm 1185 11 0) 1285 5 (some 1187)) z.2) := by
  have hM : gM 1187 := Or.inl rfl
  have e0 : (0 : Int32).toInt = 0 := rfl
  have e2 : (2 : Int32).toInt = 2 := rfl
  have e3 : (3 : Int32).toInt = 3 := rfl
  have hnn : (nI n).toInt = n := nI_toInt (by omega)
  have hii : (nI i).toInt = i := nI_toInt (by omega)
  have haa : (nI a).toInt = a := nI_toInt (by omega)
  have hbb : (nI b).toInt = b := nI_toInt (by omega)
  have hR1 : RF (mI mm 1185 11 0).2.2 := hR
  have hR2 : RF (mR (mI mm 1185 11 0) 1285 5 (some 1187)).2.2 := RF_u hR1 (by unfold rMut; omega)
  have hG : ∀ q, q < 30 → (mR (mI mm 1185 11 0) 1285 5 (some 1187)).1 (1187 + q) = mm.1 (1187 + q) := fun q hq => by rw [mR_1, mI_o (by omega)]
  have hw := e_toWorld (W := W) (H := H) (mm := mR (mI mm 1185 11 0) 1285 5 (some 1187)) (r := 1187) (nd := i) (n := n) hR2 mR_e hM hi hn (fun j hj => by rw [hG 18 (by decide)]; exact ht j hj) (by rw [hG 15 (by decide)]; exact hp)
  have e4 : 4 * nI a + nI b = nI (4 * a + b) := by
    rw [show (4 : Int32) = nI 4 from rfl, nI_mul]
    exact (Int32.ofNat_add _ _).symm
  unfold F_MD_world
  rw [if_neg (by rw [i32_lt, e0]; omega), zoS_h sh_1185, zob_h (rf_1185_4 hR), zoS_h (sh_m0 hM), hc', if_neg (by rw [i32_le, hnn]; omega), if_neg (by rw [i32_lt, e0]; omega), if_neg (by rw [i32_lt, e2]; omega), if_neg (by rw [i32_lt, e0]; omega), if_pos (by rw [i32_le, e3]; omega), zoS_h sh_1185, zoL_e, zoS_h sh_1185, if_pos (by rw [mI_v, if_pos rfl, if_pos rfl]), zoS_h sh_1185, zob_h (rf_1185_8 hR1), zoS_h sh_1185, zob_h (rf_1185_4 hR1), zoS_h sh_1285, zoL_e, zoS_h sh_1185, zob_h (rf_1185_8 hR2), zoS_h sh_1285]
  refine zok_b hw (fun p hp2 => ?_)
  obtain ⟨p1, p2⟩ := hp2
  have hR3 : RF p.2.2 := by rw [p1.2.1]; exact hR2
  rw [zoS_h sh_1185, zob_h (rf_1185_8 hR3), zoS_h sh_1285, zob_h (rf_1285_14 hR3), zoL_e, zoS_h sh_1286, e4, nI_ix (by omega) (by decide), nI_cl (by omega)]
  refine zok_s ⟨?_, p1⟩
  show (p.2.1 1286 (4 * a + b)).toInt32 = _
  rw [p2 _ (by omega), wW_c hG]
set_option maxHeartbeats 4000000 in
theorem s_world {x1 x2 x3 x4 x5 : Int32} (h : PB W H mm) : zok (lawS12 (sh0 W H) mm x1 x2 x3 x4 x5) (fun mq => PB W H mq ∧ agP mm mq) := by
  have hR := h.1
  have hM : gM 1187 := Or.inl rfl
  obtain ⟨s, n, hs, h5, hn, hc, hc', hcn, hsc, htm, hpl⟩ := vS_k h
  obtain ⟨l1, l2, l3⟩ := s_lt hs
  have e0 : (0 : Int32).toInt = 0 := rfl
  have e2 : (2 : Int32).toInt = 2 := rfl
  have e3 : (3 : Int32).toInt = 3 := rfl
  have hnn : (nI n).toInt = n := nI_toInt (by omega)
  have hh := e_has (W := W) (H := H) (x := x1) hR hs hc hn
  unfold lawS12
  by_cases hx : (0 ≤ x1.toInt ∧ x1.toInt < n) ∧ (0 ≤ x2.toInt ∧ x2.toInt ≤ 2) ∧ (0 ≤ x3.toInt ∧ x3.toInt ≤ 3)
  · obtain ⟨hx1, hx2, hx3⟩ := hx
    obtain ⟨i, hi, rfl⟩ : ∃ i, i < n ∧ x1 = nI i := ⟨x1.toNatClampNeg, by have := (i32_cl hx1.1).2; omega, (i32_cl hx1.1).1⟩
    obtain ⟨a, ha, rfl⟩ : ∃ i, i < 3 ∧ x2 = nI i := ⟨x2.toNatClampNeg, by have := (i32_cl hx2.1).2; omega, (i32_cl hx2.1).1⟩
    obtain ⟨b, hb, rfl⟩ : ∃ i, i < 4 ∧ x3 = nI i := ⟨x3.toNatClampNeg, by have := (i32_cl hx3.1).2; omega, (i32_cl hx3.1).1⟩
    have hi48 : i < 48 := by omega
    have e4 : 4 * nI a + nI b = nI (4 * a + b) := by
      rw [show (4 : Int32) = nI 4 from rfl, nI_mul]
      exact (Int32.ofNat_add _ _).symm
    obtain ⟨m1, g1, g2, g3, g4, g5, g6, g7, g8⟩ := w_place h hs h5 hn hc hcn hsc htm hpl
    have hR1 : RF m1.2.2 := by rw [g2]; exact hR
    have k1 : F_OB_world (sh0 W H) mm 0 (nI i) (nI a) (nI b) = some (m1.1 (ndA s i + 2) (4 * a + b), m1) := by
      unfold F_OB_world
      rw [zoS_h sh_0, zob_h h5, zoS_h (sh_s0 hs), hh, if_pos hx1, zob_e, if_neg (show ¬ ((1 : Int32) = 0) by decide), if_neg (by rw [wi_0, e0, e2]; omega), if_neg (by rw [wi_0, e0, e3]; omega), zoS_h sh_0, zob_h h5, zoS_h (sh_s0 hs), zob_h g1, zoS_h sh_0, zob_h (show m1.2.2 0 5 = some s by rw [g2]; exact h5), zoS_h (sh_s0 hs), zob_h (rf_s4 hR1 hs), zoR_h (sh_s21 hs) (by decide), nI_ix hi48 (by decide), nI_cl (by omega), zob_h (rf_nd hR1 hs hi48), zoS_h (sh_ndA hs hi48), zob_h (rf_ndA5 hR1 hs hi48), zoL_e, zoS_h (sh_ndA2 hs hi48), e4, nI_ix (by omega) (by decide), nI_cl (by omega)]
    have k2 : F_LW_world (sh0 W H) mm 0 (nI i) (nI a) (nI b) 1302 = some (0, mL m1 1302 0 (m1.1 (ndA s i + 2) (4 * a + b)).toInt64) := by
      unfold F_LW_world
      rw [zoS_h sh_0, k1, zxX_s, zoL_e, zoS_h sh_1302, if_neg (by decide), zoL_e]
      rfl
    obtain ⟨q1, q2, q3⟩ := par_B hcn hsc
    have hG : ∀ q, q < 30 → (mL m1 1302 0 (m1.1 (ndA s i + 2) (4 * a + b)).toInt64).1 (1187 + q) = mm.1 (1187 + q) := fun q hq => by rw [mL_1, g4 _ (by omega)]
    have hw := md_wK (W := W) (H := H) (mm := mL m1 1302 0 (m1.1 (ndA s i + 2) (4 * a + b)).toInt64) (i := i) (a := a) (b := b) (by rw [mL_R]; exact hR1) hn (by rw [show (1187 : Nat) = 1187 + 0 from rfl, hG 0 (by decide)]; exact hc') hi ha hb (fun j hj => by rw [hG 18 (by decide)]; exact q3 j hj) (by rw [hG 15 (by decide)]; exact q2)
    rw [zob_h k2, zoS_h sh_1185]
    refine zok_b hw (fun z hz => ?_)
    obtain ⟨z1, z2, z3, z4⟩ := hz
    have zf : ∀ k, k ≠ 1292 → k ≠ 1185 → z.2.1 k = m1.1 k := fun k e1 e2 => by rw [z2 k e1, mR_1, mI_o e2, mL_1]
    have zc : ∀ c, c ≠ 11 → z.2.1 1185 c = mm.1 1185 c := fun c hc => by rw [z2 1185 (by decide), mR_1, mI_v, if_pos rfl, if_neg hc, mL_1, g4 1185 (by omega)]
    have z11 : z.2.1 1185 11 = 0 := by rw [z2 1185 (by decide), mR_1, mI_v, if_pos rfl, if_pos rfl]
    have ho : z.2.2.1 1302 0 = (m1.1 (ndA s i + 2) (4 * a + b)).toInt64 := by
      rw [z4 1302 (by decide)]
      show (mL m1 1302 0 (m1.1 (ndA s i + 2) (4 * a + b)).toInt64).2.1 1302 0 = _
      rw [mL_e]
    have hGm : ∀ q, q < 30 → (mL m1 1302 0 (m1.1 (ndA s i + 2) (4 * a + b)).toInt64).1 (1187 + q) = m1.1 (1187 + q) := fun q _ => by rw [mL_1]
    rw [zoS_h sh_1185, zob_h w_thrown, if_pos z11, if_pos rfl, zoS_h sh_1302, if_neg (by decide), if_pos (by
      show lg_cmp (z.2.2.1 1302 0) _ = 0
      rw [ho, z1, wW_c hGm, (g8 i hi).2 _ (by omega)]
      exact lg_self _)]
    refine zok_s (PB_B (s := s) h hs ?_ ?_ ⟨?_, ?_⟩ (fun a a1 a2 a3 a4 => ?_) (fun b hb => ?_) (fun c _ c2 => zc c c2) ?_)
    · show RF z.2.2.2
      rw [z3]
      exact RF_u (m := mI (mL m1 1302 0 (m1.1 (ndA s i + 2) (4 * a + b)).toInt64) 1185 11 0) hR1 (by unfold rMut; omega)
    · show (z.2.2.2 1178 3, z.2.2.2 1121 2, z.2.2.2 1121 14) = _
      rw [z3, mR_ne (by omega), mR_ne (by omega), mR_ne (by omega)]
      show (m1.2.2 1178 3, m1.2.2 1121 2, m1.2.2 1121 14) = _
      rw [g2]
    · show z.2.2.1 1178 = _
      rw [z4 1178 (by decide)]
      show (mL m1 1302 0 (m1.1 (ndA s i + 2) (4 * a + b)).toInt64).2.1 1178 = _
      rw [mL_o (by decide), g2]
    · show z.2.2.1 1284 = _
      rw [z4 1284 (by decide)]
      show (mL m1 1302 0 (m1.1 (ndA s i + 2) (4 * a + b)).toInt64).2.1 1284 = _
      rw [mL_o (by decide), g2]
    · rw [zf a a4 a1, g6 a a2]
    · show z.2.1 b = _
      rw [zf b (by omega) (by omega), g5 b hb]
    · refine vS_o g7 ?_ (fun b b1 b2 => zf b (by omega) (by omega)) (fun q hq => zf _ (by omega) (by omega)) ?_
      · show z.2.2.2 0 5 = _
        rw [z3, mR_ne (by omega)]
        rfl
      · show z.2.1 1185 10 = _
        rw [zc 10 (by decide), g4 1185 (by omega)]
  · have k1 : F_OB_world (sh0 W H) mm 0 x1 x2 x3 = none ∧ T_OB_world (sh0 W H) mm 0 x1 x2 x3 = some mm := by
      unfold F_OB_world T_OB_world
      rw [zoS_h sh_0, zoS_h sh_0, zob_h h5, zob_h h5, zoS_h (sh_s0 hs), zoS_h (sh_s0 hs), hh, zob_e, zob_e]
      by_cases w1 : 0 ≤ x1.toInt ∧ x1.toInt < n
      · rw [if_pos w1, if_neg (show ¬ ((1 : Int32) = 0) by decide), if_neg (show ¬ ((1 : Int32) = 0) by decide)]
        by_cases w2 : sp_OB_within x2 0 2 = 0
        · rw [if_pos w2, if_pos w2]
          exact ⟨rfl, rfl⟩
        · rw [if_neg w2, if_neg w2]
          rw [wi_0, e0, e2] at w2
          have w3 : sp_OB_within x3 0 3 = 0 := by rw [wi_0, e0, e3]; omega
          rw [if_pos w3, if_pos w3]
          exact ⟨rfl, rfl⟩
      · rw [if_neg w1, if_pos rfl, if_pos rfl]
        exact ⟨rfl, rfl⟩
    have k2 : F_LW_world (sh0 W H) mm 0 x1 x2 x3 1302 = some (1, mm) := by
      unfold F_LW_world
      rw [zoS_h sh_0, k1.1, zxX_n, k1.2]
      rfl
    rw [zob_h k2, zoS_h sh_1185, zob_h (md_wE hR hn hc' hx), zoS_h sh_1185, zob_h w_thrown, if_pos (by rw [mI_v, if_pos rfl, if_pos rfl]), if_neg (show ¬ ((1 : Int32) = 0) by decide)]
    have o : ∀ a, a ≠ 1185 → (mI mm 1185 11 1).1 a = mm.1 a := fun a ha => mI_o ha
    have c : ∀ c, c ≠ 11 → (mI mm 1185 11 1).1 1185 c = mm.1 1185 c := fun c hc => by rw [mI_v, if_pos rfl, if_neg hc]
    refine zok_s (PB_A h rfl (fun a _ ha _ _ _ => o a ha) (fun c' hc => ⟨congrFun (o 0 (by decide)) c', c c' (by omega)⟩) (c 10 (by decide)) (c 15 (by decide)) ?_ ?_)
    · have hT := h.2.2.1
      unfold vT at *
      dsimp only
      rw [o 1186 (by decide), o 1 (by decide), o 0 (by decide), c 3 (by decide)]
      exact hT
    · have hO := h.2.2.2.2.2.1
      unfold vO at *
      dsimp only
      rw [o 3 (by decide), o 0 (by decide), o 1281 (by decide), o 5 (by decide), o 6 (by decide), o 1278 (by decide), o 1280 (by decide), c 12 (by decide), c 13 (by decide), c 19 (by decide)]
      exact hO
end ZWP
