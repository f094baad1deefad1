/-! PURE: the law's load keeps what holds -/
section ZLE
variable {W H : Nat} {mm : zMem}
theorem zxX_n {α β : Type} {A : Option β} {K : α → Option β} : zoX (none : Option α) A K = A := nrfl rfl
theorem zxX_s {α β : Type} {x : α} {A : Option β} {K : α → Option β} : zoX (some x) A K = K x := nrfl rfl
theorem mL_1 {m : zMem} {a j : Nat} {v : Int64} : (mL m a j v).1 = m.1 := nrfl rfl
theorem mL_R {m : zMem} {a j : Nat} {v : Int64} : (mL m a j v).2.2 = m.2.2 := nrfl rfl
theorem mL_o {m : zMem} {a j b : Nat} {v : Int64} (h : b ≠ a) : (mL m a j v).2.1 b = m.2.1 b := by rw [mL_sL, sL_ne h]
theorem mL_e {m : zMem} {a j : Nat} {v : Int64} : (mL m a j v).2.1 a j = v := by
  rw [mL_sL, sL_at]
  unfold vp_updL
  exact if_pos rfl
theorem mR_1 {m : zMem} {a j : Nat} {v : Option Nat} : (mR m a j v).1 = m.1 := nrfl rfl
theorem mR_L {m : zMem} {a j : Nat} {v : Option Nat} : (mR m a j v).2.1 = m.2.1 := nrfl rfl
theorem rdB_L {m : zMem} {s n : Nat} : (rdB m s n).2.1 = m.2.1 := nrfl rfl
theorem rdB_Rr {m : zMem} {s n a i : Nat} (h : a ≠ 3) : (rdB m s n).2.2 a i = m.2.2 a i := by
  show (mR (mI (mR m 3 3 (some 1)) 3 4 (nI n)) 3 7 (some s)).2.2 a i = _
  rw [mR_ne (by omega), mI_R, mR_ne (by omega)]
/-- the class's load as the law calls it: a text that is refused -/
theorem w_loadE {n fs : Nat} {e : Nat × Nat} {m' : zMem} (hR : RF mm.2.2) (h3 : mm.1 0 3 = nI n) (hf : F_OB_freeScene (sh0 W H) (mI mm 0 3 0) 0 = some (fs, mI mm 0 3 0)) (h1 : F_XReader_read (sh0 W H) (mI mm 0 3 0) 3 1 (nI n) fs = none) (h2 : T_XReader_read (sh0 W H) (mI mm 0 3 0) 3 1 (nI n) fs = some m') : F_LW_load (sh0 W H) mm 0 1302 = some (1, m') := by
  have hR0 : RF (mI mm 0 3 0).2.2 := hR
  unfold F_LW_load
  rw [zoS_h sh_0]
  have k1 : F_OB_load (sh0 W H) mm 0 = none := by
    unfold F_OB_load
    rw [zoS_h sh_0, zoL_e, h3, zoS_h sh_0, zoL_e, zoS_h sh_0, zob_h hf, zoS_h sh_0, zob_h (rf_0_6 hR0), zoS_h sh_0, zob_h (rf_0_2 hR0), zoS_h sh_3, h1]
    rfl
  have k2 : T_OB_load (sh0 W H) mm 0 = some m' := by
    unfold T_OB_load
    rw [zoS_h sh_0, zoL_e, h3, zoS_h sh_0, zoL_e, zoS_h sh_0, zob_h hf, zoS_h sh_0, zob_h (rf_0_6 hR0), zoS_h sh_0, zob_h (rf_0_2 hR0), zoS_h sh_3, h1, h2, zxX_n]
  rw [k1, zxX_n, k2]
  rfl
/-- a text that is taken -/
theorem w_loadK {n fs : Nat} {m' : zMem} (hR : RF mm.2.2) (hfs : gS fs) (h3 : mm.1 0 3 = nI n) (hf : F_OB_freeScene (sh0 W H) (mI mm 0 3 0) 0 = some (fs, mI mm 0 3 0)) (h1 : F_XReader_read (sh0 W H) (mI mm 0 3 0) 3 1 (nI n) fs = some m') (hR' : RF m'.2.2) : F_LW_load (sh0 W H) mm 0 1302 = some (0, mL (mR m' 0 5 (some fs)) 1302 0 (m'.1 (fs + 1) 3).toInt64) := by
  have hR0 : RF (mI mm 0 3 0).2.2 := hR
  have hR5 : RF (mR m' 0 5 (some fs)).2.2 := RF_u hR' (by unfold rMut; omega)
  unfold F_LW_load
  rw [zoS_h sh_0]
  have k1 : F_OB_load (sh0 W H) mm 0 = some (m'.1 (fs + 1) 3, mR m' 0 5 (some fs)) := by
    unfold F_OB_load
    rw [zoS_h sh_0, zoL_e, h3, zoS_h sh_0, zoL_e, zoS_h sh_0, zob_h hf, zoS_h sh_0, zob_h (rf_0_6 hR0), zoS_h sh_0, zob_h (rf_0_2 hR0), zoS_h sh_3, zob_h h1, zoS_h sh_0, zoL_e, zoS_h sh_0, zob_h mR_e, zoS_h (sh_s0 hfs), zob_h (rf_s0 hR5 hfs), zoS_h (sh_s1 hfs), if_neg (by decide)]
    rfl
  rw [k1, zxX_s, zoL_e, zoS_h sh_1302, if_neg (by decide), zoL_e]
  rfl
/-- what both loads leave alone -/
def ldF (fs : Nat) (m z : zMem) : Prop := (∀ a, a ≠ 0 → a ≠ 3 → a ≠ 4 → a ≠ 1185 → a ≠ 1277 → ¬ (fs ≤ a ∧ a < fs + 370) → ¬ (1187 ≤ a ∧ a < 1247) → z.1 a = m.1 a) ∧ (∀ c, c ≠ 3 → z.1 0 c = m.1 0 c) ∧ (∀ c, c ≠ 3 → c ≠ 10 → c ≠ 11 → c ≠ 12 → c ≠ 13 → z.1 1185 c = m.1 1185 c) ∧ z.1 0 3 = 0 ∧ z.1 1185 3 = 0 ∧ (∀ a, a ≠ 1302 → z.2.1 a = m.2.1 a) ∧ RF z.2.2 ∧ (z.2.2 1178 3, z.2.2 1121 2, z.2.2 1121 14) = (m.2.2 1178 3, m.2.2 1121 2, m.2.2 1121 14)
theorem ld_PB {m z : zMem} {fs : Nat} (h : PB W H m) (F : ldF fs m z) (hfs : gS fs) (hne : m.2.2 1178 3 ≠ some fs) (err : z.1 3 0 = z.1 1185 12 ∧ z.1 3 1 = z.1 1185 13) (hS : vS z) (hst : ∀ i, i < 8 → z.1 (txA fs i + 2) 0 = 0) : PB W H z ∧ agP m z := by
  obtain ⟨hR, hK, hT, _, hQ, hO, hP⟩ := h
  obtain ⟨F1, F2, F3, F4, F5, F6, F7, F8⟩ := F
  have hi : ∀ a, 1121 ≤ a → a ≠ 1185 → a ≠ 1277 → ¬ (1187 ≤ a ∧ a < 1247) → z.1 a = m.1 a := fun a h1 h2 h3 h4 => F1 a (by omega) (by omega) (by omega) h2 h3 (by rcases hfs with e | e | e <;> omega) h4
  have lo : ∀ a, a < 11 → a ≠ 0 → a ≠ 3 → a ≠ 4 → z.1 a = m.1 a := fun a h1 h2 h3 h4 => F1 a h2 h3 h4 (by omega) (by omega) (by rcases hfs with e | e | e <;> omega) (by omega)
  refine ⟨⟨F7, ?_, ?_, hS, ?_, ?_, ?_⟩, F8, F6 _ (by decide), F6 _ (by decide), fun a ha => hi a (by omega) (by omega) (by omega) (by omega), F3 15 (by decide) (by decide) (by decide) (by decide) (by decide), fun p hp a ha => ?_⟩
  · unfold vK at *
    rw [F2 0 (by decide), F2 1 (by decide), hi 1121 (by decide) (by decide) (by decide) (by decide), hi 1178 (by decide) (by decide) (by decide) (by decide), F3 0 (by decide) (by decide) (by decide) (by decide) (by decide), F3 1 (by decide) (by decide) (by decide) (by decide) (by decide), hi 1285 (by decide) (by decide) (by decide) (by decide)]
    exact hK
  · refine ⟨?_, ⟨0, by decide, F4, F5⟩, ?_⟩
    · rw [F1 1186 (by decide) (by decide) (by decide) (by decide) (by decide) (by rcases hfs with e | e | e <;> omega) (by decide), lo 1 (by decide) (by decide) (by decide) (by decide)]
      exact hT.1
    · rw [lo 1 (by decide) (by decide) (by decide) (by decide)]
      exact hT.2.2
  · intro s hs i hi'
    by_cases e : s = fs
    · rw [e]
      exact hst i hi'
    · rw [F1 _ (by unfold txA; omega) (by unfold txA; omega) (by unfold txA; omega) (by rcases hs with e | e | e <;> (unfold txA; omega)) (by rcases hs with e | e | e <;> (unfold txA; omega)) (by rcases hs with rfl | rfl | rfl <;> rcases hfs with rfl | rfl | rfl <;> (unfold txA; omega)) (by rcases hs with e | e | e <;> (unfold txA; omega))]
      exact hQ s hs i hi'
  · obtain ⟨_, o2, o3, o4⟩ := hO
    refine ⟨err, ?_, ?_, ?_⟩
    · rw [F2 10 (by decide), hi 1281 (by decide) (by decide) (by decide) (by decide)]
      exact o2
    · rw [F2 11 (by decide), F3 19 (by decide) (by decide) (by decide) (by decide) (by decide)]
      exact o3
    · rw [lo 5 (by decide) (by decide) (by decide) (by decide), lo 6 (by decide) (by decide) (by decide) (by decide), hi 1278 (by decide) (by decide) (by decide) (by decide), hi 1280 (by decide) (by decide) (by decide) (by decide)]
      exact o4
  · rw [(Prod.mk.inj F8).1]
    exact hP
  · have hps := hP p hp
    have hpf : p ≠ fs := fun e => hne (by rw [hp, e])
    exact F1 a (by rcases hps with e | e | e <;> omega) (by rcases hps with e | e | e <;> omega) (by rcases hps with e | e | e <;> omega) (by rcases hps with e | e | e <;> omega) (by rcases hps with e | e | e <;> omega) (by rcases hps with rfl | rfl | rfl <;> rcases hfs with rfl | rfl | rfl <;> omega) (by rcases hps with e | e | e <;> omega)
theorem w_thrown {m : zMem} : F_MD_thrown (sh0 W H) m 1185 = some (m.1 1185 11, m) := by
  unfold F_MD_thrown
  rw [zoS_h sh_1185]
theorem lg_self (x : Int64) : lg_cmp x x = 0 := by
  unfold lg_cmp
  simp
set_option maxHeartbeats 4000000 in
theorem s_load {x1 x2 x3 x4 x5 : Int32} (h : PB W H mm) : zok (lawS2 (sh0 W H) mm x1 x2 x3 x4 x5) (fun mq => PB W H mq ∧ agP mm mq) := by
  have hh := h
  obtain ⟨hR, hK, ⟨t1, ⟨n, hn, t2, t3⟩, t4⟩, ⟨s, hs, h5, hsc, htm, hpl⟩, hQ, hO, hP⟩ := h
  have hR0 : RF (mI mm 0 3 0).2.2 := hR
  have hR1 : RF (mI mm 1185 3 0).2.2 := hR
  obtain ⟨⟨fs, mf⟩, f1, f2, f3, f4, f5⟩ := e_free (W := W) (H := H) (mm := mI mm 0 3 0) hR0 hs h5 hP
  simp only at f2 f3 f4 f5
  subst f2
  obtain ⟨m1, e1, c1, c2, c3⟩ := m_clear (W := W) (H := H) hR1
  have o1 : ∀ a, a ≠ 0 → (mI mm 0 3 0).1 a = mm.1 a := fun a ha => mI_o ha
  have hq := q_read (W := W) (H := H) (mm := mI mm 0 3 0) (s := fs) (n := n) hR0 f3 hn (fun i hi => by rw [o1 _ (by rcases f3 with e | e | e <;> (unfold txA; omega))]; exact hQ fs f3 i hi) c3
  rw [o1 1 (by decide)] at hq
  have hdis : ∀ a, (a < 11 ∨ 1121 ≤ a) → ¬ (fs ≤ a ∧ a < fs + 370) := fun a ha => by rcases f3 with e | e | e <;> omega
  have hRd : RF (rdB (mI mm 0 3 0) fs n).2.2 := rdB_R hR0
  unfold lawS2
  cases hr : sRead (mm.1 1) n (fun a => m1.1 (1217 + a)) with
  | error e =>
    rw [hr] at hq
    obtain ⟨y1, m', y2, y3, y4, y5, y6, y7⟩ := hq
    have k := w_loadE (e := e) hR t2 f1 y1 y2
    have hR' : RF m'.2.2 := by rw [y5]; exact hRd
    have hf : ∀ a, 1121 ≤ a → m'.1 a = mm.1 a := fun a ha => by rw [y6 a (by omega) (by omega) (hdis a (by omega)), o1 a (by omega)]
    obtain ⟨m1', m3, z1, z2, z3⟩ := m_clr2 (W := W) (H := H) (m := mI mm 1185 3 0) (m2 := mI m' 1185 3 0) hR1 hR' (fun a => by rw [mI_o (by omega), mI_o (by omega), hf _ (by omega)])
    obtain rfl : m1 = m1' := Option.some.inj (e1.symm.trans z1)
    have hl := m_loadE (W := W) (H := H) (mm := m') (n := n) hR' hn (by rw [hf _ (by decide)]; exact t3) (by rw [hf _ (by decide), t1]; exact fun j hj => t4 j (by omega)) z2 (e := e) (by rw [hf _ (by decide), t1, funext z3]; exact hr)
    rw [zob_h k, zoS_h sh_1185]
    refine zok_b hl (fun z hz => ?_)
    obtain ⟨q1, q2, q3, q4, q5, q6, q7, q8⟩ := hz
    rw [zoS_h sh_1185, zob_h w_thrown, if_pos q4, if_neg (show ¬ ((1 : Int32) = 0) by decide)]
    have fz : ∀ a, a ≠ 3 → a ≠ 4 → a ≠ 1185 → a ≠ 1277 → ¬ (fs ≤ a ∧ a < fs + 370) → ¬ (1217 ≤ a ∧ a < 1247) → z.2.1 a = (mI mm 0 3 0).1 a := fun a a1 a2 a3 a4 a5 a6 => by rw [q8 a a3 a4 a6, y6 a a1 a2 a5]
    refine zok_s (ld_PB (fs := fs) hh ⟨fun a a0 a1 a2 a3 a4 a5 a6 => ?_, fun c hc => ?_, fun c d1 d2 d3 d4 d5 => ?_, ?_, q3, fun a ha => ?_, ?_, ?_⟩ f3 f5 ?_ ?_ ?_)
    · rw [fz a a1 a2 a3 a4 a5 (by omega), o1 a a0]
    · rw [fz 0 (by decide) (by decide) (by decide) (by decide) (hdis 0 (by omega)) (by decide), mI_v, if_pos rfl, if_neg hc]
    · rw [q7 c d1 d3 d4 d5, hf _ (by decide)]
    · rw [fz 0 (by decide) (by decide) (by decide) (by decide) (hdis 0 (by omega)) (by decide), mI_v, if_pos rfl, if_pos rfl]
    · rw [q2, y5, rdB_L]
      rfl
    · rw [q2]; exact hR'
    · rw [q2, y5, rdB_Rr (by decide), rdB_Rr (by decide), rdB_Rr (by decide)]
      rfl
    · rw [q5, q6, q8 3 (by decide) (by decide) (by decide)]
      exact ⟨y3, y4⟩
    · have hsd : ∀ b, s ≤ b → b < s + 370 → z.2.1 b = mm.1 b := fun b b1 b2 => by
        rw [fz b (by rcases hs with e | e | e <;> omega) (by rcases hs with e | e | e <;> omega) (by rcases hs with e | e | e <;> omega) (by rcases hs with e | e | e <;> omega) (by rcases hs with rfl | rfl | rfl <;> rcases f3 with rfl | rfl | rfl <;> omega) (by rcases hs with e | e | e <;> omega), o1 b (by rcases hs with e | e | e <;> omega)]
      have hrw : ∀ q, q < 30 → z.2.1 (1187 + q) = mm.1 (1187 + q) := fun q hq => by rw [fz _ (by omega) (by omega) (by omega) (by omega) (hdis _ (by omega)) (by omega), o1 _ (by omega)]
      have hcn : cn (fun a => z.2.1 (1187 + a)) 3 = cn (fun a => mm.1 (1187 + a)) 3 := by
        unfold cn
        dsimp only
        rw [hrw 0 (by decide)]
      refine ⟨s, hs, ?_, Rsc_c (fun b b1 b2 => hsd b (by omega) b2) (fun c _ => by dsimp only; rw [hrw 0 (by decide)]) (fun j _ j2 q _ => by dsimp only; rw [hrw j j2]) hsc, ?_, fun hp => ?_⟩
      · rw [q2, y5, rdB_Rr (by decide)]
        exact h5
      · rw [hsd s (by omega) (by omega), q7 10 (by decide) (by decide) (by decide) (by decide), hf _ (by decide)]
        exact htm
      · rw [hsd s (by omega) (by omega)] at hp
        rw [hcn]
        have h48 := (hsc.1.1 3 (by decide)).2.2
        rw [lim_v.2.2.2.1] at h48
        exact Plc_c h48 (fun b b1 b2 => hsd b (by omega) b2) hrw (hpl hp)
    · intro i hi
      rw [q8 _ (by rcases f3 with e | e | e <;> (unfold txA; omega)) (by rcases f3 with e | e | e <;> (unfold txA; omega)) (by rcases f3 with e | e | e <;> (unfold txA; omega))]
      exact y7 i hi
  | ok g' =>
    rw [hr] at hq
    obtain ⟨m', y1, y3, y4, y8, y9, y10, y5, y6⟩ := hq
    have hR' : RF m'.2.2 := by rw [y5]; exact hRd
    have k := w_loadK hR f3 t2 f1 y1 hR'
    have hf : ∀ a, 1121 ≤ a → m'.1 a = mm.1 a := fun a ha => by rw [y6 a (by omega) (by omega) (hdis a (by omega)), o1 a (by omega)]
    have hRc : RF (mL (mR m' 0 5 (some fs)) 1302 0 (m'.1 (fs + 1) 3).toInt64).2.2 := by
      rw [mL_R]
      exact RF_u hR' (by unfold rMut; omega)
    obtain ⟨m1', m3, z1, z2, z3⟩ := m_clr2 (W := W) (H := H) (m := mI mm 1185 3 0) (m2 := mI (mL (mR m' 0 5 (some fs)) 1302 0 (m'.1 (fs + 1) 3).toInt64) 1185 3 0) hR1 hRc (fun a => by rw [mI_o (by omega), mI_o (by omega), mL_1, mR_1, hf _ (by omega)])
    obtain rfl : m1 = m1' := Option.some.inj (e1.symm.trans z1)
    obtain ⟨E, hE⟩ := Rsc_E y8
    have c0 := (y8.1 0 (by decide)).2
    rw [lim_v.1] at c0
    have hl := m_loadK (W := W) (H := H) (mm := mL (mR m' 0 5 (some fs)) 1302 0 (m'.1 (fs + 1) 3).toInt64) (n := n) hRc hn (by rw [mL_1, mR_1, hf _ (by decide)]; exact t3) (by rw [mL_1, mR_1, hf _ (by decide), t1]; exact fun j hj => t4 j (by omega)) z2 (g' := g') (by rw [mL_1, mR_1, hf _ (by decide), t1, funext z3]; exact hr) (c := cn g' 0) c0.2 (E := E) (BB := fun t k => (g' 4 (4095 * t + k)).toNatClampNeg) (fun t ht => (hE t ht).1) (fun t ht k hk => ((hE t ht).2.2 k hk).1) c0.1 (fun t ht => (hE t ht).2.1) (fun t ht k hk => ((hE t ht).2.2 k hk).2)
    rw [zob_h k, zoS_h sh_1185]
    refine zok_b hl (fun z hz => ?_)
    obtain ⟨q1, q2, ⟨q3, q4, q5, q6, q7⟩, q8, ⟨g4, w1, w2, w3, w4, w5⟩, q9⟩ := hz
    have ho : z.2.2.1 1302 0 = (m'.1 (fs + 1) 3).toInt64 := by rw [q2, mL_e]
    rw [zoS_h sh_1185, zob_h w_thrown, if_pos q5, if_pos rfl, zoS_h sh_1302, if_neg (by decide), if_pos (by
      show lg_cmp (z.2.2.1 1302 0) _ = 0
      rw [ho, q1, (y8.1 3 (by decide)).1]
      exact lg_self _)]
    have fz : ∀ a, a ≠ 3 → a ≠ 4 → a ≠ 1185 → a ≠ 1277 → ¬ (fs ≤ a ∧ a < fs + 370) → ¬ (1187 ≤ a ∧ a < 1247) → z.2.1 a = (mI mm 0 3 0).1 a := fun a a1 a2 a3 a4 a5 a6 => by rw [q9 a a3 a4 a6, mL_1, mR_1, y6 a a1 a2 a5]
    have fr : ∀ b, fs ≤ b → b < fs + 370 → z.2.1 b = m'.1 b := fun b b1 b2 => by rw [q9 b (by rcases f3 with e | e | e <;> omega) (by rcases f3 with e | e | e <;> omega) (by rcases f3 with e | e | e <;> omega), mL_1, mR_1]
    refine zok_s (ld_PB (fs := fs) hh ⟨fun a a0 a1 a2 a3 a4 a5 a6 => ?_, fun c hc => ?_, fun c d1 d2 d3 d4 d5 => ?_, ?_, q3, fun a ha => ?_, ?_, ?_⟩ f3 f5 ?_ ?_ ?_)
    · rw [fz a a1 a2 a3 a4 a5 a6, o1 a a0]
    · rw [fz 0 (by decide) (by decide) (by decide) (by decide) (hdis 0 (by omega)) (by decide), mI_v, if_pos rfl, if_neg hc]
    · rw [q8 c d1 d2 d3 d4 d5, mL_1, mR_1, hf _ (by decide)]
    · rw [fz 0 (by decide) (by decide) (by decide) (by decide) (hdis 0 (by omega)) (by decide), mI_v, if_pos rfl, if_pos rfl]
    · rw [q2, mL_o ha, mR_L, y5, rdB_L]
      rfl
    · rw [q2]; exact hRc
    · rw [q2, mL_R, mR_ne (by omega), mR_ne (by omega), mR_ne (by omega), y5, rdB_Rr (by decide), rdB_Rr (by decide), rdB_Rr (by decide)]
      rfl
    · rw [q6, q7, q9 3 (by decide) (by decide) (by decide), mL_1, mR_1]
      exact ⟨y3, y4⟩
    · refine ⟨fs, f3, ?_, ?_, ?_, fun hp => ?_⟩
      · rw [q2, mL_R]
        exact mR_e
      · have hx := Rsc_of (gN := fun a => z.2.1 (1187 + a)) y8 (fun t ht => ⟨(hE t ht).1, (hE t ht).2.1⟩) w1 w2 w3 w4 w5
        exact Rsc_c (fun b b1 b2 => fr b (by omega) b2) (fun _ _ => rfl) (fun _ _ _ _ _ => rfl) hx
      · rw [fr fs (by omega) (by omega), y9, q4]
      · rw [fr fs (by omega) (by omega), y10] at hp
        exact absurd rfl hp
    · intro i hi
      rw [fr _ (by unfold txA; omega) (by unfold txA; omega)]
      exact y8.2.1 i hi
end ZLE
