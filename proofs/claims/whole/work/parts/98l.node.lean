/-! PURE: the calls that change nodes -/
section ZND2
variable {W H : Nat} {mm : zMem}
/-- a call that changes the scene -/
theorem PB_B {m z : zMem} {s : Nat} (h : PB W H m) (hs : gS s) (hR : RF z.2.2) (hRp : (z.2.2 1178 3, z.2.2 1121 2, z.2.2 1121 14) = (m.2.2 1178 3, m.2.2 1121 2, m.2.2 1121 14)) (hL : z.2.1 1178 = m.2.1 1178 ∧ z.2.1 1284 = m.2.1 1284) (F : ∀ a, a ≠ 1185 → ¬ (s ≤ a ∧ a < s + 370) → ¬ (1187 ≤ a ∧ a < 1217) → a ≠ 1292 → z.1 a = m.1 a) (FT : fT s m.1 z.1) (FC : ∀ c, c ≠ 10 → c ≠ 11 → z.1 1185 c = m.1 1185 c) (hS : vS z) : PB W H z ∧ agP m z := by
  obtain ⟨_, hK, hT, _, hQ, hO, hP⟩ := h
  have hi : ∀ a, 1121 ≤ a → a ≠ 1185 → ¬ (1187 ≤ a ∧ a < 1217) → a ≠ 1292 → z.1 a = m.1 a := fun a h1 h2 h3 h4 => F a h2 (by rcases hs with e | e | e <;> omega) h3 h4
  have lo : ∀ a, a < 11 → z.1 a = m.1 a := fun a h1 => F a (by omega) (by rcases hs with e | e | e <;> omega) (by omega) (by omega)
  refine ⟨⟨hR, ?_, ?_, hS, ?_, ?_, by rw [(Prod.mk.inj hRp).1]; exact hP⟩, hRp, hL.1, hL.2, fun a ha => hi a (by omega) (by omega) (by omega) (by omega), FC 15 (by decide) (by decide), fun p hp a ha => ?_⟩
  · unfold vK at *
    rw [lo 0 (by decide), hi 1121 (by decide) (by decide) (by decide) (by decide), hi 1178 (by decide) (by decide) (by decide) (by decide), FC 0 (by decide) (by decide), FC 1 (by decide) (by decide), hi 1285 (by decide) (by decide) (by decide) (by decide)]
    exact hK
  · unfold vT at *
    rw [hi 1186 (by decide) (by decide) (by decide) (by decide), lo 1 (by decide), lo 0 (by decide), FC 3 (by decide) (by decide)]
    exact hT
  · intro t ht i hi'
    by_cases e : t = s
    · rw [FT _ (by unfold txA; omega)]
      exact hQ t ht i hi'
    · rw [F _ (by rcases ht with e | e | e <;> (unfold txA; omega)) (by rcases ht with rfl | rfl | rfl <;> rcases hs with rfl | rfl | rfl <;> (unfold txA; omega)) (by rcases ht with e | e | e <;> (unfold txA; omega)) (by rcases ht with e | e | e <;> (unfold txA; omega))]
      exact hQ t ht i hi'
  · unfold vO at *
    rw [lo 3 (by decide), lo 0 (by decide), hi 1281 (by decide) (by decide) (by decide) (by decide), lo 5 (by decide), lo 6 (by decide), hi 1278 (by decide) (by decide) (by decide) (by decide), hi 1280 (by decide) (by decide) (by decide) (by decide), FC 12 (by decide) (by decide), FC 13 (by decide) (by decide), FC 19 (by decide) (by decide)]
    exact hO
  · have hps := hP p hp
    by_cases e : p = s
    · exact FT _ (by omega)
    · exact F a (by rcases hps with e | e | e <;> omega) (by rcases hps with rfl | rfl | rfl <;> rcases hs with rfl | rfl | rfl <;> omega) (by rcases hps with e | e | e <;> omega) (by rcases hps with e | e | e <;> omega)
theorem vS_n {m z : zMem} {s : Nat} (hs : gS s) (h5 : z.2.2 0 5 = some s) (hsc : Rsc m.1 s (fun a => m.1 (1187 + a))) (htm : z.1 s 8 = z.1 1185 10) (h9 : z.1 s 9 = 0) (FT : fT s m.1 z.1) (F23 : z.1 (s + 23) = m.1 (s + 23)) (F24 : z.1 (s + 24) = m.1 (s + 24)) (G : ∀ j, j < 30 → ¬ (15 ≤ j ∧ j < 21) → z.1 (1187 + j) = m.1 (1187 + j)) (hN : RscN z.1 s (fun a => z.1 (1187 + a))) : vS z := by
  obtain ⟨h1, h2, h3, h4⟩ := hsc
  refine ⟨s, hs, h5, ⟨RscT_c FT ⟨fun c _ => congrFun (G 0 (by decide) (by decide)) c, fun j hj q _ => congrFun (G j (by omega) (by omega)) q⟩ h1, hN, Rcam_d F23 (fun c _ => ⟨congrFun (G 27 (by decide) (by decide)) c, congrFun (G 28 (by decide) (by decide)) c⟩) (congrFun (G 0 (by decide) (by decide)) 34) h3, Rlmp_d F24 (fun c _ => congrFun (G 29 (by decide) (by decide)) c) (congrFun (G 0 (by decide) (by decide)) 35) h4⟩, htm, fun hp => absurd h9 hp⟩
theorem RscN_1 {f f' : Nat → Nat → Int32} {s i : Nat} {g g' : Nat → Nat → Int32} (h48 : cn g 3 ≤ 48) (c2 : g' 0 2 = g 0 2) (c3 : g' 0 3 = g 0 3) (Hi : RndG f' s g' i ∧ WndG g' i) (F : ∀ j, j < 48 → j ≠ i → (∀ c, c < 3 → f' (ndA s j) c = f (ndA s j) c) ∧ f' (ndA s j + 1) = f (ndA s j + 1)) (G : ∀ j, j < 48 → j ≠ i → g' 15 j = g 15 j ∧ g' 16 j = g 16 j ∧ g' 20 j = g 20 j ∧ ∀ c, c < 3 → g' 17 (3 * j + c) = g 17 (3 * j + c) ∧ g' 18 (3 * j + c) = g 18 (3 * j + c) ∧ g' 19 (3 * j + c) = g 19 (3 * j + c)) (h : RscN f s g) : RscN f' s g' := by
  intro j hj
  rw [show cn g' 3 = cn g 3 by unfold cn; rw [c3]] at hj
  by_cases e : j = i
  · rw [e]
    exact Hi
  · obtain ⟨k1, k2, k3, k4⟩ := G j (by omega) e
    exact RndG_c (F j (by omega) e).1 (F j (by omega) e).2 k1 k2 k3 k4 (by rw [c2]; omega) (h j hj)
theorem e_has {s n : Nat} {x : Int32} (hR : RF mm.2.2) (hs : gS s) (hc : mm.1 (s + 1) 3 = nI n) (hn : n ≤ 48) : F_XScene_hasNode (sh0 W H) mm s x = some (if 0 ≤ x.toInt ∧ x.toInt < n then 1 else 0, mm) := by
  have e0 : (0 : Int32).toInt = 0 := rfl
  have hnn : (nI n).toInt = n := nI_toInt (by omega)
  unfold F_XScene_hasNode
  by_cases a : x < 0
  · rw [if_pos a, if_neg (by rw [i32_lt, e0] at a; omega)]
  · rw [if_neg a, zoS_h (sh_s0 hs), zob_h (rf_s0 hR hs), zoS_h (sh_s1 hs), if_neg (by decide), show (3 : Int32).toNatClampNeg = 3 from rfl, hc]
    rw [i32_lt, e0] at a
    by_cases b : nI n ≤ x
    · rw [if_pos b, if_neg (by rw [i32_le, hnn] at b; omega)]
    · rw [if_neg b, if_pos (by rw [i32_le, hnn] at b; omega)]
/-- what is known of the scene at a call -/
theorem vS_k (h : PB W H mm) : ∃ s n, gS s ∧ mm.2.2 0 5 = some s ∧ n ≤ 48 ∧ mm.1 (s + 1) 3 = nI n ∧ mm.1 1187 3 = nI n ∧ cn (fun a => mm.1 (1187 + a)) 3 = n ∧ Rsc mm.1 s (fun a => mm.1 (1187 + a)) ∧ mm.1 s 8 = mm.1 1185 10 ∧ (¬ mm.1 s 9 = 0 → Plc mm.1 s 1187 n) := by
  obtain ⟨s, hs, h5, hsc, htm, hpl⟩ := h.2.2.2.1
  have c3 := hsc.1.1 3 (by decide)
  have h48 := c3.2.2
  rw [lim_v.2.2.2.1] at h48
  exact ⟨s, _, hs, h5, h48, c3.1.trans c3.2.1, c3.2.1, rfl, hsc, htm, hpl⟩
theorem s_hang {x1 x2 x3 x4 x5 : Int32} (h : PB W H mm) : zok (lawS7 (sh0 W H) mm x1 x2 x3 x4 x5) (fun mq => PB W H mq ∧ agP mm mq) := by
  have hR := h.1
  have hM : gM 1187 := Or.inl rfl
  obtain ⟨s, n, hs, h5, hn, hc, hc', hcn, hsc, htm, hpl⟩ := vS_k h
  have e0 : (0 : Int32).toInt = 0 := rfl
  have e1 : (-1 : Int32).toInt = -1 := rfl
  have e1' : (1 : Int32).toInt = 1 := rfl
  have hnn : (nI n).toInt = n := nI_toInt (by omega)
  have hh := e_has (W := W) (H := H) (x := x1) hR hs hc hn
  unfold lawS7
  by_cases hx : (0 ≤ x1.toInt ∧ x1.toInt < n) ∧ -1 ≤ x2.toInt ∧ x2.toInt < x1.toInt
  · obtain ⟨k1, k2⟩ := i32_cl hx.1.1
    have hi : x1.toNatClampNeg < 48 := by omega
    generalize x1.toNatClampNeg = i at k1 k2 hi
    have hsub : (x1 - 1).toInt = x1.toInt - 1 := by rw [i32_sub (by rw [e1']; omega) (by rw [e1']; omega), e1']
    refine law2 (B := fun m => F_MD_hang (sh0 W H) m 1185 x1 x2) (v := 1) (m1 := mI (mI mm (ndA s i) 0 x2) s 9 0) (m2 := mI (mI (mI (mI mm (ndA s i) 0 x2) s 9 0) 1185 11 0) 1202 i x2) ?_ ?_ ?_
    · unfold F_OB_hang
      rw [zoS_h sh_0, zob_h h5, zoS_h (sh_s0 hs), hh, if_pos hx.1, zob_e, if_neg (show ¬ ((1 : Int32) = 0) by decide), if_neg (by rw [wi_0, e1, hsub]; omega), zoS_h sh_0, zob_h h5, zoS_h (sh_s0 hs), zob_h (rf_s4 hR hs), zoR_h (sh_s21 hs) (by decide), k1, nI_ix hi (by decide), nI_cl (by omega), zob_h (rf_nd hR hs hi), zoS_h (sh_ndA hs hi), zoL_e, zoS_h sh_0, zob_h (show (mI mm (ndA s i) 0 x2).2.2 0 5 = some s from h5), zoS_h (sh_s0 hs), zoL_e]
    · show F_MD_hang (sh0 W H) (mI (mI mm (ndA s i) 0 x2) s 9 0) 1185 x1 x2 = _
      have hR1 : RF (mI (mI (mI mm (ndA s i) 0 x2) s 9 0) 1185 11 0).2.2 := hR
      have f3 : (mI (mI (mI mm (ndA s i) 0 x2) s 9 0) 1185 11 0).1 1187 3 = nI n := by rw [mI_o (by decide), mI_o (by rcases hs with e | e | e <;> omega), mI_o (by rcases hs with e | e | e <;> (unfold ndA; omega)), hc']
      unfold F_MD_hang
      rw [zoS_h sh_1185, zoL_e, if_neg (by rw [i32_lt, e0]; omega), zoS_h sh_1185, zob_h (rf_1185_4 hR1), zoS_h (sh_m0 hM), if_neg (by rw [i32_le, f3, hnn]; omega), if_neg (by rw [i32_lt, e1]; omega), if_pos (by rw [i32_lt]; omega), zoS_h sh_1185, zob_h (rf_1185_4 hR1), zoS_h (sh_m0 hM), zob_h (rf_m19 hR1 hM), zoS_h (sh_m15 hM), k1, nI_ix hi (by decide), nI_cl (by omega), zoL_e]
    · have o : ∀ a, a ≠ ndA s i → a ≠ s → a ≠ 1185 → a ≠ 1202 → (mI (mI (mI (mI mm (ndA s i) 0 x2) s 9 0) 1185 11 0) 1202 i x2).1 a = mm.1 a := fun a a1 a2 a3 a4 => by rw [mI_o a4, mI_o a3, mI_o a2, mI_o a1]
      have on : ∀ c, (mI (mI (mI (mI mm (ndA s i) 0 x2) s 9 0) 1185 11 0) 1202 i x2).1 (ndA s i) c = if c = 0 then x2 else mm.1 (ndA s i) c := fun c => by rw [mI_o (by rcases hs with e | e | e <;> (unfold ndA; omega)), mI_o (by rcases hs with e | e | e <;> (unfold ndA; omega)), mI_o (by unfold ndA; omega), mI_v, if_pos rfl]
      have os : ∀ c, (mI (mI (mI (mI mm (ndA s i) 0 x2) s 9 0) 1185 11 0) 1202 i x2).1 s c = if c = 9 then 0 else mm.1 s c := fun c => by rw [mI_o (by rcases hs with e | e | e <;> omega), mI_o (by rcases hs with e | e | e <;> omega), mI_v, if_pos rfl, mI_o (by unfold ndA; omega)]
      have om : ∀ c, c ≠ 11 → (mI (mI (mI (mI mm (ndA s i) 0 x2) s 9 0) 1185 11 0) 1202 i x2).1 1185 c = mm.1 1185 c := fun c hc => by rw [mI_o (by decide), mI_v, if_pos rfl, if_neg hc, mI_o (by rcases hs with e | e | e <;> omega), mI_o (by rcases hs with e | e | e <;> (unfold ndA; omega))]
      have op : ∀ c, (mI (mI (mI (mI mm (ndA s i) 0 x2) s 9 0) 1185 11 0) 1202 i x2).1 1202 c = if c = i then x2 else mm.1 1202 c := fun c => by rw [mI_v, if_pos rfl, mI_o (by decide), mI_o (by rcases hs with e | e | e <;> omega), mI_o (by rcases hs with e | e | e <;> (unfold ndA; omega))]
      have hz2 : (mI (mI (mI (mI mm (ndA s i) 0 x2) s 9 0) 1185 11 0) 1202 i x2).2 = mm.2 := nrfl rfl
      generalize mI (mI (mI (mI mm (ndA s i) 0 x2) s 9 0) 1185 11 0) 1202 i x2 = z at o on os om op hz2
      have FT : fT s mm.1 z.1 := fun b hb => o b (by unfold ndA; omega) (by omega) (by rcases hs with e | e | e <;> omega) (by rcases hs with e | e | e <;> omega)
      have G : ∀ j, j < 30 → j ≠ 15 → z.1 (1187 + j) = mm.1 (1187 + j) := fun j j1 j2 => o _ (by rcases hs with e | e | e <;> (unfold ndA; omega)) (by rcases hs with e | e | e <;> omega) (by omega) (by omega)
      have G15 : ∀ c, z.1 (1187 + 15) c = if c = i then x2 else mm.1 (1187 + 15) c := op
      refine PB_B h hs (by rw [hz2]; exact hR) (by rw [hz2]) (by rw [hz2]; exact ⟨rfl, rfl⟩) (fun a a1 a2 a3 _ => o a (by unfold ndA; omega) (by omega) a1 (by omega)) FT (fun c _ c2 => om c c2) ?_
      refine vS_n (m := mm) hs (by rw [hz2]; exact h5) hsc (by rw [os, if_neg (by decide), om 10 (by decide)]; exact htm) (by rw [os, if_pos rfl]) FT (o _ (by unfold ndA; omega) (by omega) (by rcases hs with e | e | e <;> omega) (by rcases hs with e | e | e <;> omega)) (o _ (by unfold ndA; omega) (by omega) (by rcases hs with e | e | e <;> omega) (by rcases hs with e | e | e <;> omega)) (fun j j1 j2 => G j j1 (by omega)) ?_
      have hi' : i < cn (fun a => mm.1 (1187 + a)) 3 := by rw [hcn]; omega
      obtain ⟨⟨a1, a2, a3, a4⟩, b1, b2, b3, b4, b5, b6⟩ := hsc.2.1 i hi'
      have n1 : z.1 (ndA s i + 1) = mm.1 (ndA s i + 1) := o _ (by omega) (by unfold ndA; omega) (by rcases hs with e | e | e <;> (unfold ndA; omega)) (by rcases hs with e | e | e <;> (unfold ndA; omega))
      refine RscN_1 (i := i) (by rw [hcn]; exact hn) (congrFun (G 0 (by decide) (by decide)) 2) (congrFun (G 0 (by decide) (by decide)) 3) ⟨⟨?_, ?_, ?_, fun c hc => ?_⟩, ?_, ?_, ?_, ?_, ?_, fun c hc => ?_⟩ (fun j j1 j2 => ⟨fun c _ => congrFun (o _ (by unfold ndA; omega) (by unfold ndA; omega) (by rcases hs with e | e | e <;> (unfold ndA; omega)) (by rcases hs with e | e | e <;> (unfold ndA; omega))) c, o _ (by unfold ndA; omega) (by unfold ndA; omega) (by rcases hs with e | e | e <;> (unfold ndA; omega)) (by rcases hs with e | e | e <;> (unfold ndA; omega))⟩) (fun j j1 j2 => ⟨by rw [G15, if_neg j2], congrFun (G 16 (by decide) (by decide)) j, congrFun (G 20 (by decide) (by decide)) j, fun c _ => ⟨congrFun (G 17 (by decide) (by decide)) _, congrFun (G 18 (by decide) (by decide)) _, congrFun (G 19 (by decide) (by decide)) _⟩⟩) hsc.2.1
      all_goals try dsimp only
      · rw [on, if_pos rfl, G15, if_pos rfl]
      · rw [on, if_neg (by decide), G 16 (by decide) (by decide)]
        exact a2
      · rw [on, if_neg (by decide), G 20 (by decide) (by decide)]
        exact a3
      · rw [n1, G 17 (by decide) (by decide), G 18 (by decide) (by decide), G 19 (by decide) (by decide)]
        exact a4 c hc
      · rw [G15, if_pos rfl]; omega
      · rw [G15, if_pos rfl]; omega
      · rw [G 16 (by decide) (by decide)]; exact b3
      · rw [G 16 (by decide) (by decide), G 0 (by decide) (by decide)]; exact b4
      · rw [G 20 (by decide) (by decide)]; exact b5
      · rw [G 17 (by decide) (by decide), G 18 (by decide) (by decide), G 19 (by decide) (by decide)]
        exact b6 c hc
  · refine law2 (B := fun m => F_MD_hang (sh0 W H) m 1185 x1 x2) (v := 0) (m1 := mm) (m2 := mI mm 1185 11 0) ?_ ?_ (PB_11 h)
    · unfold F_OB_hang
      rw [zoS_h sh_0, zob_h h5, zoS_h (sh_s0 hs), hh, zob_e]
      by_cases k : 0 ≤ x1.toInt ∧ x1.toInt < n
      · have hsub : (x1 - 1).toInt = x1.toInt - 1 := by rw [i32_sub (by rw [e1']; omega) (by rw [e1']; omega), e1']
        rw [if_pos k, if_neg (show ¬ ((1 : Int32) = 0) by decide), if_pos (by rw [wi_0, e1, hsub]; omega)]
      · rw [if_neg k, if_pos rfl]
    · show F_MD_hang (sh0 W H) mm 1185 x1 x2 = _
      have hR1 : RF (mI mm 1185 11 0).2.2 := hR
      have f3 : (mI mm 1185 11 0).1 1187 3 = nI n := by rw [mI_o (by decide), hc']
      unfold F_MD_hang
      rw [zoS_h sh_1185, zoL_e]
      by_cases k0 : x1 < 0
      · rw [if_pos k0]
      · rw [if_neg k0, zoS_h sh_1185, zob_h (rf_1185_4 hR1), zoS_h (sh_m0 hM), f3]
        rw [i32_lt, e0] at k0
        by_cases k1 : nI n ≤ x1
        · rw [if_pos k1]
        · rw [if_neg k1]
          rw [i32_le, hnn] at k1
          by_cases k2 : x2 < -1
          · rw [if_pos k2]
          · rw [if_neg k2, if_neg (by rw [i32_lt, e1] at k2; rw [i32_lt]; omega)]
end ZND2
