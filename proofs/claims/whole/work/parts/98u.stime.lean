/-! PURE: time as the law calls it -/
section ZTL
variable {W H : Nat} {mm : zMem}
set_option maxHeartbeats 4000000 in
theorem s_time {x1 x2 x3 x4 x5 : Int32} (h : PB W H mm) : zok (lawS5 (sh0 W H) mm x1 x2 x3 x4 x5) (fun mq => PB W H mq ∧ agP mm mq) := by
  have hR := h.1
  have hM : gM 1187 := Or.inl rfl
  obtain ⟨s, n, hs, h5, hn, hc, hc', hcn, hsc, htm, hpl⟩ := vS_k h
  obtain ⟨l1, l2, l3⟩ := s_lt hs
  have e0 : (0 : Int32).toInt = 0 := rfl
  have e6 : (1000000 : Int32).toInt = 1000000 := rfl
  unfold lawS5
  by_cases hx : 0 ≤ x1.toInt ∧ x1.toInt ≤ 1000000
  · have c4 := hsc.1.1 4 (by decide)
    have hT := c4.2.2
    rw [lim_v.2.2.2.2] at hT
    have ct : mm.1 (s + 1) 4 = nI (cn (fun a => mm.1 (1187 + a)) 4) := c4.1.trans c4.2.1
    have ct' : mm.1 1187 4 = nI (cn (fun a => mm.1 (1187 + a)) 4) := c4.2.1
    have cg : (fun a => mm.1 (1187 + a)) 0 3 = nI n := hc'
    have htk := hsc.1.2.2.2.2
    generalize hgg : (fun a => mm.1 (1187 + a)) = g at hcn cg htk ct ct' hT
    have hg : ∀ a, mm.1 (1187 + a) = g a := fun a => congrFun hgg a
    generalize cn g 4 = T at htk ct ct' hT
    have nf : ∀ i, ndA s i + 1 ≠ s := fun i => by unfold ndA; omega
    have o1 : ∀ a, a ≠ s → (mI (mI mm s 8 x1) s 9 0).1 a = mm.1 a := fun a ha => by rw [mI_o ha, mI_o ha]
    have hnum : ∀ i, i < n → ∀ c, c < 3 → mm.1 (ndA s i + 1) c = g 17 (3 * i + c) ∧ mm.1 (ndA s i + 1) (3 + c) = g 18 (3 * i + c) ∧ mm.1 (ndA s i + 1) (6 + c) = g 19 (3 * i + c) := fun i hi c hc3 => by
      have q := (hsc.2.1 i (by rw [hgg, hcn]; exact hi)).1.2.2.2 c hc3
      dsimp only at q
      rw [hg, hg, hg] at q
      exact q
    have hloop := e_mt (W := W) (H := H) (s := s) (n := n) (T := T) (g := g) (t := x1) (m0 := mI (mI mm s 8 x1) s 9 0) hs hn hT hcn cg (by rw [o1 _ (by omega)]; exact ct) hx hR (fun k hk => by
      have q := htk k hk
      exact RtkG_c (f := mm.1) (fun e he => o1 _ (by unfold tkA; omega)) rfl rfl rfl rfl (fun _ _ => ⟨rfl, fun _ => rfl⟩) (Int.le_refl _) q) T 0 zfuel (mI (mI mm s 8 x1) s 9 0) (by omega) (zf_lt (by omega)) ⟨rfl, fun _ _ => rfl, fun i hi w hw c hc3 => by
        rw [o1 _ (nf i)]
        show _ = g (17 + w) (3 * i + c)
        have q := hnum i hi c hc3
        rcases lt3 hw with rfl | rfl | rfl
        · rw [show 3 * 0 + c = c by omega]; exact q.1
        · exact q.2.1
        · exact q.2.2⟩
    obtain ⟨⟨z0, z1, z2, ma⟩, a1, a2⟩ := hloop
    simp only at a2
    obtain ⟨b1, b2, b3⟩ := a2
    have hA : F_OB_time (sh0 W H) mm 0 x1 = some (1, ma) := by
      unfold F_OB_time F_XScene_moveTo
      rw [if_neg (by rw [wi_0, e0, e6]; omega), zoS_h sh_0, zob_h h5, zoS_h (sh_s0 hs), zoS_h (sh_s0 hs), zoL_e, zoS_h (sh_s0 hs), zoL_e]
      rw [show L_XScene_moveTo_12 (sh0 W H) zfuel s x1 0 (mI (mI mm s 8 x1) s 9 0) = _ from a1, zob_e, zob_e]
    have oa : ∀ a, a ≠ s → (∀ i, i < 48 → a ≠ ndA s i + 1) → ma.1 a = mm.1 a := fun a ha hb => by rw [b2 a hb, o1 a ha]
    have hi : ∀ a, 1121 ≤ a → ma.1 a = mm.1 a := fun a ha => oa a (by omega) (fun i hi => by unfold ndA; omega)
    have hRb : RF (mI (mI ma 1185 11 0) 1185 10 x1).2.2 := by
      show RF ma.2.2
      rw [b1]
      exact hR
    have ob : ∀ a, a ≠ 1185 → (mI (mI ma 1185 11 0) 1185 10 x1).1 a = ma.1 a := fun a ha => by rw [mI_o ha, mI_o ha]
    have hloop2 := e_mf (W := W) (H := H) (s := s) (n := n) (T := T) (g := g) (t := x1) (f := mm.1) (m0 := mI (mI ma 1185 11 0) 1185 10 x1) hn hT hcn cg (by rw [ob _ (by decide), hi _ (by decide)]; exact ct') hx hRb (fun j j1 j2 => by rw [ob _ (by omega), hi _ (by omega)]; exact hg j) htk T 0 zfuel (mI (mI ma 1185 11 0) 1185 10 x1) (by omega) (zf_lt (by omega)) ⟨rfl, fun _ _ => rfl, fun w hw q => by
      rw [ob _ (by omega), hi _ (by omega)]
      show _ = g (17 + w) q
      rw [← hg, show 1187 + (17 + w) = 1204 + w by omega]⟩
    obtain ⟨⟨y0, y1, y2, mb⟩, d1, d2⟩ := hloop2
    simp only at d2
    obtain ⟨f1, f2, f3⟩ := d2
    have hB : F_MD_time (sh0 W H) ma 1185 x1 = some (1, mb) := by
      unfold F_MD_time
      rw [zoS_h sh_1185, zoL_e, if_neg (by rw [i32_lt, e0]; omega), if_pos (by rw [i32_le, e6]; omega), zoS_h sh_1185, zoL_e]
      rw [show L_MD_time_24 (sh0 W H) zfuel 1185 x1 0 (mI (mI ma 1185 11 0) 1185 10 x1) = _ from d1, zob_e]
    refine law2 (B := fun m => F_MD_time (sh0 W H) m 1185 x1) hA hB ?_
    have hz2 : mb.2 = mm.2 := by rw [f1]; exact b1
    have zo : ∀ a, a ≠ s → a ≠ 1185 → (∀ i, i < 48 → a ≠ ndA s i + 1) → ¬ (1204 ≤ a ∧ a < 1207) → mb.1 a = mm.1 a := fun a q1 q2 q3 q4 => by rw [f2 a q4, ob a q2, oa a q1 q3]
    have zc : ∀ c, mb.1 1185 c = if c = 10 then x1 else if c = 11 then 0 else mm.1 1185 c := fun c => by rw [f2 1185 (by decide), mI_v, if_pos rfl, mI_v, if_pos rfl, hi _ (by decide)]
    have zs : ∀ c, mb.1 s c = if c = 9 then 0 else if c = 8 then x1 else mm.1 s c := fun c => by rw [f2 s (by omega), ob s (by omega), b2 s (fun i _ => Ne.symm (nf i)), mI_v, if_pos rfl, mI_v, if_pos rfl]
    have zn : ∀ i, i < 48 → mb.1 (ndA s i + 1) = ma.1 (ndA s i + 1) := fun i hi => by rw [f2 _ (by unfold ndA; omega), ob _ (by unfold ndA; omega)]
    have FT : fT s mm.1 mb.1 := fun b hb => zo b (by omega) (by omega) (fun i _ => by unfold ndA; omega) (by omega)
    have G : ∀ j, j < 30 → ¬ (17 ≤ j ∧ j < 20) → mb.1 (1187 + j) = mm.1 (1187 + j) := fun j j1 j2 => zo _ (by omega) (by omega) (fun i _ => by unfold ndA; omega) (by omega)
    refine PB_B h hs (by rw [hz2]; exact hR) (by rw [hz2]) (by rw [hz2]; exact ⟨rfl, rfl⟩) (fun a q1 q2 q3 _ => zo a (by omega) q1 (fun i _ => by unfold ndA; omega) (by omega)) FT (fun c q1 q2 => by rw [zc, if_neg q1, if_neg q2]) ?_
    refine vS_n (m := mm) hs (by rw [hz2]; exact h5) hsc (by rw [zs, if_neg (by decide), if_pos rfl, zc, if_pos rfl]) (by rw [zs, if_pos rfl]) FT (zo _ (by omega) (by omega) (fun i _ => by unfold ndA; omega) (by omega)) (zo _ (by omega) (by omega) (fun i _ => by unfold ndA; omega) (by omega)) (fun j j1 j2 => G j j1 (by omega)) ?_
    have hbd := NV_r (t := x1) (f := mm.1) (s := s) (g := g) hx hn hcn cg htk (fun w hw q hq => by
      have qq := (hsc.2.1 (q / 3) (by rw [hgg, hcn]; omega)).2.2.2.2.2.2 (q % 3) (by omega)
      dsimp only at qq
      rw [hg, hg, hg, show 3 * (q / 3) + q % 3 = q by omega] at qq
      rcases lt3 hw with rfl | rfl | rfl
      · exact ⟨qq.1, qq.2.1⟩
      · exact ⟨qq.2.2.1, qq.2.2.2.1⟩
      · exact qq.2.2.2.2) T (Nat.le_refl _)
    intro i hi'
    have hin : i < n := by
      rw [← hcn]
      have : cn (fun a => mb.1 (1187 + a)) 3 = cn g 3 := by
        unfold cn
        rw [← hgg]
        exact congrArg Int32.toNatClampNeg (congrFun (G 0 (by decide) (by decide)) 3)
      rw [this] at hi'
      exact hi'
    obtain ⟨⟨a1', a2', a3', a4'⟩, w1, w2, w3, w4, w5, w6⟩ := hsc.2.1 i (by rw [hgg, hcn]; exact hin)
    dsimp only at a1' a2' a3' w1 w2 w3 w4 w5
    have zd : ∀ c, mb.1 (ndA s i) c = mm.1 (ndA s i) c := fun c => congrFun (zo _ (by unfold ndA; omega) (by unfold ndA; omega) (fun j _ => by unfold ndA; omega) (by unfold ndA; omega)) c
    have r17 : ∀ q, mb.1 (1187 + 17) q = NV g x1 T 0 q := fun q => f3 0 (by decide) q
    have r18 : ∀ q, mb.1 (1187 + 18) q = NV g x1 T 1 q := fun q => f3 1 (by decide) q
    have r19 : ∀ q, mb.1 (1187 + 19) q = NV g x1 T 2 q := fun q => f3 2 (by decide) q
    refine ⟨⟨?_, ?_, ?_, fun c hc3 => ?_⟩, ?_, ?_, ?_, ?_, ?_, fun c hc3 => ?_⟩
    all_goals try dsimp only
    · rw [zd, G 15 (by decide) (by decide)]; exact a1'
    · rw [zd, G 16 (by decide) (by decide)]; exact a2'
    · rw [zd, G 20 (by decide) (by decide)]; exact a3'
    · rw [zn i (by omega), r17, r18, r19]
      have q0 := b3 i hin 0 (by decide) c hc3
      rw [show 3 * 0 + c = c by omega] at q0
      exact ⟨q0, b3 i hin 1 (by decide) c hc3, b3 i hin 2 (by decide) c hc3⟩
    · rw [G 15 (by decide) (by decide)]; exact w1
    · rw [G 15 (by decide) (by decide)]; exact w2
    · rw [G 16 (by decide) (by decide)]; exact w3
    · rw [G 16 (by decide) (by decide), G 0 (by decide) (by decide)]; exact w4
    · rw [G 20 (by decide) (by decide)]; exact w5
    · rw [r17, r18, r19]
      have q0 := hbd 0 (by decide) (3 * i + c) (by omega)
      have q1 := hbd 1 (by decide) (3 * i + c) (by omega)
      have q2 := hbd 2 (by decide) (3 * i + c) (by omega)
      exact ⟨q0.1, q0.2, q1.1, q1.2, q2.1, q2.2⟩
  · refine law2 (B := fun m => F_MD_time (sh0 W H) m 1185 x1) (v := 0) (m1 := mm) (m2 := mI mm 1185 11 0) ?_ ?_ (PB_11 h)
    · unfold F_OB_time
      rw [if_pos (by rw [wi_0, e0, e6]; omega)]
    · show F_MD_time (sh0 W H) mm 1185 x1 = _
      unfold F_MD_time
      rw [zoS_h sh_1185, zoL_e]
      by_cases k : x1 < 0
      · rw [if_pos k]
      · rw [if_neg k, if_neg (by rw [i32_lt, e0] at k; rw [i32_le, e6]; omega)]
end ZTL
