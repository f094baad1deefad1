/-! PURE: the class begins a picture -/
section ZBC
variable {W H : Nat} {mm : zMem}
theorem mtN_30 {g g' : Nat → Nat → Int32} (h : ∀ q, q < 30 → g q = g' q) : mtN g = mtN g' := by
  have i : ∀ g, mtN (cl30 g) = mtN g := fun _ => rfl
  rw [← i g, cl30_e h, i]
theorem ndsL_g {f f' : Nat → Nat → Int32} {r : Nat} {od : Nat → Nat} (h : ∀ q, q < 30 → f (r + q) = f' (r + q)) : ∀ d k, ndsL W H f r od d k = ndsL W H f' r od d k := by
  have e : ∀ x, nfN f r x = nfN f' r x := fun x => by
    unfold nfN
    have a : msN (fun a => f (r + a)) x = msN (fun a => f' (r + a)) x := by
      show (f (r + 16) x).toNatClampNeg = (f' (r + 16) x).toNatClampNeg
      rw [h 16 (by decide)]
    rw [a, h 10 (by decide)]
  intro d
  induction d with
  | zero => intro k; rfl
  | succ d ih =>
    intro k
    rw [ndsL, ndsL, ih, e, fcsL_c (M' := mW f' r (od k)) (Wd' := wW f' r (od k)) (fun q _ => wW_g h (od k) q) (fun q _ => by rw [wW_c h]) h]
theorem PLr_g {f f' : Nat → Nat → Int32} {r : Nat} (h : ∀ q, q < 30 → f (r + q) = f' (r + q)) : PLr W H f r = PLr W H f' r := by
  unfold PLr
  rw [ordR_g h, ndsL_g h]
set_option maxHeartbeats 2000000 in
theorem e_begC (h : PB W H mm) (hq : hAB mm) (hW8 : 8 ≤ W) (hH8 : 8 ≤ H) (hW48 : W ≤ 48) (hH48 : H ≤ 48) : zok (F_OB_begin (sh0 W H) mm 0) (fun z => z.1 = mm.1 1178 0 ∧ hAB z.2 ∧ ∃ s, gS s ∧ mm.2.2 0 5 = some s ∧ z.2.2.2 1178 3 = some s ∧ (∀ k j, ¬ (k = 1121 ∧ (j = 2 ∨ j = 7 ∨ j = 14)) → ¬ (k = 1178 ∧ j = 3) → z.2.2.2 k j = mm.2.2 k j) ∧ vS z.2 ∧ fT s mm.1 z.2.1 ∧ (∀ a, ¬ (s ≤ a ∧ a < s + 370) → ¬ (1121 ≤ a ∧ a ≤ 1180) → z.2.1 a = mm.1 a) ∧ (z.2.1 1121 5 = mm.1 1121 5 ∧ z.2.1 1121 6 = mm.1 1121 6) ∧ (∀ c, c ≠ 7 → c ≠ 10 → c ≠ 12 → z.2.1 1178 c = mm.1 1178 c) ∧ z.2.1 1178 7 = mm.1 0 10 ∧ z.2.1 1178 12 = 1 ∧ z.2.2.1 1178 13 = 0 ∧ (∀ a, a ≠ 1122 → a ≠ 1178 → z.2.2.1 a = mm.2.1 a) ∧ z.2.1 1178 10 = nI ((PLr W H mm.1 1187).take 36864).length ∧ PCS (fun a => mm.1 (1187 + a)) ((PLr W H mm.1 1187).take 36864) z.2.1) := by
  have hR := h.1
  obtain ⟨s, n, hs, h5, hn, hc, hc', hcn, hsc, htm, hpl⟩ := vS_k h
  have lt := s_lt hs
  obtain ⟨m1, g1, g2, g3, g4, g5, g6, g7, g8⟩ := w_place h hs h5 hn hc hcn hsc htm hpl
  have hR1 : RF m1.2.2 := by rw [g2]; exact hR
  have h51 : m1.2.2 0 5 = some s := by rw [g2]; exact h5
  obtain ⟨s', hs', h5', hsc', htm', hpl'⟩ := g7
  have es : s' = s := by
    rw [h51] at h5'
    exact (Option.some.inj h5').symm
  subst es
  have rows : ∀ q, q < 30 → m1.1 (1187 + q) = mm.1 (1187 + q) := fun q hq' => g4 _ (by omega)
  have hcn1 : cn (fun a => m1.1 (1187 + a)) 3 = n := by
    have e : m1.1 (1187 + 0) = mm.1 (1187 + 0) := rows 0 (by decide)
    show (m1.1 (1187 + 0) 3).toNatClampNeg = n
    rw [e]
    exact hcn
  unfold F_OB_begin
  rw [zoS_h sh_0, zob_h h5, zoS_h (sh_s0 hs), zob_h g1, zoS_h sh_0, zob_h (rf_0_7 hR1), zoS_h sh_0, zob_h h51, zoS_h sh_1121]
  refine zok_b (e_stand (W := W) (H := H) (r := 1187) hs (Or.inl rfl) hR1 (Cls_of hsc') (by rw [hcn1]; exact g8)) (fun m2 hm2 => ?_)
  obtain ⟨S2, r2, f2, k2, c12, c1, c3, c4⟩ := hm2
  have hR2 : RF m2.2.2 := fun k j hk => by
    rw [r2]
    exact (mR_ne (fun q => hk (by unfold rMut; omega))).trans (hR1 k j hk)
  have ref2 : ∀ k j, ¬ (k = 1121 ∧ j = 7) → m2.2.2 k j = mm.2.2 k j := fun k j hk => by
    rw [r2]
    exact (mR_ne hk).trans (by rw [g2])
  have h52 : m2.2.2 0 5 = some s' := (ref2 0 5 (by omega)).trans h5
  rw [zoS_h sh_0, zob_h (rf_0_8 hR2), zoS_h sh_0, zob_h h52, zoS_h sh_0, zoS_h sh_1178]
  have hst : F_XPicture_start (sh0 W H) m2 1178 s' (m2.1 0 10) = some (mI (mL (mI (mI (mR m2 1178 3 (some s')) 1178 7 (m2.1 0 10)) 1178 12 1) 1178 13 0) 1178 10 0) := by
    unfold F_XPicture_start
    rw [zoS_h sh_1178, zoL_e, zoS_h sh_1178, zoL_e, zoS_h sh_1178, zoL_e, zoS_h sh_1178, zoL_e, zoS_h sh_1178, zoL_e]
  rw [zob_h hst]
  generalize hm3 : mI (mL (mI (mI (mR m2 1178 3 (some s')) 1178 7 (m2.1 0 10)) 1178 12 1) 1178 13 0) 1178 10 0 = m3
  have a3 : ∀ a, a ≠ 1178 → m3.1 a = m2.1 a := fun a ha => by rw [← hm3, mI_o ha, mL_1, mI_o ha, mI_o ha, mR_1]
  have v3 : ∀ c, m3.1 1178 c = if c = 10 then 0 else if c = 12 then 1 else if c = 7 then m2.1 0 10 else m2.1 1178 c := fun c => by rw [← hm3, mI_v, if_pos rfl, mL_1, mI_v, if_pos rfl, mI_v, if_pos rfl, mR_1]
  have l3 : ∀ a, a ≠ 1178 → m3.2.1 a = m2.2.1 a := fun a ha => by
    rw [← hm3]
    show (mL (mI (mI (mR m2 1178 3 (some s')) 1178 7 (m2.1 0 10)) 1178 12 1) 1178 13 0).2.1 a = _
    rw [mL_o ha]
    rfl
  have l13 : m3.2.1 1178 13 = 0 := by
    rw [← hm3]
    show (mL (mI (mI (mR m2 1178 3 (some s')) 1178 7 (m2.1 0 10)) 1178 12 1) 1178 13 0).2.1 1178 13 = 0
    rw [mL_v, if_pos rfl, if_pos rfl]
  have q3 : m3.2.2 = (mR m2 1178 3 (some s')).2.2 := by rw [← hm3]; rfl
  have ref3 : ∀ k j, ¬ (k = 1178 ∧ j = 3) → m3.2.2 k j = m2.2.2 k j := fun k j hk => by rw [q3]; exact mR_ne hk
  have ref33 : m3.2.2 1178 3 = some s' := by rw [q3]; exact mR_e
  have hR3 : RF m3.2.2 := fun k j hk => (ref3 k j (fun q => hk (by unfold rMut; omega))).trans (hR2 k j hk)
  have hq3 : hAB m3 := by
    obtain ⟨A, B, p1, p2, p3⟩ := hq
    exact ⟨A, B, p1, by rw [ref3 1121 2 (by omega), ref2 1121 2 (by omega)]; exact p2, by rw [ref3 1121 14 (by omega), ref2 1121 14 (by omega)]; exact p3⟩
  have vk := h.2.1.2.1
  have WS3 : WS W H s' 1187 m1.1 m3 := by
    refine ⟨hR3, ⟨by rw [ref3 1121 7 (by omega)]; exact S2.1, by rw [a3 1121 (by decide)]; exact S2.2.1, fun k hk => by rw [a3 1175 (by decide)]; exact S2.2.2.1 k hk, fun i hi hv k hk => by rw [a3 (1127 + i) (by omega)]; exact S2.2.2.2 i hi hv k hk⟩, Cls_c hs (fun b b1 b2 => by rw [a3 b (by omega), f2 b (by omega)]) (Cls_of hsc'), fun i hi q hq' => ?_, ?_, hq3⟩
    · have hi' : i < n := by rw [← hcn1]; exact hi
      have : ndA s' i + 2 < 1121 := by rcases hs with e | e | e <;> (unfold ndA; omega)
      rw [a3 _ (by omega), f2 _ (by omega)]
      exact (g8 i hi').2 q hq'
    · rw [a3 1121 (by decide), k2 5 (by decide) (by decide) (by decide) (by decide) (by decide), k2 6 (by decide) (by decide) (by decide) (by decide) (by decide), g4 1121 (by omega)]
      exact vk
  have N3 : npS W H s' 1187 m1.1 (PLr W H m1.1 1187) m3 := ⟨WS3, .inl ⟨by rw [a3 1121 (by decide)]; exact c4, by rw [a3 1121 (by decide)]; exact c3, by rw [a3 1121 (by decide)]; exact c12, by rw [a3 1121 (by decide)]; exact c1, rfl⟩⟩
  refine zok_b (show zok (L_OB_begin_35 (sh0 W H) zfuel 0 (nI 0) m3) _ from e_bg35 (W := W) (H := H) hs hW8 hH8 hW48 hH48 36864 0 zfuel m3 [] (PLr W H m1.1 1187) (by decide) (zf_lt (by decide)) rfl N3 (by rw [v3, if_pos rfl]; rfl) (fun i p hp => by simp at hp)) (fun z hz => ?_)
  obtain ⟨z0, z1, m4⟩ := z
  obtain ⟨y0, B4, q4, y1, y2⟩ := hz
  simp only at y0 B4 q4 y1 y2
  subst y0
  dsimp only
  have hR4 : RF m4.2.2 := fun k j hk => (B4.1 k j (fun q => hk (by unfold rMut; omega))).trans (hR3 k j hk)
  rw [List.nil_append, PLr_g rows] at y1 y2
  have hfr : ∀ a, ¬ (1121 ≤ a ∧ a ≤ 1180) → m4.1 a = m1.1 a := fun a ha => by rw [B4.2.1 a ha, a3 a (by omega), f2 a (by omega)]
  have hmt : mtN (fun a => m1.1 (1187 + a)) = mtN (fun a => mm.1 (1187 + a)) := mtN_30 rows
  have h24 : m4.2.2 0 5 = some s' := by rw [B4.1 0 5 (by omega), ref3 0 5 (by omega)]; exact h52
  rw [zoS_h sh_0, zob_h (rf_0_8 hR4), zoS_h sh_1178]
  have r10 : m2.1 0 10 = mm.1 0 10 := by rw [f2 0 (by omega), g4 0 (by omega)]
  have r78 : ∀ c, m2.1 1178 c = mm.1 1178 c := fun c => by rw [f2 1178 (by omega), g4 1178 (by omega)]
  refine zok_s ⟨?_, q4, s', hs, h5, ?_, fun k j k1 k2' => ?_, ?_, fun b hb => ?_, fun a a1 a2 => ?_, ⟨?_, ?_⟩, fun c c1 c2 c3 => ?_, ?_, ?_, ?_, fun a a1 a2 => ?_, y1, ?_⟩
  · show m4.1 1178 0 = _
    rw [B4.2.2.2.1 0 (by decide), v3, if_neg (by decide), if_neg (by decide), if_neg (by decide), r78]
  · show m4.2.2 1178 3 = _
    rw [B4.1 1178 3 (by omega)]; exact ref33
  · show m4.2.2 k j = _
    rw [B4.1 k j (by omega), ref3 k j k2', ref2 k j (by omega)]
  · exact ⟨s', hs, h24, Rsc_c (fun b b1 b2 => hfr b (by omega)) (fun c _ => congrFun (hfr 1187 (by omega)) c) (fun j j1 j2 q _ => congrFun (hfr (1187 + j) (by omega)) q) hsc', by show m4.1 s' 8 = m4.1 1185 10; rw [hfr s' (by omega), hfr 1185 (by omega)]; exact htm', fun e => by
      have e' : ¬ m1.1 s' 9 = 0 := by rw [← hfr s' (by omega)]; exact e
      have hcc : cn (fun a => m4.1 (1187 + a)) 3 = cn (fun a => m1.1 (1187 + a)) 3 := by
        show (m4.1 (1187 + 0) 3).toNatClampNeg = (m1.1 (1187 + 0) 3).toNatClampNeg
        rw [hfr (1187 + 0) (by omega)]
      rw [hcc]
      exact Plc_c (by rw [hcn1]; exact hn) (fun b b1 b2 => hfr b (by omega)) (fun q hq' => hfr _ (by omega)) (hpl' e')⟩
  · show m4.1 b = _
    rw [hfr b (by omega)]
    exact g5 b hb
  · show m4.1 a = _
    rw [hfr a a2, g6 a a1]
  · show m4.1 1121 5 = _
    rw [B4.2.2.1 5 (by decide) (by decide) (by decide) (by decide), a3 1121 (by decide), k2 5 (by decide) (by decide) (by decide) (by decide) (by decide), g4 1121 (by omega)]
  · show m4.1 1121 6 = _
    rw [B4.2.2.1 6 (by decide) (by decide) (by decide) (by decide), a3 1121 (by decide), k2 6 (by decide) (by decide) (by decide) (by decide) (by decide), g4 1121 (by omega)]
  · show m4.1 1178 c = _
    rw [B4.2.2.2.1 c c2, v3, if_neg c2, if_neg c3, if_neg c1, r78]
  · show m4.1 1178 7 = _
    rw [B4.2.2.2.1 7 (by decide), v3, if_neg (by decide), if_neg (by decide), if_pos rfl, r10]
  · show m4.1 1178 12 = _
    rw [B4.2.2.2.1 12 (by decide), v3, if_neg (by decide), if_pos rfl]
  · show m4.2.1 1178 13 = 0
    rw [B4.2.2.2.2 1178 (by decide)]; exact l13
  · show m4.2.1 a = _
    rw [B4.2.2.2.2 a a1, l3 a a2, r2]
    show m1.2.1 a = _
    rw [g2]
  · intro i p hp
    have := y2 i p hp
    rw [hmt] at this
    exact this
end ZBC
