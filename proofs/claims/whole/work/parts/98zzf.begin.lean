/-! PURE: the class keeps the pieces -/
section ZBG
variable {W H : Nat}
theorem nar16 : ∀ t : Fin 16, vp_nar .byte ((nI t.val).toInt8.toInt32) = nI t.val := by decide +kernel
/-- the picture holds the pieces of D -/
def PCS (g : Nat → Nat → Int32) (D : List Pc) (f : Nat → Nat → Int32) : Prop := ∀ n p, D[n]? = some p → tri (fun j => f 1179 (18 * n + j)) p.2.2.1 p.2.2.2.1 p.2.2.2.2 ∧ f 1180 n = nI (mtN g p.1) ∧ CP p.2.2.1 ∧ CP p.2.2.2.1 ∧ CP p.2.2.2.2 ∧ 0 < (are p.2.2.1 p.2.2.2.1 p.2.2.2.2).toInt
theorem e_keep {m : zMem} {n mt : Nat} (hR : RF m.2.2) (hn : n < 36864) (hmt : mt < 16) (hc : m.1 1178 10 = nI n) : zok (F_XPicture_keep (sh0 W H) m 1178 1122 (nI mt)) (fun m' => m'.2 = m.2 ∧ (∀ a, a ≠ 1178 → a ≠ 1179 → a ≠ 1180 → m'.1 a = m.1 a) ∧ (∀ c, c ≠ 10 → m'.1 1178 c = m.1 1178 c) ∧ m'.1 1178 10 = nI (n + 1) ∧ (∀ j, j < 18 → m'.1 1179 (18 * n + j) = m.1 1123 j) ∧ (∀ q, q < 18 * n → m'.1 1179 q = m.1 1179 q) ∧ m'.1 1180 n = nI mt ∧ ∀ q, q ≠ n → m'.1 1180 q = m.1 1180 q) := by
  have h18 : (18 : Int32) * nI n = nI (18 * n) := nI_mul 18 n
  have c0 : (0 : Int32).toNatClampNeg = 0 := rfl
  have c18 : (18 : Int32).toNatClampNeg = 18 := rfl
  have nr := nar16 ⟨mt, hmt⟩
  unfold F_XPicture_keep F_XPiece_keepAt
  rw [zoS_h sh_1178, hc, if_neg (by rw [show (36864 : Int32) = nI 36864 from rfl, nI_leD (by omega) (by omega)]; omega), zoS_h sh_1178, zob_h (rf_1178_8 hR), zoS_h sh_1178, zoS_h sh_1122, zoS_h sh_1122, zob_h (rf_1122_1 hR), zoS_h sh_1123, zoS_h sh_1179, h18, if_pos (by rw [nI_cl (n := 18 * n) (by omega)]; exact ⟨by decide, nI_pos (by omega), by decide, by decide, by show 18 * n + 18 ≤ 663552; omega⟩), nI_cl (n := 18 * n) (by omega), c0, c18, zoL_e, zob_e]
  generalize hm1 : mC m 1123 1179 0 (18 * n) 18 = m1
  have r1 : m1.2 = m.2 := by rw [← hm1]; rfl
  have R1 : RF m1.2.2 := by rw [r1]; exact hR
  have e1 : ∀ a, a ≠ 1179 → m1.1 a = m.1 a := fun a ha => by rw [← hm1, mC_1 ha]
  have c1 : m1.1 1178 10 = nI n := by rw [e1 1178 (by decide)]; exact hc
  rw [zoS_h sh_1178, zob_h (rf_1178_9 R1), zoS_h sh_1178, zoL_e, c1, zoL_e, zoS_h sh_1180, nI_ix (by omega) (by decide), nI_cl (n := n) (by omega), nr, zoL_e, zoS_h sh_1178]
  have c2 : (mI m1 1180 n (nI mt)).1 1178 10 = nI n := by rw [mI_o (by decide)]; exact c1
  rw [c2, nI_p1, zoL_e, zoS_h sh_1178, zoL_e]
  refine zok_s ⟨r1, fun a a1 a2 a3 => by rw [mI_o a1, mI_o a3, e1 a a2], fun c hc' => by rw [mI_v, if_pos rfl, if_neg hc', mI_o (by decide), e1 1178 (by decide)], by rw [mI_v, if_pos rfl, if_pos rfl], fun j hj => ?_, fun q hq => ?_, ?_, fun q hq => ?_⟩
  · rw [mI_o (by decide), mI_o (by decide), ← hm1, mC_v, if_pos (by omega), show 0 + (18 * n + j - 18 * n) = j by omega]
  · rw [mI_o (by decide), mI_o (by decide), ← hm1, mC_v, if_neg (by omega)]
  · rw [mI_o (by decide), mI_v, if_pos rfl, if_pos rfl]
  · rw [mI_o (by decide), mI_v, if_pos rfl, if_neg hq, e1 1180 (by decide)]
theorem WS_b {s r : Nat} {F : Nat → Nat → Int32} {m m' : zMem} (hs : gS s) (h : WS W H s r F m) (e1 : m'.2 = m.2) (e2 : ∀ a, a < 1178 → m'.1 a = m.1 a) : WS W H s r F m' := by
  obtain ⟨h1, ⟨h2, h3, h4, h5⟩, h6, h7, h8, h9⟩ := h
  have lt := s_lt hs
  have N := Wsc_n h6.1
  refine ⟨by rw [e1]; exact h1, ⟨by rw [e1]; exact h2, by rw [e2 1121 (by decide)]; exact h3, fun i hi => by rw [e2 1175 (by decide)]; exact h4 i hi, fun i hi hv q hq => by rw [e2 (1127 + i) (by omega)]; exact h5 i hi hv q hq⟩, Cls_c hs (fun b b1 b2 => e2 b (by omega)) h6, fun i hi q hq => ?_, by rw [e2 1121 (by decide)]; exact h8, ?_⟩
  · have : ndA s i + 2 < 1121 := by rcases hs with e | e | e <;> (unfold ndA; omega)
    rw [e2 _ (by omega)]; exact h7 i hi q hq
  · obtain ⟨A, B, p1, p2, p3⟩ := h9
    exact ⟨A, B, p1, by rw [e1]; exact p2, by rw [e1]; exact p3⟩
theorem npS_b {s r : Nat} {F : Nat → Nat → Int32} {L : List Pc} {m m' : zMem} (hs : gS s) (h : npS W H s r F L m) (e1 : m'.2 = m.2) (e2 : ∀ a, a < 1178 → m'.1 a = m.1 a) : npS W H s r F L m' := by
  obtain ⟨h0, h1⟩ := h
  refine ⟨WS_b hs h0 e1 e2, ?_⟩
  rw [e2 1121 (by decide)]
  rcases h1 with h1 | ⟨k, fc, i, C, c4, hi, hn, hL⟩
  · exact .inl h1
  · obtain ⟨_, _, hms, _⟩ := e_mtNo (W := W) (H := H) hs h0 C.1 C.2.1
    have N := Wsc_n h0.2.2.1.1
    refine .inr ⟨k, fc, i, ?_, c4, hi, hn, hL⟩
    obtain ⟨q1, q2, q3, q4, q5, ⟨A, B, p1, p2, p3, p4, p5⟩, q7⟩ := C
    have lm : msA s (msN (fun a => F (r + a)) ((ordR F r).2 k)) + 4 < 1121 := by unfold msA; rcases hs with e | e | e <;> omega
    have nA : A < 1178 := by rcases p1 with ⟨e, f⟩ | ⟨e, f⟩ <;> omega
    exact ⟨q1, by rw [e2 1121 (by decide)]; exact q2, by rw [e2 1121 (by decide)]; exact q3, q4, PTS_n q5 (e2 1176 (by decide)) (e2 _ (by omega)), ⟨A, B, p1, by rw [e1]; exact p2, by rw [e1]; exact p3, by rw [e2 1121 (by decide)]; exact p4, by rw [e2 A nA]; exact p5⟩, q7⟩
/-- what gathering the pieces leaves -/
def BF (m m' : zMem) : Prop := (∀ k j, ¬ (k = 1121 ∧ (j = 2 ∨ j = 14)) → m'.2.2 k j = m.2.2 k j) ∧ (∀ a, ¬ (1121 ≤ a ∧ a ≤ 1180) → m'.1 a = m.1 a) ∧ (∀ c, c ≠ 1 → c ≠ 3 → c ≠ 4 → c ≠ 12 → m'.1 1121 c = m.1 1121 c) ∧ (∀ c, c ≠ 10 → m'.1 1178 c = m.1 1178 c) ∧ ∀ a, a ≠ 1122 → m'.2.1 a = m.2.1 a
theorem BF_t {m m' m'' : zMem} (h : BF m m') (k : BF m' m'') : BF m m'' := ⟨fun a j q => (k.1 a j q).trans (h.1 a j q), fun a q => (k.2.1 a q).trans (h.2.1 a q), fun c h1 h2 h3 h4 => (k.2.2.1 c h1 h2 h3 h4).trans (h.2.2.1 c h1 h2 h3 h4), fun c q => (k.2.2.2.1 c q).trans (h.2.2.2.1 c q), fun a q => (k.2.2.2.2 a q).trans (h.2.2.2.2 a q)⟩
theorem BF_N {m m' : zMem} (h : NF m m') : BF m m' := ⟨h.1, fun a q => h.2.1 a (by omega) (by omega) (by omega) (by omega) (by omega), h.2.2.1, fun c _ => by rw [h.2.1 1178 (by decide) (by decide) (by decide) (by decide) (by decide)], h.2.2.2⟩
theorem BF_r {m : zMem} : BF m m := ⟨fun _ _ _ => rfl, fun _ _ => rfl, fun _ _ _ _ _ => rfl, fun _ _ => rfl, fun _ _ => rfl⟩
set_option maxHeartbeats 2000000 in
theorem e_bg35 {s r : Nat} {F : Nat → Nat → Int32} (hs : gS s) (hW8 : 8 ≤ W) (hH8 : 8 ≤ H) (hW48 : W ≤ 48) (hH48 : H ≤ 48) : ∀ (d n fuel : Nat) (m : zMem) (D L : List Pc), n + d = 36864 → d < fuel → D.length = n → npS W H s r F L m → m.1 1178 10 = nI n → PCS (fun a => F (r + a)) D m.1 → zok (L_OB_begin_35 (sh0 W H) fuel 0 (nI n) m) (fun z => z.1 = 0 ∧ BF m z.2.2 ∧ hAB z.2.2 ∧ z.2.2.1 1178 10 = nI ((D ++ L).take 36864).length ∧ PCS (fun a => F (r + a)) ((D ++ L).take 36864) z.2.2.1) := by
  intro d
  induction d with
  | zero =>
    intro n fuel m D L hn hf hD hN hc hP
    obtain ⟨fu, rfl⟩ : ∃ fu, fuel = fu + 1 := ⟨fuel - 1, by omega⟩
    obtain rfl : n = 36864 := by omega
    have e : (D ++ L).take 36864 = D := by rw [← hD, List.take_left']; rfl
    rw [L_OB_begin_35, if_pos (by decide), e]
    exact zok_s ⟨rfl, BF_r, hN.1.2.2.2.2.2, by rw [hD]; exact hc, hP⟩
  | succ d ih =>
    intro n fuel m D L hn hf hD hN hc hP
    obtain ⟨fu, rfl⟩ : ∃ fu, fuel = fu + 1 := ⟨fuel - 1, by omega⟩
    rw [L_OB_begin_35, if_neg (by rw [show (36864 : Int32) = nI 36864 from rfl, nI_leD (by omega) (by omega)]; omega), zoS_h sh_0, zob_h (rf_0_7 hN.1.1), zoS_h sh_1121]
    refine zok_b (e_nextPiece (W := W) (H := H) hs hW8 hH8 hW48 hH48 hN) (fun p hp => ?_)
    obtain ⟨x1, xq, x2⟩ := hp
    rcases x2 with ⟨y0, y1⟩ | ⟨y0, k, fc, P, Y, Z, t, ⟨z1, hkc⟩, z2, z3, z4, z5, z6, z7, z8⟩
    · rw [if_pos y0, y1, List.append_nil, List.take_of_length_le (by omega)]
      refine zok_s ⟨rfl, BF_N x1, xq, ?_, ?_⟩
      · show p.2.1 1178 10 = _
        rw [x1.2.1 1178 (by decide) (by decide) (by decide) (by decide) (by decide), hD]
        exact hc
      · intro i q hq
        have := hP i q hq
        show tri (fun j => p.2.1 1179 (18 * i + j)) _ _ _ ∧ p.2.1 1180 i = _ ∧ _
        rw [x1.2.1 1179 (by decide) (by decide) (by decide) (by decide) (by decide), x1.2.1 1180 (by decide) (by decide) (by decide) (by decide) (by decide)]
        exact this
    · obtain ⟨hmt, mt16, _, _⟩ := e_mtNo (W := W) (H := H) hs z2.1 hkc z3.1
      have c2 : p.2.1 1178 10 = nI n := by rw [x1.2.1 1178 (by decide) (by decide) (by decide) (by decide) (by decide)]; exact hc
      rw [if_neg (by rw [y0]; decide), zoS_h sh_0, zob_h (rf_0_8 z2.1.1), zoS_h sh_0, zob_h (rf_0_7 z2.1.1), zoS_h sh_1121, zob_h (rf_1121_0 z2.1.1), zoS_h sh_0, zob_h (rf_0_7 z2.1.1), zoS_h sh_1121, zob_h hmt, zoS_h sh_1178]
      refine zok_b (e_keep (W := W) (H := H) (m := p.2) (n := n) z2.1.1 (by omega) mt16 c2) (fun m2 hm2 => ?_)
      obtain ⟨u1, u2, u3, u4, u5, u6, u7, u8⟩ := hm2
      have B2 : BF p.2 m2 := ⟨fun _ _ _ => by rw [u1], fun a ha => u2 a (by omega) (by omega) (by omega), fun c _ _ _ _ => by rw [u2 1121 (by decide) (by decide) (by decide)], u3, fun _ _ => by rw [u1]⟩
      rw [nI_p1]
      have hL : D ++ L = (D ++ [((ordR F r).2 k, fc, P, Y, Z)]) ++ t := by rw [z1, List.append_assoc, List.singleton_append]
      rw [hL]
      refine zok_w (ih (n + 1) fu m2 (D ++ [((ordR F r).2 k, fc, P, Y, Z)]) t (by omega) (by omega) (by rw [List.length_append, hD]; rfl) (npS_b hs z2 u1 (fun a ha => u2 a (by omega) (by omega) (by omega))) u4 (fun i q hq => ?_)) (fun z hz => ⟨hz.1, BF_t (BF_t (BF_N x1) B2) hz.2.1, hz.2.2⟩)
      by_cases e : i < D.length
      · rw [List.getElem?_append_left e] at hq
        have := hP i q hq
        rw [← x1.2.1 1179 (by decide) (by decide) (by decide) (by decide) (by decide), ← x1.2.1 1180 (by decide) (by decide) (by decide) (by decide) (by decide)] at this
        refine ⟨fun j hj => ?_, by rw [u8 i (by omega)]; exact this.2.1, this.2.2⟩
        have t := this.1 j hj
        dsimp only at t ⊢
        rw [u6 (18 * i + j) (by omega), u6 (18 * i + (6 + j)) (by omega), u6 (18 * i + (12 + j)) (by omega)]
        exact t
      · have hi : i = n := by
          have := List.getElem?_eq_some_iff.mp hq
          obtain ⟨hl, _⟩ := this
          rw [List.length_append] at hl
          have hl' : i < D.length + 1 := hl
          omega
        rw [hi, List.getElem?_append_right (by omega), hD, Nat.sub_self] at hq
        have hq' : some ((ordR F r).2 k, fc, P, Y, Z) = some q := hq
        obtain rfl := Option.some.inj hq'
        rw [hi]
        refine ⟨fun j hj => ?_, u7, z5, z6, z7, z8⟩
        have t := z4.1 j hj
        dsimp only
        rw [u5 j (by omega), u5 (6 + j) (by omega), u5 (12 + j) (by omega)]
        exact t
end ZBG
