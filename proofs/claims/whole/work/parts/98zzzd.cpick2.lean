/-! PURE: the class picks: its loop -/
section ZCL
variable {W H : Nat} {mm : zMem}
theorem w_placeR {s n : Nat} (h : RF mm.2.2) (hs : gS s) (h5 : mm.2.2 0 5 = some s) (hn : n ≤ 48) (hc : mm.1 (s + 1) 3 = nI n) (hcn : cn (fun a => mm.1 (1187 + a)) 3 = n) (hsc : Rsc mm.1 s (fun a => mm.1 (1187 + a))) (htm : mm.1 s 8 = mm.1 1185 10) (hpl : ¬ mm.1 s 9 = 0 → Plc mm.1 s 1187 n) : zok (F_XScene_placeNodes (sh0 W H) mm s) (fun m' => m'.2 = mm.2 ∧ (∀ k c, ¬ plS s k c → ¬ (k = s ∧ c = 9) → m'.1 k c = mm.1 k c) ∧ (∀ a, (a < 11 ∨ 1121 ≤ a) → m'.1 a = mm.1 a) ∧ fT s mm.1 m'.1 ∧ (∀ a, ¬ (s ≤ a ∧ a < s + 370) → m'.1 a = mm.1 a) ∧ vS m' ∧ Plc m'.1 s 1187 n) := by
  obtain ⟨q1, q2, q3⟩ := par_B hcn hsc
  obtain ⟨l1, l2, l3⟩ := s_lt hs
  have hpn := e_placeNodes (W := W) (H := H) hs (Or.inl rfl) hn h hc q1 q2 hpl
  refine zok_w hpn (fun m' hm => ?_)
  obtain ⟨m1, ⟨p1, p2⟩, rfl, p3⟩ := hm
  have hz2 : (mI m1 s 9 1).2 = mm.2 := p1
  have f : ∀ k c, ¬ plS s k c → ¬ (k = s ∧ c = 9) → (mI m1 s 9 1).1 k c = mm.1 k c := fun k c k1 k2 => by
    rw [mI_v]
    by_cases e : k = s
    · rw [if_pos e, if_neg (fun q => k2 ⟨e, q⟩), p2 k c k1]
    · rw [if_neg e, p2 k c k1]
  have f9 : (mI m1 s 9 1).1 s 9 = 1 := by rw [mI_v, if_pos rfl, if_pos rfl]
  generalize mI m1 s 9 1 = z at hz2 f f9 p3
  have fo : ∀ a, ¬ (s ≤ a ∧ a < s + 370) → z.1 a = mm.1 a := fun a ha => funext fun c => f a c (by rintro (e | ⟨j, j1, e⟩ | ⟨_, j, j1, e⟩) <;> (try unfold ndA at e) <;> omega) (by omega)
  have fl : ∀ a, (a < 11 ∨ 1121 ≤ a) → z.1 a = mm.1 a := fun a ha => fo a (by omega)
  have FT : fT s mm.1 z.1 := fun b hb => funext fun c => f b c (by rintro (e | ⟨j, j1, e⟩ | ⟨_, j, j1, e⟩) <;> (try unfold ndA at e) <;> omega) (by omega)
  refine ⟨hz2, f, fl, FT, fo, ⟨s, hs, by rw [hz2]; exact h5, ⟨RscT_c FT ⟨fun c _ => congrFun (fl (1187 + 0) (by omega)) c, fun j _ q _ => congrFun (fl (1187 + j) (by omega)) q⟩ hsc.1, RscN_c (by rw [hcn]; exact hn) (fun i hi => ⟨fun c c3 => f _ c (plS_nd hs hi (by omega)) (by unfold ndA; omega), funext fun c => f _ c (plS_nn hi) (by unfold ndA; omega)⟩) (congrFun (fl (1187 + 0) (by omega)) 2) (congrFun (fl (1187 + 0) (by omega)) 3) (fun j _ _ q _ => congrFun (fl (1187 + j) (by omega)) q) hsc.2.1, Rcam_d (funext fun c => f _ c (by rintro (e | ⟨j, j1, e⟩ | ⟨_, j, j1, e⟩) <;> (try unfold ndA at e) <;> omega) (by omega)) (fun c _ => ⟨congrFun (fl (1187 + 27) (by omega)) c, congrFun (fl (1187 + 28) (by omega)) c⟩) (congrFun (fl (1187 + 0) (by omega)) 34) hsc.2.2.1, Rlmp_d (funext fun c => f _ c (by rintro (e | ⟨j, j1, e⟩ | ⟨_, j, j1, e⟩) <;> (try unfold ndA at e) <;> omega) (by omega)) (fun c _ => congrFun (fl (1187 + 29) (by omega)) c) (congrFun (fl (1187 + 0) (by omega)) 35) hsc.2.2.2⟩, ?_, fun _ => ?_⟩, p3⟩
  · rw [f s 8 plS_0 (by omega), fl 1185 (by omega)]
    exact htm
  · have hcn' : cn (fun a => z.1 (1187 + a)) 3 = n := by
      rw [← hcn]
      unfold cn
      exact congrArg Int32.toNatClampNeg (congrFun (fl (1187 + 0) (by omega)) 3)
    rw [hcn']
    exact p3
theorem WS_k {s r : Nat} {F : Nat → Nat → Int32} {m m' : zMem} (hs : gS s) (h : WS W H s r F m) (e1 : m'.2.2 = m.2.2) (e2 : ∀ a, 0 < a → a < 1178 → m'.1 a = m.1 a) : WS W H s r F m' := by
  obtain ⟨h1, ⟨h2, h3, h4, h5⟩, h6, h7, h8, h9⟩ := h
  have lt := s_lt hs
  have N := Wsc_n h6.1
  refine ⟨by rw [e1]; exact h1, ⟨by rw [e1]; exact h2, by rw [e2 1121 (by decide) (by decide)]; exact h3, fun i hi => by rw [e2 1175 (by decide) (by decide)]; exact h4 i hi, fun i hi hv q hq => by rw [e2 (1127 + i) (by omega) (by omega)]; exact h5 i hi hv q hq⟩, Cls_c hs (fun b b1 b2 => e2 b (by omega) (by omega)) h6, fun i hi q hq => ?_, by rw [e2 1121 (by decide) (by decide)]; exact h8, ?_⟩
  · have nz : 0 < ndA s i + 2 := by omega
    have : ndA s i + 2 < 1121 := by rcases hs with e | e | e <;> (unfold ndA; omega)
    rw [e2 _ (by omega) (by omega)]; exact h7 i hi q hq
  · obtain ⟨A, B, p1, p2, p3⟩ := h9
    exact ⟨A, B, p1, by rw [e1]; exact p2, by rw [e1]; exact p3⟩
theorem npS_k {s r : Nat} {F : Nat → Nat → Int32} {L : List Pc} {m m' : zMem} (hs : gS s) (h : npS W H s r F L m) (e1 : m'.2.2 = m.2.2) (e2 : ∀ a, 0 < a → a < 1178 → m'.1 a = m.1 a) : npS W H s r F L m' := by
  obtain ⟨h0, h1⟩ := h
  refine ⟨WS_k hs h0 e1 e2, ?_⟩
  rw [e2 1121 (by decide) (by decide)]
  rcases h1 with h1 | ⟨k, fc, i, C, c4, hi, hn, hL⟩
  · exact .inl h1
  · obtain ⟨_, _, hms, _⟩ := e_mtNo (W := W) (H := H) hs h0 C.1 C.2.1
    have N := Wsc_n h0.2.2.1.1
    refine .inr ⟨k, fc, i, ?_, c4, hi, hn, hL⟩
    obtain ⟨q1, q2, q3, q4, q5, ⟨A, B, p1, p2, p3, p4, p5⟩, q7⟩ := C
    have sp : 11 ≤ s := by rcases hs with e | e | e <;> omega
    have lm0 : 0 < msA s (msN (fun a => F (r + a)) ((ordR F r).2 k)) := by unfold msA; omega
    have lm : msA s (msN (fun a => F (r + a)) ((ordR F r).2 k)) + 4 < 1121 := by unfold msA; rcases hs with e | e | e <;> omega
    have nA : 0 < A ∧ A < 1178 := by rcases p1 with ⟨e, f⟩ | ⟨e, f⟩ <;> omega
    exact ⟨q1, by rw [e2 1121 (by decide) (by decide)]; exact q2, by rw [e2 1121 (by decide) (by decide)]; exact q3, q4, PTS_n q5 (e2 1176 (by decide) (by decide)) (e2 _ (by omega) (by omega)), ⟨A, B, p1, by rw [e1]; exact p2, by rw [e1]; exact p3, by rw [e2 1121 (by decide) (by decide)]; exact p4, by rw [e2 A nA.1 nA.2]; exact p5⟩, q7⟩
theorem take_c {p : Pc} {t : List Pc} {d : Nat} : (p :: t).take (d + 1) = p :: t.take d := rfl
theorem e_ndNo {m : zMem} {s r k : Nat} {F : Nat → Nat → Int32} (hS : WS W H s r F m) (hk : k < (ordR F r).1) (h12 : m.1 1121 12 = nI k) : F_XSight_nodeNumber (sh0 W H) m 1121 = some (nI ((ordR F r).2 k), m) := by
  have hob := ord_b (g := fun a => F (r + a)) (vis := visN F r) (ky := fun k => mW F r k 11) (cn (fun a => F (r + a)) 3)
  have hon : (ordR F r).1 ≤ cn (fun a => F (r + a)) 3 := hob.1
  have N := Wsc_n hS.2.2.1.1
  have o75 := hS.2.1.2.2.1 k hk
  unfold F_XSight_nodeNumber
  rw [zoS_h sh_1121, zob_h (rf_1121_10 hS.1), zoS_h sh_1121, h12, zoL_e, zoS_h sh_1175, nI_ix (by omega) (by decide), nI_cl (n := k) (by omega), o75]
set_option maxHeartbeats 2000000 in
theorem e_pk51 {s r x y : Nat} {F : Nat → Nat → Int32} (hs : gS s) (hW8 : 8 ≤ W) (hH8 : 8 ≤ H) (hW48 : W ≤ 48) (hH48 : H ≤ 48) (hx : x < W) (hy : y < H) : ∀ (d n fuel : Nat) (m : zMem) (L : List Pc) (S : kSt) (v4 : Int32) (v5 : Int64), n + d = 36864 → d < fuel → npS W H s r F L m → CKM S v4 v5 m → zok (L_OB_pick_51 (sh0 W H) fuel 0 (nI x) (nI y) 1122 v4 v5 (nI n) m) (fun z => KF m z.2.2.2.2.2.2.2 ∧ hAB z.2.2.2.2.2.2.2 ∧ CKM (pkL x y (L.take d) S) z.2.2.2.2.1 z.2.2.2.2.2.1 z.2.2.2.2.2.2.2) := by
  intro d
  induction d with
  | zero =>
    intro n fuel m L S v4 v5 hn hf hN hC
    obtain ⟨fu, rfl⟩ : ∃ fu, fuel = fu + 1 := ⟨fuel - 1, by omega⟩
    obtain rfl : n = 36864 := by omega
    rw [L_OB_pick_51, if_pos (by decide)]
    exact zok_s ⟨KF_r, hN.1.2.2.2.2.2, hC⟩
  | succ d ih =>
    intro n fuel m L S v4 v5 hn hf hN hC
    obtain ⟨fu, rfl⟩ : ∃ fu, fuel = fu + 1 := ⟨fuel - 1, by omega⟩
    rw [L_OB_pick_51, if_neg (by rw [show (36864 : Int32) = nI 36864 from rfl, nI_leD (by omega) (by omega)]; omega), zoS_h sh_0, zob_h (rf_0_7 hN.1.1), zoS_h sh_1121]
    refine zok_b (e_nextPiece (W := W) (H := H) hs hW8 hH8 hW48 hH48 hN) (fun p hp => ?_)
    obtain ⟨p1, m1⟩ := p
    obtain ⟨x1, xq, x2⟩ := hp
    dsimp only at x1 xq x2 ⊢
    have i0 : m1.1 0 = m.1 0 := x1.2.1 0 (by decide) (by decide) (by decide) (by decide) (by decide)
    rcases x2 with ⟨y0, y1⟩ | ⟨y0, k, fc, P, Y, Z, t, ⟨z1, hkc⟩, z2, z3, z4, z5, z6, z7, z8⟩
    · rw [if_pos y0, y1, List.take_nil]
      obtain ⟨c1, c2, c3, c4⟩ := hC
      exact zok_s ⟨KF_N x1, xq, c1, c2, by show m1.1 0 11 = S.2.1; rw [i0]; exact c3, c4⟩
    · have pc : pcT W H 1122 1123 m1 := ⟨sh_1122, rf_1122_1 z2.1.1, sh_1123⟩
      obtain ⟨c1, c2, c3, c4, c5⟩ := hC
      have hC1 : CKM S v4 v5 m1 := ⟨c1, c2, by rw [i0]; exact c3, c4, c5⟩
      rw [if_neg (by rw [y0]; decide), zoS_h sh_1122]
      obtain ⟨b, mb, mbc⟩ := e_mayC (x := x) (y := y) pc z4.1 z5 z6 z7 z8 (by omega) (by omega)
      rw [zob_h mb]
      dsimp only
      rw [z1, take_c]
      have hxy : 0 ≤ (cX x).toInt ∧ (cX x).toInt ≤ 1200 := by rw [cX_i (by omega)]; omega
      have hyy : 0 ≤ (cX y).toInt ∧ (cX y).toInt ≤ 1200 := by rw [cX_i (by omega)]; omega
      have fin : ∀ (m2 : zMem) (S2 : kSt) (w4 : Int32) (w5 : Int64), KF m1 m2 → npS W H s r F t m2 → CKM S2 w4 w5 m2 → S2 = pk1 x y ((ordR F r).2 k, fc, P, Y, Z) S → zok (L_OB_pick_51 (sh0 W H) fu 0 (nI x) (nI y) 1122 w4 w5 (nI n + 1) m2) (fun z => KF m z.2.2.2.2.2.2.2 ∧ hAB z.2.2.2.2.2.2.2 ∧ CKM (pkL x y (((ordR F r).2 k, fc, P, Y, Z) :: t.take d) S) z.2.2.2.2.1 z.2.2.2.2.2.1 z.2.2.2.2.2.2.2) := fun m2 S2 w4 w5 f2 n2 q2 e2 => by
        rw [nI_p1]
        refine zok_w (ih (n + 1) fu m2 t S2 w4 w5 (by omega) (by omega) n2 q2) (fun z hz => ⟨KF_t (KF_N x1) (KF_t f2 hz.1), hz.2.1, ?_⟩)
        have := hz.2.2
        rw [e2] at this
        exact this
      have none_ : ¬ cov P Y Z (cX x) (cX y) = true → S = pk1 x y ((ordR F r).2 k, fc, P, Y, Z) S := fun hc => by
        unfold pk1
        rw [if_neg (fun q => hc q.1)]
      cases b with
      | false =>
        rw [if_pos (show b32 false = 0 from rfl)]
        exact fin m1 S v4 v5 KF_r z2 hC1 (none_ (fun q => by have := mbc q; cases this))
      | true =>
        rw [if_neg (show ¬ b32 true = 0 by decide), zoS_h sh_1122]
        refine zok_b (e_covC (i := x) (j := y) pc z4.1 z5 z6 z7 (by omega) (by omega)) (fun p hp => ?_)
        obtain ⟨q1, m2⟩ := p
        obtain ⟨e1, f1, g1⟩ := hp
        dsimp only at e1 f1 g1 ⊢
        have n2 : npS W H s r F t m2 := npS_k hs z2 f1.2.1 (fun a _ _ => by rw [f1.1])
        have hC2 : CKM S v4 v5 m2 := ⟨c1, c2, by rw [f1.1, i0]; exact c3, c4, c5⟩
        by_cases hc : cov P Y Z (cX x) (cX y) = true
        · have nr := e_nearC (W := W) (H := H) (m := m2) (O := 1122) (T := 1123) ⟨sh_1122, rf_1122_1 n2.1.1, sh_1123⟩
          rw [(g1 hc).2.2.2, f1.2.2.2, z4.2, zx_div_pos z8] at nr
          have nr' : F_XPiece_near (sh0 W H) m2 1122 = some (pNr P Y Z (are P Y Z) (cX x) (cX y), m2) := nr
          have nb := (cov_b z5 z6 z7 hxy hyy z8 hc).2.2.2.1
          rw [e1, hc, if_neg (show ¬ b32 true = 0 by decide), zoS_h sh_1122, zob_h nr']
          dsimp only
          by_cases hn2 : v5.toInt < (pNr P Y Z (are P Y Z) (cX x) (cX y)).toInt
          · have nd := e_ndNo (W := W) (H := H) n2.1 hkc (by rw [f1.1]; exact z3.1)
            have fcE : m2.1 1121 1 = nI fc := by rw [f1.1]; exact z3.2
            rw [if_neg (by rw [lgc_le, i64_lt]; exact fun q => q hn2), zoS_h sh_1122, zob_h nr']
            dsimp only
            rw [zoS_h sh_0, zob_h (rf_0_7 n2.1.1), zoS_h sh_1121, zob_h nd]
            dsimp only
            rw [zoS_h sh_0, zob_h (rf_0_7 n2.1.1), zoS_h sh_1121, fcE, zoL_e, zoS_h sh_0, zoL_e]
            refine fin (mI m2 0 11 (nI fc)) (nI ((ordR F r).2 k), nI fc, pNr P Y Z (are P Y Z) (cX x) (cX y)) _ _ (KF_t (KF_v f1) ⟨fun _ _ _ => rfl, fun a ha _ => mI_o ha, fun c hc' => by rw [mI_v, if_pos rfl, if_neg hc'], fun _ _ _ _ _ => by rw [mI_o (by decide)], fun _ _ => rfl⟩) (npS_k hs n2 rfl (fun a h0 _ => mI_o (by omega))) ⟨rfl, rfl, by rw [mI_v, if_pos rfl, if_pos rfl], fun q => ?_, by show 0 ≤ (pNr P Y Z (are P Y Z) (cX x) (cX y)).toInt; omega⟩ ?_
            · exfalso
              have q' : nI ((ordR F r).2 k) = -1 := q
              have hob := ord_b (g := fun a => F (r + a)) (vis := visN F r) (ky := fun k => mW F r k 11) (cn (fun a => F (r + a)) 3)
              have h3 : (ordR F r).2 k < cn (fun a => F (r + a)) 3 := (hob.2 k hkc).1
              have N := Wsc_n n2.1.2.2.1.1
              have := congrArg Int32.toInt q'
              rw [nI_toInt (by omega), show ((-1 : Int32)).toInt = -1 from rfl] at this
              omega
            · unfold pk1
              rw [if_pos ⟨hc, Or.inr (by rw [← c2]; exact hn2)⟩]
          · rw [if_pos (by rw [lgc_le, i64_lt]; exact hn2)]
            refine fin m2 S v4 v5 (KF_v f1) n2 hC2 ?_
            unfold pk1
            rw [if_neg (fun q => q.2.elim (fun e => hn2 (by rw [c2, c4 e]; show (0 : Int) < _; omega)) (fun e => hn2 (by rw [c2]; exact e)))]
        · have hc' : cov P Y Z (cX x) (cX y) = false := by cases h : cov P Y Z (cX x) (cX y) with
            | true => exact absurd h hc
            | false => rfl
          rw [e1, hc', if_pos (show b32 false = 0 from rfl)]
          exact fin m2 S v4 v5 (KF_v f1) n2 hC2 (none_ hc)
end ZCL
