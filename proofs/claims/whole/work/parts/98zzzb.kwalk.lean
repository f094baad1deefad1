/-! PURE: the reference walks over all pieces to pick -/
section ZKW
variable {W H : Nat}
set_option maxHeartbeats 8000000 in
theorem e_pieceK {r nd fcn k n le to ri bo : Nat} {l : List (Nat → Int64)} {f w8 h8 : Int64} {g : Nat → Nat → Int32} {S : kSt} {m : zMem} (hr : gM r) (hW : Wsc g) (hX : Wtx g) (hnd : nd < cn g 3) (hmd : 0 ≤ (g 16 nd).toInt) (hl : l.length ≤ 19) (hk1 : 1 ≤ k) (hk : k + 1 < l.length) (hCP : ∀ q, q < l.length → CP (pcr f w8 h8 (l.getD q oF))) (hW48 : W ≤ 48) (hH48 : H ≤ 48) (hri : ri ≤ W) (hler : ri = le + 1) (htob : bo = to + 1) (hbo : bo ≤ H) (hI : pcIk (W := W) r nd 0 0 l f w8 h8 g m) (hrc : rctI le to ri bo m) (hn : n ≤ 36864) (hcnt : m.1 1285 0 = nI n) (hS : PKM W H S m) : zok (F_MPainter_goOverPiece (sh0 W H) m 1285 (nI nd) (nI fcn) (nI k)) (fun m' => GPk m m' ∧ m'.1 1285 0 = nI (min 36864 (n + (fan1 (decide (g 7 (mtN g nd) = 1)) nd fcn (pcr f w8 h8 (l.getD 0 oF)) (pcr f w8 h8 (l.getD k oF)) (pcr f w8 h8 (l.getD (k + 1) oF))).length)) ∧ PKM W H (pkL le to ((fan1 (decide (g 7 (mtN g nd) = 1)) nd fcn (pcr f w8 h8 (l.getD 0 oF)) (pcr f w8 h8 (l.getD k oF)) (pcr f w8 h8 (l.getD (k + 1) oF))).take (36864 - n)) S) m') := by
  have hI' := hI
  obtain ⟨h1, h2, h3, h4, h5, h6, h7⟩ := hI
  obtain ⟨r6, r7, r8, r9⟩ := hrc
  have e0 : (0 : Int64).toInt = 0 := rfl
  have ha := e_are (W := W) (H := H) (m := m) (a := 0) (b := k) (c := k + 1) h1 hl h5 (by omega) (by omega) hk
  have hai := are_i (hCP 0 (by omega)) (hCP k (by omega)) (hCP (k + 1) hk)
  have hWm : Wsc (fun a => m.1 (r + a)) := Wsc_g h3 hW
  have hmt : mtN (fun a => m.1 (r + a)) nd = mtN g nd := by unfold mtN msN; simp only [h3 8 (by decide), h3 16 (by decide)]
  have hmo := e_mto (W := W) (H := H) h1 h2 hr hWm (i := nd) (by rw [cn_g h3]; exact hnd) (by rw [h3 16 (by decide)]; exact hmd)
  rw [hmt] at hmo
  obtain ⟨_, _, _, hmtl⟩ := Wsc_ms hW hnd hmd
  have N := Wsc_n hW
  have w7 := (hW.2.1 _ hmtl).2.2.2
  unfold F_MPainter_goOverPiece fan1
  rw [zoS_h sh_1285, nI_p1, show F_MPainter_area (sh0 W H) m 1285 0 (nI k) (nI (k + 1)) = _ from ha, zob_e]
  dsimp only
  have paint : ∀ (b c : Nat) (v4 : Int64), b < l.length → c < l.length → 0 < (are (pcr f w8 h8 (l.getD 0 oF)) (pcr f w8 h8 (l.getD b oF)) (pcr f w8 h8 (l.getD c oF))).toInt → (if lg_cmp v4 0 ≤ 0 then -v4 else v4) = are (pcr f w8 h8 (l.getD 0 oF)) (pcr f w8 h8 (l.getD b oF)) (pcr f w8 h8 (l.getD c oF)) → n < 36864 → zok (Option.bind (L_MPainter_goOverPiece_100 (sh0 W H) zfuel 1285 (nI nd) (nI fcn) v4 (nI b) (nI c) (nI to) (mI m 1285 0 (nI (n + 1)))) (fun q => some q.2.2.2.2.2.2.2)) (fun m' => GPk m m' ∧ m'.1 1285 0 = nI (min 36864 (n + [((nd, fcn, pcr f w8 h8 (l.getD 0 oF), pcr f w8 h8 (l.getD b oF), pcr f w8 h8 (l.getD c oF)) : Pc)].length)) ∧ PKM W H (pkL le to ([((nd, fcn, pcr f w8 h8 (l.getD 0 oF), pcr f w8 h8 (l.getD b oF), pcr f w8 h8 (l.getD c oF)) : Pc)].take (36864 - n)) S) m') := fun b c v4 hb hc har hv4 hn2 => by
    have gp0 : GPk m (mI m 1285 0 (nI (n + 1))) := ⟨rfl, fun a _ a2 => mI_o a2, fun c hc => by rw [mI_v, if_pos rfl, if_neg hc.1], fun _ _ _ => rfl⟩
    have hI0 : pcIk (W := W) r nd b c l f w8 h8 g (mI m 1285 0 (nI (n + 1))) := pcIk_P hr hI' gp0
    have hS0 : PKM W H S (mI m 1285 0 (nI (n + 1))) := ⟨by rw [mI_v, if_pos rfl, if_neg (by decide)]; exact hS.1, by rw [mI_v, if_pos rfl, if_neg (by decide)]; exact hS.2.1, hS.2.2⟩
    refine zok_b (e_p100K (W := W) (H := H) (fcn := fcn) (v4 := v4) (S := S) (le := le) (to := to) (ri := ri) (bo := bo) hr hl (by omega) hb hc hCP hW48 hH48 hri hler htob hbo har hv4 hI0 ⟨by rw [gp0.2.2.1 6 (by decide)]; exact r6, by rw [gp0.2.2.1 7 (by decide)]; exact r7, by rw [gp0.2.2.1 8 (by decide)]; exact r8, by rw [gp0.2.2.1 9 (by decide)]; exact r9⟩ hS0) (fun q hq => zok_s ?_)
    obtain ⟨⟨q1, q0⟩, q2⟩ := hq
    have tk : [((nd, fcn, pcr f w8 h8 (l.getD 0 oF), pcr f w8 h8 (l.getD b oF), pcr f w8 h8 (l.getD c oF)) : Pc)].take (36864 - n) = [((nd, fcn, pcr f w8 h8 (l.getD 0 oF), pcr f w8 h8 (l.getD b oF), pcr f w8 h8 (l.getD c oF)) : Pc)] := List.take_of_length_le (by show 1 ≤ _; omega)
    rw [tk]
    refine ⟨GPk_t gp0 q1, ?_, q2⟩
    rw [q0, mI_v, if_pos rfl, if_pos rfl]
    show nI (n + 1) = nI (min 36864 (n + 1))
    rw [Nat.min_eq_right (by omega)]
  have full : ∀ (ps : List Pc), n = 36864 → zok (some m) (fun m' => GPk m m' ∧ m'.1 1285 0 = nI (min 36864 (n + ps.length)) ∧ PKM W H (pkL le to (ps.take (36864 - n)) S) m') := fun ps hnn => by
    have : ps.take (36864 - n) = [] := by rw [hnn, Nat.sub_self]; exact List.take_zero
    rw [this]
    exact zok_s ⟨GPk_r, by rw [hcnt, Nat.min_eq_left (by omega), hnn], hS⟩
  generalize hAB : are (pcr f w8 h8 (l.getD 0 oF)) (pcr f w8 h8 (l.getD k oF)) (pcr f w8 h8 (l.getD (k + 1) oF)) = V at hai ⊢
  by_cases z : V.toInt = 0
  · rw [if_pos (lgc_eq.mpr (by rw [e0]; exact z)), if_neg (by omega), if_neg (fun q => by omega)]
    exact zok_s ⟨GPk_r, by rw [hcnt]; show nI n = nI (min 36864 (n + 0)); rw [Nat.add_zero, Nat.min_eq_right hn], by rw [List.take_nil]; exact hS⟩
  rw [if_neg (fun q => z (by rw [lgc_eq, e0] at q; exact q))]
  by_cases p : 0 < V.toInt
  · have lp : ¬ lg_cmp V 0 ≤ 0 := fun q => lgc_le.mp q (by rw [i64_lt, e0]; exact p)
    rw [if_pos (lgc_ge.mpr (by rw [i64_lt, e0]; omega)), if_pos p, zoS_h sh_1285, hcnt]
    by_cases e : nI n = 36864
    · rw [if_pos e]
      exact full _ (by rw [show (36864 : Int32) = nI 36864 from rfl, nI_eqD (by omega) (by decide)] at e; exact e)
    · have hn2 : n < 36864 := by
        rw [show (36864 : Int32) = nI 36864 from rfl, nI_eqD (by omega) (by decide)] at e
        omega
      rw [if_neg e, zoS_h sh_1285, zoL_e, nI_p1, zoS_h sh_1285, zoL_e, if_neg lp, if_neg lp, zoL_e, zoS_h sh_1285, zoL_e, mI_v, if_pos rfl, if_neg (show ¬ (7 = 0) by decide), r7]
      exact paint k (k + 1) V (by omega) hk (by rw [hAB]; exact p) (by rw [if_neg lp, hAB]) hn2
  · have lp : lg_cmp V 0 ≤ 0 := lgc_le.mpr (by rw [i64_lt, e0]; omega)
    rw [if_neg (fun q => by have := lgc_ge.mp q; rw [i64_lt, e0] at this; omega), if_neg p, zoS_h sh_1285, zob_h h2, zoS_h (sh_m0 hr), zob_h (rf_m11 h1 hr), zoS_h sh_1285, zob_h hmo, zoS_h (sh_m7 hr)]
    dsimp only
    rw [nI_ix (by omega) (by decide), nI_cl (n := mtN g nd) (by omega), h3 7 (by decide)]
    have hneg : (-V).toInt = -V.toInt := i64_neg (by omega)
    by_cases bo' : g 7 (mtN g nd) = 0
    · rw [if_pos bo', if_neg (fun q => by have := q.2; rw [bo'] at this; exact absurd this (by decide))]
      exact zok_s ⟨GPk_r, by rw [hcnt]; show nI n = nI (min 36864 (n + 0)); rw [Nat.add_zero, Nat.min_eq_right hn], by rw [List.take_nil]; exact hS⟩
    · have b1 : g 7 (mtN g nd) = 1 := w7.resolve_left bo'
      rw [if_neg bo', if_pos (show V.toInt < 0 ∧ decide (g 7 (mtN g nd) = 1) = true from ⟨by omega, by rw [b1]; decide⟩), zoS_h sh_1285, hcnt]
      by_cases e : nI n = 36864
      · rw [if_pos e]
        exact full _ (by rw [show (36864 : Int32) = nI 36864 from rfl, nI_eqD (by omega) (by decide)] at e; exact e)
      · have hn2 : n < 36864 := by
          rw [show (36864 : Int32) = nI 36864 from rfl, nI_eqD (by omega) (by decide)] at e
          omega
        rw [if_neg e, zoS_h sh_1285, zoL_e, nI_p1, zoS_h sh_1285, zoL_e, if_pos lp, zoL_e, if_pos lp, zoS_h sh_1285, zoL_e, mI_v, if_pos rfl, if_neg (show ¬ (7 = 0) by decide), r7]
        exact paint (k + 1) k V hk (by omega) (by rw [are_sw, hAB, hneg]; omega) (by rw [if_pos lp, are_sw, hAB]) hn2
theorem e_g218K {r nd fcn le to ri bo : Nat} {l : List (Nat → Int64)} {f w8 h8 : Int64} {g : Nat → Nat → Int32} (hr : gM r) (hW : Wsc g) (hX : Wtx g) (hnd : nd < cn g 3) (hmd : 0 ≤ (g 16 nd).toInt) (hl : l.length ≤ 19) (hCP : ∀ q, q < l.length → CP (pcr f w8 h8 (l.getD q oF))) (hW48 : W ≤ 48) (hH48 : H ≤ 48) (hri : ri ≤ W) (hler : ri = le + 1) (htob : bo = to + 1) (hbo : bo ≤ H) : ∀ (d k fuel n : Nat) (m : zMem) (S : kSt), l.length ≤ k + 1 + d → 1 ≤ k → d < fuel → k ≤ 20 → pcIk (W := W) r nd 0 0 l f w8 h8 g m → rctI le to ri bo m → n ≤ 36864 → m.1 1285 0 = nI n → m.1 1285 26 = nI l.length → PKM W H S m → zok (L_MPainter_goOverFace_218 (sh0 W H) fuel 1285 (nI nd) (nI fcn) (nI k) m) (fun q => GPk m q.2.2.2.2 ∧ q.2.2.2.2.1 1285 0 = nI (min 36864 (n + (fanG (decide (g 7 (mtN g nd) = 1)) nd fcn (pcr f w8 h8 (l.getD 0 oF)) ((l.map (pcr f w8 h8)).drop k)).length)) ∧ PKM W H (pkL le to ((fanG (decide (g 7 (mtN g nd) = 1)) nd fcn (pcr f w8 h8 (l.getD 0 oF)) ((l.map (pcr f w8 h8)).drop k)).take (36864 - n)) S) q.2.2.2.2) := by
  have dropP : ∀ c, c < l.length → (l.map (pcr f w8 h8)).drop c = pcr f w8 h8 (l.getD c oF) :: (l.map (pcr f w8 h8)).drop (c + 1) := fun c hc => by
    have hc' : c < (l.map (pcr f w8 h8)).length := by rw [List.length_map]; exact hc
    rw [List.drop_eq_getElem_cons hc', List.getElem_map, List.getD_eq_getElem?_getD, List.getElem?_eq_getElem hc, Option.getD_some]
  have stop : ∀ k, 1 ≤ k → l.length ≤ k + 1 → fanG (decide (g 7 (mtN g nd) = 1)) nd fcn (pcr f w8 h8 (l.getD 0 oF)) ((l.map (pcr f w8 h8)).drop k) = [] := fun k hk hkl => by
    by_cases e : k < l.length
    · rw [dropP k e, List.drop_eq_nil_of_le (by rw [List.length_map]; omega)]
      rfl
    · rw [List.drop_eq_nil_of_le (by rw [List.length_map]; omega)]
      rfl
  intro d
  induction d with
  | zero =>
    intro k fuel n m S hk hk1 hf hk20 hI hrc hn hcnt h26 hS
    obtain ⟨fu, rfl⟩ : ∃ fu, fuel = fu + 1 := ⟨fuel - 1, by omega⟩
    rw [L_MPainter_goOverFace_218, zoS_h sh_1285, h26, nI_p1, if_pos (by rw [nI_leD (by omega) (by omega)]; omega), stop k hk1 (by omega)]
    exact zok_s ⟨GPk_r, by rw [hcnt]; show nI n = nI (min 36864 (n + 0)); rw [Nat.add_zero, Nat.min_eq_right hn], by rw [List.take_nil]; exact hS⟩
  | succ d ih =>
    intro k fuel n m S hk hk1 hf hk20 hI hrc hn hcnt h26 hS
    obtain ⟨fu, rfl⟩ : ∃ fu, fuel = fu + 1 := ⟨fuel - 1, by omega⟩
    rw [L_MPainter_goOverFace_218, zoS_h sh_1285, h26, nI_p1]
    by_cases e : l.length ≤ k + 1
    · rw [if_pos (by rw [nI_leD (by omega) (by omega)]; omega), stop k hk1 e]
      exact zok_s ⟨GPk_r, by rw [hcnt]; show nI n = nI (min 36864 (n + 0)); rw [Nat.add_zero, Nat.min_eq_right hn], by rw [List.take_nil]; exact hS⟩
    · rw [if_neg (by rw [nI_leD (by omega) (by omega)]; omega), zoS_h sh_1285]
      refine zok_b (e_pieceK (W := W) (H := H) (fcn := fcn) (k := k) (n := n) (S := S) (m := m) hr hW hX hnd hmd hl hk1 (by omega) hCP hW48 hH48 hri hler htob hbo hI hrc hn hcnt hS) (fun m2 h2 => ?_)
      obtain ⟨a1, a2, a3⟩ := h2
      refine zok_w (ih (k + 1) fu _ m2 _ (by omega) (by omega) (by omega) (by omega) (pcIk_P hr hI a1) ⟨by rw [a1.2.2.1 6 (by decide)]; exact hrc.1, by rw [a1.2.2.1 7 (by decide)]; exact hrc.2.1, by rw [a1.2.2.1 8 (by decide)]; exact hrc.2.2.1, by rw [a1.2.2.1 9 (by decide)]; exact hrc.2.2.2⟩ (Nat.min_le_left _ _) a2 (by rw [a1.2.2.1 26 (by decide)]; exact h26) a3) (fun q hq => ?_)
      obtain ⟨b1, b2, b3⟩ := hq
      have ef : fanG (decide (g 7 (mtN g nd) = 1)) nd fcn (pcr f w8 h8 (l.getD 0 oF)) ((l.map (pcr f w8 h8)).drop k) = fan1 (decide (g 7 (mtN g nd) = 1)) nd fcn (pcr f w8 h8 (l.getD 0 oF)) (pcr f w8 h8 (l.getD k oF)) (pcr f w8 h8 (l.getD (k + 1) oF)) ++ fanG (decide (g 7 (mtN g nd) = 1)) nd fcn (pcr f w8 h8 (l.getD 0 oF)) ((l.map (pcr f w8 h8)).drop (k + 1)) := by
        rw [dropP k (by omega), dropP (k + 1) (by omega), fanG_s]
      rw [ef, take_app hn, pkL_a, List.length_append, ← min_app]
      exact ⟨GPk_t a1 b1, b2, b3⟩
/-- what a face leaves when it is picked -/
def GEk (m0 m : zMem) : Prop := m.2.2 = m0.2.2 ∧ (∀ k, k ≠ 1285 → k ≠ 1285 → m.1 k = m0.1 k) ∧ (∀ c, (c ≠ 0 ∧ c ≠ 11 ∧ c ≠ 12) → c ≠ 26 → m.1 1285 c = m0.1 1285 c) ∧ ∀ k, k ≠ 1285 → k ≠ 1301 → ¬ (1295 ≤ k ∧ k < 1301) → m.2.1 k = m0.2.1 k
theorem GEk_t {m m' m'' : zMem} (h : GEk m m') (k : GEk m' m'') : GEk m m'' := ⟨k.1.trans h.1, fun a h1 h2 => (k.2.1 a h1 h2).trans (h.2.1 a h1 h2), fun c h1 h2 => (k.2.2.1 c h1 h2).trans (h.2.2.1 c h1 h2), fun a h1 h2 h3 => (k.2.2.2 a h1 h2 h3).trans (h.2.2.2 a h1 h2 h3)⟩
def fcIk (W H r : Nat) (g : Nat → Nat → Int32) (m : zMem) : Prop := RF m.2.2 ∧ m.2.2 1285 5 = some r ∧ (∀ a, a < 30 → m.1 (r + a) = g a) ∧ m.1 1285 1 = nI W ∧ m.1 1285 2 = nI H ∧ m.1 1285 10 = 0
theorem fcIk_E {r : Nat} {g : Nat → Nat → Int32} {m m' : zMem} (hr : gM r) (h : fcIk W H r g m) (k : GEk m m') : fcIk W H r g m' := by
  obtain ⟨h1, h2, h3, h4, h5, h6⟩ := h
  exact ⟨by rw [k.1]; exact h1, by rw [k.1]; exact h2, fun a ha => by rw [k.2.1 _ (by rcases hr with e | e | e <;> omega) (by rcases hr with e | e | e <;> omega)]; exact h3 a ha, by rw [k.2.2.1 1 (by decide) (by decide)]; exact h4, by rw [k.2.2.1 2 (by decide) (by decide)]; exact h5, by rw [k.2.2.1 10 (by decide) (by decide)]; exact h6⟩
set_option maxHeartbeats 8000000 in
theorem e_gfaceK {r nd fc n le to ri bo : Nat} {g : Nat → Nat → Int32} {S : kSt} {m : zMem} (hr : gM r) (hW : Wsc g) (hX : Wtx g) (hnd : nd < cn g 3) (hmd : 0 ≤ (g 16 nd).toInt) (hfc : fc < (g 10 (msN g nd)).toNatClampNeg) (hW8 : 8 ≤ W) (hH8 : 8 ≤ H) (hW48 : W ≤ 48) (hH48 : H ≤ 48) (hri : ri ≤ W) (hler : ri = le + 1) (htob : bo = to + 1) (hbo : bo ≤ H) (hI : fcIk W H r g m) (hrc : rctI le to ri bo m) (hn : n ≤ 36864) (hcnt : m.1 1285 0 = nI n) (hS : PKM W H S m) : zok (F_MPainter_goOverFace (sh0 W H) m 1285 (nI nd) (nI fc)) (fun m' => GEk m m' ∧ m'.1 1285 0 = nI (min 36864 (n + (fcL W H (m.2.1 1288) (m.2.1 1286) m.1 r nd fc).length)) ∧ PKM W H (pkL le to ((fcL W H (m.2.1 1288) (m.2.1 1286) m.1 r nd fc).take (36864 - n)) S) m') := by
  have hI' := hI
  obtain ⟨h1, h2, h3, h4, h5, h6⟩ := hI
  have hmsE : msN (fun a => m.1 (r + a)) nd = msN g nd := by unfold msN; simp only [h3 16 (by decide)]
  have hmtE : mtN (fun a => m.1 (r + a)) nd = mtN g nd := by unfold mtN msN; simp only [h3 16 (by decide), h3 8 (by decide)]
  obtain ⟨q1, q2, q3, q4⟩ := Wsc_ms hW hnd hmd
  have N := Wsc_n hW
  have hWm : Wsc (fun a => m.1 (r + a)) := Wsc_g h3 hW
  have c2 := cn_g (c := 2) h3
  obtain ⟨_, _, np, nf, n1, n2, n3, n4, _, n6, _⟩ := hW.2.2.1 _ q2
  have hfc128 : fc < 128 := by rw [n6, nI_cl (by omega)] at hfc; omega
  have wf : whf (w64 W) (w64 H) (g 0 34).toInt64 := by
    have wc := hW.2.2.2.2.1.2
    refine ⟨?_, ?_, ?_⟩
    · unfold w64; rw [Int32.toInt_toInt64, nI_toInt (by omega)]; omega
    · unfold w64; rw [Int32.toInt_toInt64, nI_toInt (by omega)]; omega
    · rw [Int32.toInt_toInt64]; exact wc
  have g0 : m.1 r = g 0 := by have := h3 0 (by decide); rw [Nat.add_zero] at this; exact this
  have hB := fc3_B (M := m.2.1 1288) (Wd := m.2.1 1286) (f := m.1) (r := r) (ms := msN g nd) (fc := fc) (w := (w64 W).toInt) (h := (w64 H).toInt) (F := (g 0 34).toInt64.toInt) hWm (by rw [c2]; exact q2) (by rw [h3 10 (by decide)]; exact hfc)
  have h8W : (w8n W).toInt = 8 * (w64 W).toInt := by
    unfold w8n w64
    rw [Int32.toInt_toInt64, Int32.toInt_toInt64, show (8 : Int32) = nI 8 from rfl, nI_mul, nI_toInt (by omega), nI_toInt (by omega)]
    omega
  have h8H : (w8n H).toInt = 8 * (w64 H).toInt := by
    unfold w8n w64
    rw [Int32.toInt_toInt64, Int32.toInt_toInt64, show (8 : Int32) = nI 8 from rfl, nI_mul, nI_toInt (by omega), nI_toInt (by omega)]
    omega
  unfold F_MPainter_goOverFace
  rw [zoS_h sh_1285, zob_h h2, zoS_h (sh_m0 hr), zob_h (rf_m20 h1 hr), zoS_h (sh_m16 hr), nI_ix (by omega) (by decide), nI_cl (n := nd) (by omega), zoL_e, h3 16 (by decide), q1]
  refine zok_b (e_gf13 (W := W) (H := H) (m := m) (x := nI nd) hr h1 h2 (by omega) hfc128 hB.1) (fun q hq => ?_)
  obtain ⟨z0, z1, z2, z3, z4, m1⟩ := q
  obtain ⟨p1, p2, p3, p4, p5⟩ := hq
  simp only at p1 p2 p3 p4 p5
  subst p1 p2 p3
  dsimp only
  have e1 : m1.1 = m.1 := funext fun a => p4.2.1 a (by simp)
  rw [zoS_h sh_1285, zoL_e]
  generalize hl0 : fc3 (m.2.1 1288) (m.2.1 1286) m.1 r (msN g nd) fc = l0 at p5 hB
  have hl03 : l0.length = 3 := by rw [← hl0]; rfl
  have hR2 : RF (mI m1 1285 26 3).2.2 := by
    show RF m1.2.2
    rw [p4.1]; exact h1
  refine zok_b (show zok (L_MPainter_goOverFace_60 (sh0 W H) zfuel 1285 (nI nd) (nI fc) 0 (mI m1 1285 26 3)) _ from e_gf60 (W := W) (H := H) (nd := nd) (m0 := mI m1 1285 26 3) (x := nI nd) (l := l0) (w := w64 W) (h := w64 H) (f := (g 0 34).toInt64) hr hR2 (by show m1.2.2 1285 5 = some r; rw [p4.1]; exact h2) (by rw [mI_v, if_pos rfl, if_neg (by decide), e1, h4]; rfl) (by rw [mI_v, if_pos rfl, if_neg (by decide), e1, h5]; rfl) (by rw [mI_o (by rcases hr with e | e | e <;> omega), e1, g0]) wf hl03 hB.2 5 0 zfuel (mI m1 1285 26 3) (by decide) (zf_lt (by decide)) frm_r (fun _ _ => rfl) (by rw [mI_v, if_pos rfl, if_pos rfl, show (cutN (w64 W) (w64 H) (g 0 34).toInt64 l0 0).length = 3 from hl03]; rfl) p5) (fun q hq => ?_)
  obtain ⟨z0', z1', z2', z3', m2⟩ := q
  obtain ⟨u1, u2, u3, u4, u5, u6, u7⟩ := hq
  simp only at u1 u2 u3 u4 u5 u6 u7
  subst u1 u2 u3
  dsimp only
  have hlen := cutN_19 (w := w64 W) (h := w64 H) (f := (g 0 34).toInt64) hl03 (show 5 ≤ 5 by decide)
  have hCB := cutN_B wf hB.2 5 (by decide)
  generalize hl5 : cutN (w64 W) (w64 H) (g 0 34).toInt64 l0 5 = l at u6 u7 hlen hCB
  have memD : ∀ c, c < l.length → l.getD c oF ∈ l := fun c hc => by
    rw [List.getD_eq_getElem?_getD, List.getElem?_eq_getElem hc, Option.getD_some]
    exact List.getElem_mem hc
  have hCPz : ∀ c, c < l.length → CP (pcr (g 0 34).toInt64 (w8n W) (w8n H) (l.getD c oF)) ∧ l.getD c oF 2 ≠ 0 := fun c hc => CP_of wf h8W h8H (hCB _ (memD c hc))
  have f2 : ∀ k, k ≠ 1285 → m2.1 k = m.1 k := fun k hk => by rw [u4.2.1 k (by simpa using hk), mI_o hk, e1]
  have f2c : ∀ c, c ≠ 26 → m2.1 1285 c = m.1 1285 c := fun c hc => by rw [u5 c hc, mI_v, if_pos rfl, if_neg hc, e1]
  have R2 : m2.2.2 = m.2.2 := by rw [u4.1]; exact p4.1
  have er2 : m2.1 r = g 0 := by rw [f2 r (by rcases hr with e | e | e <;> omega), g0]
  refine zok_b (show zok (L_MPainter_goOverFace_81 (sh0 W H) zfuel 1285 (nI nd) (nI fc) 0 m2) _ from e_gf81 (W := W) (H := H) (m0 := m2) (x := nI nd) (l := l) (f := (g 0 34).toInt64) (w8 := w8n W) (h8 := w8n H) hr (by rw [R2]; exact h1) (by rw [R2]; exact h2) (by rw [er2]) (by rw [f2c 1 (by decide), h4]; rfl) (by rw [f2c 2 (by decide), h5]; rfl) hlen.1 u6 u7 (fun c hc => (hCPz c hc).2) l.length 0 zfuel m2 (by omega) (zf_lt (by omega)) frm_r (fun k hk => by omega)) (fun q hq => ?_)
  obtain ⟨y0, y1, y2, y3, m3⟩ := q
  obtain ⟨v1, v2, v3, v4, v5⟩ := hq
  simp only at v1 v2 v3 v4 v5
  subst v1 v2 v3
  dsimp only
  have e3 : m3.1 = m2.1 := funext fun a => v4.2.1 a (by simp)
  have hI3 : pcIk (W := W) r nd 0 0 l (g 0 34).toInt64 (w8n W) (w8n H) g m3 := ⟨by rw [v4.1, R2]; exact h1, by rw [v4.1, R2]; exact h2, fun a ha => by rw [e3, f2 _ (by rcases hr with e | e | e <;> omega)]; exact h3 a ha, by rw [v4.2.2 1295 (by decide)]; exact u7, v5, by rw [e3, f2c 1 (by decide)]; exact h4, by rw [e3, f2c 10 (by decide)]; exact h6⟩
  have hL3 : m3.2.1 1285 = m.2.1 1285 := by
    rw [v4.2.2 1285 (by decide), u4.2.2 1285 (by decide)]
    show m1.2.1 1285 = _
    rw [p4.2.2 1285 (by decide)]
  have hS3 : PKM W H S m3 := ⟨by rw [e3, f2c 11 (by decide)]; exact hS.1, by rw [e3, f2c 12 (by decide)]; exact hS.2.1, by rw [hL3]; exact hS.2.2⟩
  have hmid : GEk m m3 := ⟨by rw [v4.1, R2], fun k k1 k2 => by rw [e3, f2 k k2], fun c c1 c2 => by rw [e3, f2c c c2], fun k k1 k2 k3 => by
    rw [v4.2.2 k (by simp; omega), u4.2.2 k (by simp; omega)]
    show m1.2.1 k = _
    rw [p4.2.2 k (by simp; omega)]⟩
  have hrc3 : rctI le to ri bo m3 := ⟨by rw [e3, f2c 6 (by decide)]; exact hrc.1, by rw [e3, f2c 7 (by decide)]; exact hrc.2.1, by rw [e3, f2c 8 (by decide)]; exact hrc.2.2.1, by rw [e3, f2c 9 (by decide)]; exact hrc.2.2.2⟩
  have hfan : fcL W H (m.2.1 1288) (m.2.1 1286) m.1 r nd fc = fanG (decide (g 7 (mtN g nd) = 1)) nd fc (pcr (g 0 34).toInt64 (w8n W) (w8n H) (l.getD 0 oF)) ((l.map (pcr (g 0 34).toInt64 (w8n W) (w8n H))).drop 1) := by
    unfold fcL plyP ply
    rw [hmsE, hmtE, h3 7 (by decide), g0, hl0, hl5]
    cases l with
    | nil => rfl
    | cons a t => rfl
  rw [hfan]
  refine zok_b (show zok (L_MPainter_goOverFace_218 (sh0 W H) zfuel 1285 (nI nd) (nI fc) 1 m3) _ from e_g218K (W := W) (H := H) (fcn := fc) (l := l) (f := (g 0 34).toInt64) (w8 := w8n W) (h8 := w8n H) hr hW hX hnd hmd hlen.1 (fun c hc => (hCPz c hc).1) hW48 hH48 hri hler htob hbo 19 1 zfuel n m3 S (by omega) (Nat.le_refl _) (zf_lt (by decide)) (by decide) hI3 hrc3 hn (by rw [e3, f2c 0 (by decide)]; exact hcnt) (by rw [e3]; exact u6) hS3) (fun q hq => ?_)
  obtain ⟨b1, b2, b3⟩ := hq
  exact zok_s ⟨⟨b1.1.trans hmid.1, fun k k1 k2 => (b1.2.1 k k1 k2).trans (hmid.2.1 k k1 k2), fun c c1 c2 => (b1.2.2.1 c c1).trans (hmid.2.2.1 c c1 c2), fun k k1 k2 k3 => (b1.2.2.2 k k1 k2).trans (hmid.2.2.2 k k1 k2 k3)⟩, b2, b3⟩
theorem e_g123K {r nd k le to ri bo : Nat} {v1 : Int32} {g : Nat → Nat → Int32} {M Wd : Nat → Int64} {f0 : Nat → Nat → Int32} (hr : gM r) (hW : Wsc g) (hX : Wtx g) (hnd : nd < cn g 3) (hmd : 0 ≤ (g 16 nd).toInt) (hk : k < 48) (hW8 : 8 ≤ W) (hH8 : 8 ≤ H) (hW48 : W ≤ 48) (hH48 : H ≤ 48) (hri : ri ≤ W) (hler : ri = le + 1) (htob : bo = to + 1) (hbo : bo ≤ H) (hf0 : ∀ q, q < 30 → f0 (r + q) = g q) : ∀ (d c fuel n : Nat) (m : zMem) (S : kSt), c + d = (g 10 (msN g nd)).toNatClampNeg → d < fuel → fcIk W H r g m → rctI le to ri bo m → m.1 1294 k = nI nd → (∀ q, q < 12 → m.2.1 1288 q = M q) → (∀ q, q < 12 → m.2.1 1286 q = Wd q) → n ≤ 36864 → m.1 1285 0 = nI n → PKM W H S m → zok (L_MPainter_goOver_123 (sh0 W H) fuel 1285 v1 (nI k) (nI c) m) (fun q => q.1 = 1285 ∧ q.2.1 = v1 ∧ q.2.2.1 = nI k ∧ GEk m q.2.2.2.2 ∧ q.2.2.2.2.1 1285 0 = nI (min 36864 (n + (fcsL W H M Wd f0 r nd d c).length)) ∧ PKM W H (pkL le to ((fcsL W H M Wd f0 r nd d c).take (36864 - n)) S) q.2.2.2.2) := by
  obtain ⟨q1, q2, q3, q4⟩ := Wsc_ms hW hnd hmd
  have N := Wsc_n hW
  obtain ⟨_, _, np, nf, n1, n2, n3, n4, _, n6, _⟩ := hW.2.2.1 _ q2
  have hnf : (g 10 (msN g nd)).toNatClampNeg = nf := by rw [n6, nI_cl (by omega)]
  intro d
  induction d with
  | zero =>
    intro c fuel n m S hc hf hI hrc ho hM hWd hn hcnt hS
    obtain ⟨fu, rfl⟩ : ∃ fu, fuel = fu + 1 := ⟨fuel - 1, by omega⟩
    obtain ⟨h1, h2, h3, h4, h5, h6⟩ := hI
    rw [L_MPainter_goOver_123, zoS_h sh_1285, zob_h h2, zoS_h (sh_m0 hr), zob_h (rf_m14 h1 hr), zoS_h sh_1285, zob_h h2, zoS_h (sh_m0 hr), zob_h (rf_m20 h1 hr), zoS_h sh_1285, zob_h (rf_1285_22 h1), zoS_h sh_1294, nI_ix (by omega) (by decide), nI_cl (n := k) (by omega), ho, zoL_e, zoS_h (sh_m16 hr), nI_ix (by omega) (by decide), nI_cl (n := nd) (by omega), h3 16 (by decide), q1, zoL_e, zoS_h (sh_m10 hr), nI_ix (by omega) (by decide), nI_cl (n := msN g nd) (by omega), h3 10 (by decide), n6, if_pos (by rw [nI_leD (by omega) (by omega)]; omega)]
    exact zok_s ⟨rfl, rfl, rfl, ⟨rfl, fun _ _ _ => rfl, fun _ _ _ => rfl, fun _ _ _ _ => rfl⟩, by rw [hcnt]; show nI n = nI (min 36864 (n + 0)); rw [Nat.add_zero, Nat.min_eq_right hn], by show PKM W H (pkL le to (List.take _ []) S) m; rw [List.take_nil]; exact hS⟩
  | succ d ih =>
    intro c fuel n m S hc hf hI hrc ho hM hWd hn hcnt hS
    obtain ⟨fu, rfl⟩ : ∃ fu, fuel = fu + 1 := ⟨fuel - 1, by omega⟩
    have hI' := hI
    obtain ⟨h1, h2, h3, h4, h5, h6⟩ := hI
    rw [L_MPainter_goOver_123, zoS_h sh_1285, zob_h h2, zoS_h (sh_m0 hr), zob_h (rf_m14 h1 hr), zoS_h sh_1285, zob_h h2, zoS_h (sh_m0 hr), zob_h (rf_m20 h1 hr), zoS_h sh_1285, zob_h (rf_1285_22 h1), zoS_h sh_1294, nI_ix (by omega) (by decide), nI_cl (n := k) (by omega), ho, zoL_e, zoS_h (sh_m16 hr), nI_ix (by omega) (by decide), nI_cl (n := nd) (by omega), h3 16 (by decide), q1, zoL_e, zoS_h (sh_m10 hr), nI_ix (by omega) (by decide), nI_cl (n := msN g nd) (by omega), h3 10 (by decide), n6, if_neg (by rw [nI_leD (by omega) (by omega)]; omega), zoS_h sh_1285, zob_h (rf_1285_22 h1), zoS_h sh_1294, if_neg (fun q => q.elim (nI_pos (by omega)) (by omega)), zoS_h sh_1285, zoL_e, ho]
    refine zok_b (e_gfaceK (W := W) (H := H) (fc := c) (n := n) (S := S) (m := m) hr hW hX hnd hmd (by omega) hW8 hH8 hW48 hH48 hri hler htob hbo hI' hrc hn hcnt hS) (fun m2 hm2 => ?_)
    obtain ⟨a1, a2, a3⟩ := hm2
    have hfl : fcL W H (m.2.1 1288) (m.2.1 1286) m.1 r nd c = fcL W H M Wd f0 r nd c := fcL_c hM hWd (fun q hq => by rw [h3 q hq, hf0 q hq])
    rw [hfl] at a2 a3
    rw [nI_p1]
    refine zok_w (ih (c + 1) fu _ m2 _ (by omega) (by omega) (fcIk_E hr hI' a1) ⟨by rw [a1.2.2.1 6 (by decide) (by decide)]; exact hrc.1, by rw [a1.2.2.1 7 (by decide) (by decide)]; exact hrc.2.1, by rw [a1.2.2.1 8 (by decide) (by decide)]; exact hrc.2.2.1, by rw [a1.2.2.1 9 (by decide) (by decide)]; exact hrc.2.2.2⟩ (by rw [a1.2.1 1294 (by decide) (by decide)]; exact ho) (fun q hq => by rw [a1.2.2.2 1288 (by decide) (by decide) (by decide)]; exact hM q hq) (fun q hq => by rw [a1.2.2.2 1286 (by decide) (by decide) (by decide)]; exact hWd q hq) (Nat.min_le_left _ _) a2 a3) (fun q hq => ?_)
    obtain ⟨b0, b0', b0'', b1, b2, b3⟩ := hq
    rw [fcsL, take_app hn, pkL_a, List.length_append, ← min_app]
    exact ⟨b0, b0', b0'', GEk_t a1 b1, b2, b3⟩
def GOk (m0 m : zMem) : Prop := m.2.2 = m0.2.2 ∧ (∀ k, k ≠ 1285 → k ≠ 1285 → k ≠ 1292 → k ≠ 1294 → m.1 k = m0.1 k) ∧ (∀ c, (c ≠ 0 ∧ c ≠ 11 ∧ c ≠ 12) → c ≠ 26 → m.1 1285 c = m0.1 1285 c) ∧ ∀ k, k ≠ 1285 → ¬ (1286 ≤ k ∧ k < 1302) → m.2.1 k = m0.2.1 k
theorem GOk_t {m m' m'' : zMem} (h : GOk m m') (k : GOk m' m'') : GOk m m'' := ⟨k.1.trans h.1, fun a h1 h2 h3 h4 => (k.2.1 a h1 h2 h3 h4).trans (h.2.1 a h1 h2 h3 h4), fun c h1 h2 => (k.2.2.1 c h1 h2).trans (h.2.2.1 c h1 h2), fun a h1 h2 => (k.2.2.2 a h1 h2).trans (h.2.2.2 a h1 h2)⟩
theorem GOk_E {m m' : zMem} (h : GEk m m') : GOk m m' := ⟨h.1, fun a h1 h2 _ _ => h.2.1 a h1 h2, h.2.2.1, fun a h1 h2 => h.2.2.2 a h1 (by omega) (by omega)⟩
theorem fcIk_O {r : Nat} {g : Nat → Nat → Int32} {m m' : zMem} (hr : gM r) (h : fcIk W H r g m) (k : GOk m m') : fcIk W H r g m' := by
  obtain ⟨h1, h2, h3, h4, h5, h6⟩ := h
  exact ⟨by rw [k.1]; exact h1, by rw [k.1]; exact h2, fun a ha => by rw [k.2.1 _ (by rcases hr with e | e | e <;> omega) (by rcases hr with e | e | e <;> omega) (by rcases hr with e | e | e <;> omega) (by rcases hr with e | e | e <;> omega)]; exact h3 a ha, by rw [k.2.2.1 1 (by decide) (by decide)]; exact h4, by rw [k.2.2.1 2 (by decide) (by decide)]; exact h5, by rw [k.2.2.1 10 (by decide) (by decide)]; exact h6⟩
set_option maxHeartbeats 4000000 in
theorem e_g106K {r cnt le to ri bo : Nat} {od : Nat → Nat} {g : Nat → Nat → Int32} {f0 : Nat → Nat → Int32} (hr : gM r) (hW : Wsc g) (hX : Wtx g) (hcn : cnt ≤ 48) (hod : ∀ k, k < cnt → od k < cn g 3 ∧ 0 ≤ (g 16 (od k)).toInt) (hW8 : 8 ≤ W) (hH8 : 8 ≤ H) (hW48 : W ≤ 48) (hH48 : H ≤ 48) (hri : ri ≤ W) (hler : ri = le + 1) (htob : bo = to + 1) (hbo : bo ≤ H) (hf0 : ∀ q, q < 30 → f0 (r + q) = g q) : ∀ (d k fuel n : Nat) (m : zMem) (S : kSt), k + d = cnt → d < fuel → fcIk W H r g m → rctI le to ri bo m → (∀ k, k < cnt → m.1 1294 k = nI (od k)) → n ≤ 36864 → m.1 1285 0 = nI n → PKM W H S m → zok (L_MPainter_goOver_106 (sh0 W H) fuel 1285 (nI cnt) (nI k) m) (fun q => GOk m q.2.2.2 ∧ PKM W H (pkL le to ((ndsL W H f0 r od d k).take (36864 - n)) S) q.2.2.2) := by
  have N := Wsc_n hW
  have hWf : Wsc (fun a => f0 (r + a)) := Wsc_g hf0 hW
  intro d
  induction d with
  | zero =>
    intro k fuel n m S hk hf hI hrc ho hn hcnt hS
    obtain ⟨fu, rfl⟩ : ∃ fu, fuel = fu + 1 := ⟨fuel - 1, by omega⟩
    rw [L_MPainter_goOver_106, if_pos (by rw [nI_leD (by omega) (by omega)]; omega)]
    exact zok_s ⟨⟨rfl, fun _ _ _ _ _ => rfl, fun _ _ _ => rfl, fun _ _ _ => rfl⟩, by show PKM W H (pkL le to (List.take _ []) S) m; rw [List.take_nil]; exact hS⟩
  | succ d ih =>
    intro k fuel n m S hk hf hI hrc ho hn hcnt hS
    obtain ⟨fu, rfl⟩ : ∃ fu, fuel = fu + 1 := ⟨fuel - 1, by omega⟩
    have hI' := hI
    obtain ⟨h1, h2, h3, h4, h5, h6⟩ := hI
    obtain ⟨o1, o2⟩ := hod k (by omega)
    have hWm : Wsc (fun a => m.1 (r + a)) := Wsc_g h3 hW
    obtain ⟨hp, ht, hx⟩ := Wsc_p hWm
    have hc3 := cn_g (c := 3) h3
    rw [L_MPainter_goOver_106, if_neg (by rw [nI_leD (by omega) (by omega)]; omega), zoS_h sh_1285, zob_h (rf_1285_22 h1), zoS_h sh_1294, nI_ix (by omega) (by decide), nI_cl (n := k) (by omega), zoS_h sh_1285, zoL_e, ho k (by omega)]
    refine zok_b (e_toMatrix (W := W) (H := H) h1 h2 hr (show od k < cn (fun a => m.1 (r + a)) 3 by rw [hc3]; exact o1) (by rw [hc3]; omega) ht hp hx) (fun m1 hm1 => ?_)
    obtain ⟨f1, f2, f3⟩ := hm1
    have g1 : GOk m m1 := ⟨f1.1, fun a _ _ a3 _ => f1.2.1 a (by simpa using a3), fun c _ _ => congrFun (f1.2.1 1285 (by decide)) c, fun a a1 a2 => f1.2.2 a (by simp; omega)⟩
    have hrow : ∀ q, q < 30 → m.1 (r + q) = f0 (r + q) := fun q hq => by rw [h3 q hq, hf0 q hq]
    have hS1 : PKM W H S m1 := ⟨by rw [f1.2.1 1285 (by decide)]; exact hS.1, by rw [f1.2.1 1285 (by decide)]; exact hS.2.1, by rw [f1.2.2 1285 (by decide)]; exact hS.2.2⟩
    refine zok_b (show zok (L_MPainter_goOver_123 (sh0 W H) zfuel 1285 (nI cnt) (nI k) 0 m1) _ from e_g123K (W := W) (H := H) (v1 := nI cnt) (M := mW f0 r (od k)) (Wd := wW f0 r (od k)) (f0 := f0) hr hW hX o1 o2 (show k < 48 by omega) hW8 hH8 hW48 hH48 hri hler htob hbo hf0 (g 10 (msN g (od k))).toNatClampNeg 0 zfuel n m1 S (by omega) (zf_lt (by
      obtain ⟨_, q2, _⟩ := Wsc_ms hW o1 o2
      obtain ⟨_, _, np, nf, n1, n2, n3, n4, _, n6, _⟩ := hW.2.2.1 _ q2
      rw [n6, nI_cl (by omega)]; omega)) (fcIk_O hr hI' g1) ⟨by rw [g1.2.2.1 6 (by decide) (by decide)]; exact hrc.1, by rw [g1.2.2.1 7 (by decide) (by decide)]; exact hrc.2.1, by rw [g1.2.2.1 8 (by decide) (by decide)]; exact hrc.2.2.1, by rw [g1.2.2.1 9 (by decide) (by decide)]; exact hrc.2.2.2⟩ (by rw [f1.2.1 1294 (by decide)]; exact ho k (by omega)) (fun q hq => by rw [f3 q hq, wW_g hrow]) (fun q hq => by rw [f2 q hq, wW_c hrow]) hn (by rw [f1.2.1 1285 (by decide)]; exact hcnt) hS1) (fun q hq => ?_)
    obtain ⟨q0, q1, q2, q3, m2⟩ := q
    obtain ⟨b0, b0', b0'', b1, b2, b3⟩ := hq
    simp only at b0 b0' b0'' b1 b2 b3
    subst b0 b0' b0''
    dsimp only
    rw [nI_p1]
    have g2 : GOk m m2 := GOk_t g1 (GOk_E b1)
    refine zok_w (ih (k + 1) fu _ m2 _ (by omega) (by omega) (fcIk_O hr hI' g2) ⟨by rw [g2.2.2.1 6 (by decide) (by decide)]; exact hrc.1, by rw [g2.2.2.1 7 (by decide) (by decide)]; exact hrc.2.1, by rw [g2.2.2.1 8 (by decide) (by decide)]; exact hrc.2.2.1, by rw [g2.2.2.1 9 (by decide) (by decide)]; exact hrc.2.2.2⟩ (fun k hk => by rw [b1.2.1 1294 (by decide) (by decide), f1.2.1 1294 (by decide)]; exact ho k hk) (Nat.min_le_left _ _) b2 b3) (fun z hz => ?_)
    obtain ⟨c1, c2⟩ := hz
    have hnf : nfN f0 r (od k) = (g 10 (msN g (od k))).toNatClampNeg := by unfold nfN msN; simp only [hf0 10 (by decide), hf0 16 (by decide)]
    rw [ndsL, hnf, take_app hn, pkL_a]
    exact ⟨GOk_t g2 c1, c2⟩
set_option maxHeartbeats 4000000 in
theorem e_goOverK {r le to ri bo : Nat} {g : Nat → Nat → Int32} {S : kSt} {m : zMem} (hr : gM r) (hW : Wsc g) (hX : Wtx g) (hW8 : 8 ≤ W) (hH8 : 8 ≤ H) (hW48 : W ≤ 48) (hH48 : H ≤ 48) (hri : ri ≤ W) (hler : ri = le + 1) (htob : bo = to + 1) (hbo : bo ≤ H) (hI : fcIk W H r g m) (hrc : rctI le to ri bo m) (hS : PKM W H S m) : zok (F_MPainter_goOver (sh0 W H) m 1285) (fun m' => GOk m m' ∧ PKM W H (pkL le to ((PLr W H m.1 r).take 36864) S) m') := by
  have hI' := hI
  obtain ⟨h1, h2, h3, h4, h5, h6⟩ := hI
  have N := Wsc_n hW
  unfold F_MPainter_goOver
  rw [zoS_h sh_1285, zoL_e]
  have hrow : ∀ q, q < 30 → (mI m 1285 0 0).1 (r + q) = m.1 (r + q) := fun q hq => mI_o (by rcases hr with e | e | e <;> omega)
  have hW0 : Wsc (fun a => (mI m 1285 0 0).1 (r + a)) := Wsc_g (fun a ha => by rw [hrow a ha]; exact h3 a ha) hW
  have hc0 : cn (fun a => (mI m 1285 0 0).1 (r + a)) 3 = cn (fun a => m.1 (r + a)) 3 := cn_g hrow
  have hOS : ∀ i, ordS (fun a => (mI m 1285 0 0).1 (r + a)) (visN (mI m 1285 0 0).1 r) (fun k => mW (mI m 1285 0 0).1 r k 11) i = ordS (fun a => m.1 (r + a)) (visN m.1 r) (fun k => mW m.1 r k 11) i := fun i => by
    have e1 : visN (mI m 1285 0 0).1 r = visN m.1 r := funext fun k => visN_g hrow k
    have e2 : (fun k => mW (mI m 1285 0 0).1 r k 11) = fun k => mW m.1 r k 11 := funext fun k => wW_g hrow k 11
    rw [e1, e2]
    induction i with
    | zero => rfl
    | succ i ih =>
      rw [ordS, ordS, ih]
      have : (fun k => ahd (fun a => (mI m 1285 0 0).1 (r + a)) (fun k => mW m.1 r k 11) i ((ordS (fun a => m.1 (r + a)) (visN m.1 r) (fun k => mW m.1 r k 11) i).2 k)) = fun k => ahd (fun a => m.1 (r + a)) (fun k => mW m.1 r k 11) i ((ordS (fun a => m.1 (r + a)) (visN m.1 r) (fun k => mW m.1 r k 11) i).2 k) := funext fun k => ahd_g hrow
      rw [this]
  have h9 := e_go9 (W := W) (H := H) (m0 := mI m 1285 0 0) hr h1 h2 hW0 (cn (fun a => (mI m 1285 0 0).1 (r + a)) 3) 0 zfuel (mI m 1285 0 0) (by omega) (zf_lt (by rw [hc0, cn_g h3]; omega)) ⟨frm_r, fun k hk => absurd hk (Nat.not_lt_zero _), fun k hk => absurd hk (Nat.not_lt_zero _)⟩
  refine zok_b (show zok (L_MPainter_goOver_9 (sh0 W H) zfuel 1285 0 0 (mI m 1285 0 0)) _ from h9) (fun q hq => ?_)
  obtain ⟨z0, z1, z2, m1⟩ := q
  obtain ⟨p1, p2, p3⟩ := hq
  simp only at p1 p2 p3
  rw [hc0] at p2 p3
  unfold go9 at p3
  rw [hOS] at p2 p3
  subst p1 p2
  dsimp only
  obtain ⟨k1, k2, k3⟩ := p3
  have hOR : ordR m.1 r = ordS (fun a => m.1 (r + a)) (visN m.1 r) (fun k => mW m.1 r k 11) (cn (fun a => m.1 (r + a)) 3) := rfl
  rw [← hOR] at k2 ⊢
  have hob := ord_b (g := fun a => m.1 (r + a)) (vis := visN m.1 r) (ky := fun k => mW m.1 r k 11) (cn (fun a => m.1 (r + a)) 3)
  rw [← hOR, cn_g h3] at hob
  have g1 : GOk m m1 := ⟨k1.1, fun a a1 a2 a3 a4 => by rw [k1.2.1 a (by unfold goI; simp; omega), mI_o a2], fun c c1 c2 => by rw [k1.2.1 1285 (by decide), mI_v, if_pos rfl, if_neg c1.1], fun a a1 a2 => by rw [k1.2.2 a (by unfold goL; simp; omega)]; rfl⟩
  have hcnt : m1.1 1285 0 = nI 0 := by rw [k1.2.1 1285 (by decide), mI_v, if_pos rfl, if_pos rfl]; rfl
  have hS1 : PKM W H S m1 := ⟨by rw [k1.2.1 1285 (by decide), mI_v, if_pos rfl, if_neg (by decide)]; exact hS.1, by rw [k1.2.1 1285 (by decide), mI_v, if_pos rfl, if_neg (by decide)]; exact hS.2.1, by rw [k1.2.2 1285 (by decide)]; exact hS.2.2⟩
  refine zok_b (show zok (L_MPainter_goOver_106 (sh0 W H) zfuel 1285 (nI (ordR m.1 r).1) 0 m1) _ from e_g106K (W := W) (H := H) (cnt := (ordR m.1 r).1) (od := (ordR m.1 r).2) (f0 := m.1) hr hW hX (by omega) (fun k hk => ⟨(hob.2 k hk).1, by rw [← h3 16 (by decide)]; exact vis_m (hob.2 k hk).2⟩) hW8 hH8 hW48 hH48 hri hler htob hbo h3 (ordR m.1 r).1 0 zfuel 0 m1 S (by omega) (zf_lt (by omega)) (fcIk_O hr hI' g1) ⟨by rw [g1.2.2.1 6 (by decide) (by decide)]; exact hrc.1, by rw [g1.2.2.1 7 (by decide) (by decide)]; exact hrc.2.1, by rw [g1.2.2.1 8 (by decide) (by decide)]; exact hrc.2.2.1, by rw [g1.2.2.1 9 (by decide) (by decide)]; exact hrc.2.2.2⟩ k2 (by decide) hcnt hS1) (fun q hq => zok_s ⟨GOk_t g1 hq.1, ?_⟩)
  exact hq.2
end ZKW
