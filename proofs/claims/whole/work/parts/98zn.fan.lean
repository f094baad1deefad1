/-! PURE: pieces painted one after the other: the reference -/
abbrev Pc : Type := Nat × Nat × (Nat → Int64) × (Nat → Int64) × (Nat → Int64)
def fan1 (both : Bool) (nd fc : Nat) (A B C : Nat → Int64) : List Pc := if 0 < (are A B C).toInt then [(nd, fc, A, B, C)] else if (are A B C).toInt < 0 ∧ both = true then [(nd, fc, A, C, B)] else []
def fanG (both : Bool) (nd fc : Nat) (A : Nat → Int64) : List (Nat → Int64) → List Pc
  | [] => []
  | B :: t => match t with
    | [] => []
    | C :: _ => fan1 both nd fc A B C ++ fanG both nd fc A t
def inR (le to ri bo a b : Nat) : Bool := decide (le ≤ a ∧ a < ri ∧ to ≤ b ∧ b < bo)
/-- a piece painted on a tile -/
def pt1 (g : Nat → Nat → Int32) (R : Nat → Nat → Bool) (p : Pc) (S : Nat → Nat → pSt) : Nat → Nat → pSt := fun a b => if R a b then pxF g (mtN g p.1) p.2.2.1 p.2.2.2.1 p.2.2.2.2 a b (S a b) else S a b
def pcL2 (g : Nat → Nat → Int32) (R : Nat → Nat → Bool) : List Pc → (Nat → Nat → pSt) → Nat → Nat → pSt
  | [], S => S
  | p :: t, S => pcL2 g R t (pt1 g R p S)
theorem pcL2_a {g : Nat → Nat → Int32} {R : Nat → Nat → Bool} : ∀ (a b : List Pc) (S : Nat → Nat → pSt), pcL2 g R (a ++ b) S = pcL2 g R b (pcL2 g R a S) := by
  intro a
  induction a with
  | nil => intro b S; rfl
  | cons p t ih => intro b S; exact ih b _
theorem fan1_len {both : Bool} {nd fc : Nat} {A B C : Nat → Int64} : (fan1 both nd fc A B C).length ≤ 1 := by
  unfold fan1
  split
  · exact Nat.le_refl _
  · split
    · exact Nat.le_refl _
    · exact Nat.zero_le _
theorem are_sw {A B C : Nat → Int64} : are A C B = -are A B C := by
  unfold are
  rw [Int64.neg_sub]
section ZFN
variable {W H : Nat}
set_option maxHeartbeats 4000000 in
theorem e_p100 {r nd b c le to ri bo : Nat} {fc : Int32} {v4 : Int64} {l : List (Nat → Int64)} {f w8 h8 : Int64} {g : Nat → Nat → Int32} {S : Nat → Nat → pSt} (hr : gM r) (hW : Wsc g) (hX : Wtx g) (hnd : nd < cn g 3) (hmd : 0 ≤ (g 16 nd).toInt) (hl : l.length ≤ 19) (h0 : 0 < l.length) (hb : b < l.length) (hc : c < l.length) (hCP : ∀ q, q < l.length → CP (pcr f w8 h8 (l.getD q oF))) (hW48 : W ≤ 48) (hH48 : H ≤ 48) (hri : ri ≤ W) (hler : le ≤ ri) (hbo : bo ≤ H) (har : 0 < (are (pcr f w8 h8 (l.getD 0 oF)) (pcr f w8 h8 (l.getD b oF)) (pcr f w8 h8 (l.getD c oF))).toInt) (hv4 : (if lg_cmp v4 0 ≤ 0 then -v4 else v4) = are (pcr f w8 h8 (l.getD 0 oF)) (pcr f w8 h8 (l.getD b oF)) (pcr f w8 h8 (l.getD c oF))) : ∀ (d y fuel : Nat) (m : zMem), y + d = bo → to ≤ y → d < fuel → pcI (W := W) r nd b c l f w8 h8 g m → m.1 1285 6 = nI le → m.1 1285 8 = nI ri → m.1 1285 9 = nI bo → PXM W H (Sdn (fun x y => pxF g (mtN g nd) (pcr f w8 h8 (l.getD 0 oF)) (pcr f w8 h8 (l.getD b oF)) (pcr f w8 h8 (l.getD c oF)) x y) S (dnR le to ri y le)) m → zok (L_MPainter_goOverPiece_100 (sh0 W H) fuel 1285 (nI nd) fc v4 (nI b) (nI c) (nI y) m) (fun q => GF m q.2.2.2.2.2.2.2 ∧ PXM W H (Sdn (fun x y => pxF g (mtN g nd) (pcr f w8 h8 (l.getD 0 oF)) (pcr f w8 h8 (l.getD b oF)) (pcr f w8 h8 (l.getD c oF)) x y) S (dnR le to ri bo le)) q.2.2.2.2.2.2.2) := by
  intro d
  induction d with
  | zero =>
    intro y fuel m hy hty hf hI h6 h8' h9 hS
    obtain ⟨fu, rfl⟩ : ∃ fu, fuel = fu + 1 := ⟨fuel - 1, by omega⟩
    rw [L_MPainter_goOverPiece_100, zoS_h sh_1285, h9, if_pos (by rw [nI_leD (by omega) (by omega)]; omega)]
    obtain rfl : y = bo := by omega
    exact zok_s ⟨GF_r, hS⟩
  | succ d ih =>
    intro y fuel m hy hty hf hI h6 h8' h9 hS
    obtain ⟨fu, rfl⟩ : ∃ fu, fuel = fu + 1 := ⟨fuel - 1, by omega⟩
    rw [L_MPainter_goOverPiece_100, zoS_h sh_1285, h9, if_neg (by rw [nI_leD (by omega) (by omega)]; omega), zoS_h sh_1285, zoL_e, h6]
    refine zok_b (e_p115 (W := W) (H := H) (bo := bo) (fc := fc) (v4 := v4) (S := S) (y := y) hr hW hX hnd hmd hl h0 hb hc hCP hW48 hH48 hri (by omega) hty har hv4 (ri - le) le zfuel m (by omega) (Nat.le_refl _) (zf_lt (by omega)) hI h8' hS) (fun q hq => ?_)
    obtain ⟨q0, q1, q2, q3, q4, q5, q6, q7, m2⟩ := q
    obtain ⟨w0, w1, w2, w3, w4, w5, w6, w7, w8⟩ := hq
    simp only at w0 w1 w2 w3 w4 w5 w6 w7 w8
    subst w0 w1 w2 w3 w4 w5 w6
    dsimp only
    rw [nI_p1]
    have hd : dnR le to ri y ri = dnR le to ri (y + 1) le := by
      funext a b'
      unfold dnR
      exact decide_eq_decide.mpr ⟨fun q => by omega, fun q => by omega⟩
    rw [hd] at w8
    refine zok_w (ih (y + 1) fu m2 (by omega) (by omega) (by omega) (pcI_G hr hI w7) (by rw [w7.2.1 1285 (by decide)]; exact h6) (by rw [w7.2.1 1285 (by decide)]; exact h8') (by rw [w7.2.1 1285 (by decide)]; exact h9) w8) (fun z hz => ⟨GF_t w7 hz.1, hz.2⟩)
/-- what a piece leaves: its count, and the picture -/
def GP (m0 m : zMem) : Prop := m.2.2 = m0.2.2 ∧ (∀ k, k ≠ 1283 → k ≠ 1285 → m.1 k = m0.1 k) ∧ (∀ c, c ≠ 0 → m.1 1285 c = m0.1 1285 c) ∧ ∀ k, k ≠ 1284 → k ≠ 1301 → m.2.1 k = m0.2.1 k
theorem GP_r {m : zMem} : GP m m := ⟨rfl, fun _ _ _ => rfl, fun _ _ => rfl, fun _ _ _ => rfl⟩
theorem GP_t {m m' m'' : zMem} (h : GP m m') (k : GP m' m'') : GP m m'' := ⟨k.1.trans h.1, fun a h1 h2 => (k.2.1 a h1 h2).trans (h.2.1 a h1 h2), fun c hc => (k.2.2.1 c hc).trans (h.2.2.1 c hc), fun a h1 h2 => (k.2.2.2 a h1 h2).trans (h.2.2.2 a h1 h2)⟩
theorem pcI_P {r nd b c : Nat} {l : List (Nat → Int64)} {f w8 h8 : Int64} {g : Nat → Nat → Int32} {m m' : zMem} (hr : gM r) (h : pcI (W := W) r nd b c l f w8 h8 g m) (k : GP m m') : pcI (W := W) r nd b c l f w8 h8 g m' := by
  obtain ⟨h1, h2, h3, h4, h5, h6, h7⟩ := h
  refine ⟨by rw [k.1]; exact h1, by rw [k.1]; exact h2, fun a ha => by rw [k.2.1 _ (by rcases hr with e | e | e <;> omega) (by rcases hr with e | e | e <;> omega)]; exact h3 a ha, by rw [k.2.2.2 1295 (by decide) (by decide)]; exact h4, fun q hq => ?_, by rw [k.2.2.1 1 (by decide)]; exact h6, by rw [k.2.2.1 10 (by decide)]; exact h7⟩
  rw [k.2.2.2 1298 (by decide) (by decide), k.2.2.2 1299 (by decide) (by decide), k.2.2.2 1300 (by decide) (by decide)]
  exact h5 q hq
def rctI (le to ri bo : Nat) (m : zMem) : Prop := m.1 1285 6 = nI le ∧ m.1 1285 7 = nI to ∧ m.1 1285 8 = nI ri ∧ m.1 1285 9 = nI bo
theorem dn_all {le to ri bo : Nat} {F : Nat → Nat → pSt → pSt} {S : Nat → Nat → pSt} : Sdn F S (dnR le to ri bo le) = fun a b => if inR le to ri bo a b then F a b (S a b) else S a b := by
  funext a b
  unfold Sdn dnR inR
  have : (le ≤ a ∧ a < ri ∧ to ≤ b ∧ (b < bo ∨ b = bo ∧ a < le)) = (le ≤ a ∧ a < ri ∧ to ≤ b ∧ b < bo) := propext ⟨fun q => by omega, fun q => by omega⟩
  simp only [this]
theorem dn_none {le to ri : Nat} {F : Nat → Nat → pSt → pSt} {S : Nat → Nat → pSt} : Sdn F S (dnR le to ri to le) = S := by
  funext a b
  unfold Sdn dnR
  rw [decide_eq_false (by omega)]
  rfl
set_option maxHeartbeats 8000000 in
theorem e_piece {r nd fcn k n le to ri bo : Nat} {l : List (Nat → Int64)} {f w8 h8 : Int64} {g : Nat → Nat → Int32} {S : Nat → Nat → pSt} {m : zMem} (hr : gM r) (hW : Wsc g) (hX : Wtx g) (hnd : nd < cn g 3) (hmd : 0 ≤ (g 16 nd).toInt) (hl : l.length ≤ 19) (hk1 : 1 ≤ k) (hk : k + 1 < l.length) (hCP : ∀ q, q < l.length → CP (pcr f w8 h8 (l.getD q oF))) (hW48 : W ≤ 48) (hH48 : H ≤ 48) (hri : ri ≤ W) (hler : le ≤ ri) (htob : to ≤ bo) (hbo : bo ≤ H) (hI : pcI (W := W) r nd 0 0 l f w8 h8 g m) (hrc : rctI le to ri bo m) (hn : n ≤ 36864) (hcnt : m.1 1285 0 = nI n) (hS : PXM W H S m) : zok (F_MPainter_goOverPiece (sh0 W H) m 1285 (nI nd) (nI fcn) (nI k)) (fun m' => GP m m' ∧ m'.1 1285 0 = nI (min 36864 (n + (fan1 (decide (g 7 (mtN g nd) = 1)) nd fcn (pcr f w8 h8 (l.getD 0 oF)) (pcr f w8 h8 (l.getD k oF)) (pcr f w8 h8 (l.getD (k + 1) oF))).length)) ∧ PXM W H (pcL2 g (inR le to ri bo) ((fan1 (decide (g 7 (mtN g nd) = 1)) nd fcn (pcr f w8 h8 (l.getD 0 oF)) (pcr f w8 h8 (l.getD k oF)) (pcr f w8 h8 (l.getD (k + 1) oF))).take (36864 - n)) S) m') := by
  have hI' := hI
  obtain ⟨h1, h2, h3, h4, h5, h6, h7⟩ := hI
  obtain ⟨r6, r7, r8, r9⟩ := hrc
  have e0 : (0 : Int64).toInt = 0 := rfl
  have ha := e_are (W := W) (H := H) (m := m) (a := 0) (b := k) (c := k + 1) h1 hl h5 (by omega) (by omega) hk
  have hai := are_i (hCP 0 (by omega)) (hCP k (by omega)) (hCP (k + 1) hk)
  have hWm : Wsc (fun a => m.1 (r + a)) := Wsc_g h3 hW
  have hmt : mtN (fun a => m.1 (r + a)) nd = mtN g nd := by unfold mtN msN; simp only [h3 8 (by decide), h3 16 (by decide)]
  have hmo := e_mto (W := W) (H := H) h1 h2 hr hWm (i := nd) (by rw [cn_g h3]; exact hnd) (by rw [h3 16 (by decide)]; exact hmd)
  rw [hmt] at hmo
  obtain ⟨_, _, _, hmtl⟩ := Wsc_ms hW hnd hmd
  have N := Wsc_n hW
  have w7 := (hW.2.1 _ hmtl).2.2.2
  unfold F_MPainter_goOverPiece fan1
  rw [zoS_h sh_1285, nI_p1, show F_MPainter_area (sh0 W H) m 1285 0 (nI k) (nI (k + 1)) = _ from ha, zob_e]
  dsimp only
  have paint : ∀ (b c : Nat) (v4 : Int64), b < l.length → c < l.length → 0 < (are (pcr f w8 h8 (l.getD 0 oF)) (pcr f w8 h8 (l.getD b oF)) (pcr f w8 h8 (l.getD c oF))).toInt → (if lg_cmp v4 0 ≤ 0 then -v4 else v4) = are (pcr f w8 h8 (l.getD 0 oF)) (pcr f w8 h8 (l.getD b oF)) (pcr f w8 h8 (l.getD c oF)) → n < 36864 → zok (Option.bind (L_MPainter_goOverPiece_100 (sh0 W H) zfuel 1285 (nI nd) (nI fcn) v4 (nI b) (nI c) (nI to) (mI m 1285 0 (nI (n + 1)))) (fun q => some q.2.2.2.2.2.2.2)) (fun m' => GP m m' ∧ m'.1 1285 0 = nI (min 36864 (n + [((nd, fcn, pcr f w8 h8 (l.getD 0 oF), pcr f w8 h8 (l.getD b oF), pcr f w8 h8 (l.getD c oF)) : Pc)].length)) ∧ PXM W H (pcL2 g (inR le to ri bo) ([((nd, fcn, pcr f w8 h8 (l.getD 0 oF), pcr f w8 h8 (l.getD b oF), pcr f w8 h8 (l.getD c oF)) : Pc)].take (36864 - n)) S) m') := fun b c v4 hb hc har hv4 hn2 => by
    have gp0 : GP m (mI m 1285 0 (nI (n + 1))) := ⟨rfl, fun a _ a2 => mI_o a2, fun c hc => by rw [mI_v, if_pos rfl, if_neg hc], fun _ _ _ => rfl⟩
    have hI0 : pcI (W := W) r nd b c l f w8 h8 g (mI m 1285 0 (nI (n + 1))) := pcI_P hr hI' gp0
    have hS0 : PXM W H S (mI m 1285 0 (nI (n + 1))) := fun x hx y hy => by
      obtain ⟨s1, s2⟩ := hS x hx y hy
      exact ⟨fun k hk => by rw [mI_o (by decide)]; exact s1 k hk, s2⟩
    refine zok_b (e_p100 (W := W) (H := H) (fc := nI fcn) (v4 := v4) (S := S) (le := le) (to := to) (ri := ri) (bo := bo) hr hW hX hnd hmd hl (by omega) hb hc hCP hW48 hH48 hri hler hbo har hv4 (bo - to) to zfuel (mI m 1285 0 (nI (n + 1))) (by omega) (Nat.le_refl _) (zf_lt (by omega)) hI0 (by rw [gp0.2.2.1 6 (by decide)]; exact r6) (by rw [gp0.2.2.1 8 (by decide)]; exact r8) (by rw [gp0.2.2.1 9 (by decide)]; exact r9) (by rw [dn_none]; exact hS0)) (fun q hq => zok_s ?_)
    obtain ⟨q1, q2⟩ := hq
    rw [dn_all] at q2
    have tk : [((nd, fcn, pcr f w8 h8 (l.getD 0 oF), pcr f w8 h8 (l.getD b oF), pcr f w8 h8 (l.getD c oF)) : Pc)].take (36864 - n) = [((nd, fcn, pcr f w8 h8 (l.getD 0 oF), pcr f w8 h8 (l.getD b oF), pcr f w8 h8 (l.getD c oF)) : Pc)] := List.take_of_length_le (by show 1 ≤ _; omega)
    rw [tk]
    refine ⟨⟨q1.1, fun a a1 a2 => by rw [q1.2.1 a a1, mI_o a2], fun c hc => by rw [q1.2.1 1285 (by decide), gp0.2.2.1 c hc], fun a a1 a2 => q1.2.2 a a1 a2⟩, ?_, q2⟩
    rw [q1.2.1 1285 (by decide), mI_v, if_pos rfl, if_pos rfl]
    show nI (n + 1) = nI (min 36864 (n + 1))
    rw [Nat.min_eq_right (by omega)]
  have full : ∀ (ps : List Pc), n = 36864 → zok (some m) (fun m' => GP m m' ∧ m'.1 1285 0 = nI (min 36864 (n + ps.length)) ∧ PXM W H (pcL2 g (inR le to ri bo) (ps.take (36864 - n)) S) m') := fun ps hnn => by
    have : ps.take (36864 - n) = [] := by rw [hnn, Nat.sub_self]; exact List.take_zero
    rw [this]
    exact zok_s ⟨GP_r, by rw [hcnt, Nat.min_eq_left (by omega), hnn], hS⟩
  generalize hAB : are (pcr f w8 h8 (l.getD 0 oF)) (pcr f w8 h8 (l.getD k oF)) (pcr f w8 h8 (l.getD (k + 1) oF)) = V at hai ⊢
  by_cases z : V.toInt = 0
  · rw [if_pos (lgc_eq.mpr (by rw [e0]; exact z)), if_neg (by omega), if_neg (fun q => by omega)]
    exact zok_s ⟨GP_r, by rw [hcnt]; show nI n = nI (min 36864 (n + 0)); rw [Nat.add_zero, Nat.min_eq_right hn], by rw [List.take_nil]; exact hS⟩
  rw [if_neg (fun q => z (by rw [lgc_eq, e0] at q; exact q))]
  by_cases p : 0 < V.toInt
  · have lp : ¬ lg_cmp V 0 ≤ 0 := fun q => lgc_le.mp q (by rw [i64_lt, e0]; exact p)
    rw [if_pos (lgc_ge.mpr (by rw [i64_lt, e0]; omega)), if_pos p, zoS_h sh_1285, hcnt]
    by_cases e : nI n = 36864
    · rw [if_pos e]
      exact full _ (by rw [show (36864 : Int32) = nI 36864 from rfl, nI_eqD (by omega) (by decide)] at e; exact e)
    · have hn2 : n < 36864 := by
        rw [show (36864 : Int32) = nI 36864 from rfl, nI_eqD (by omega) (by decide)] at e
        omega
      rw [if_neg e, zoS_h sh_1285, zoL_e, nI_p1, zoS_h sh_1285, zoL_e, if_neg lp, if_neg lp, zoL_e, zoS_h sh_1285, zoL_e, mI_v, if_pos rfl, if_neg (show ¬ (7 = 0) by decide), r7]
      exact paint k (k + 1) V (by omega) hk (by rw [hAB]; exact p) (by rw [if_neg lp, hAB]) hn2
  · have lp : lg_cmp V 0 ≤ 0 := lgc_le.mpr (by rw [i64_lt, e0]; omega)
    rw [if_neg (fun q => by have := lgc_ge.mp q; rw [i64_lt, e0] at this; omega), if_neg p, zoS_h sh_1285, zob_h h2, zoS_h (sh_m0 hr), zob_h (rf_m11 h1 hr), zoS_h sh_1285, zob_h hmo, zoS_h (sh_m7 hr)]
    dsimp only
    rw [nI_ix (by omega) (by decide), nI_cl (n := mtN g nd) (by omega), h3 7 (by decide)]
    have hneg : (-V).toInt = -V.toInt := i64_neg (by omega)
    by_cases bo' : g 7 (mtN g nd) = 0
    · rw [if_pos bo', if_neg (fun q => by have := q.2; rw [bo'] at this; exact absurd this (by decide))]
      exact zok_s ⟨GP_r, by rw [hcnt]; show nI n = nI (min 36864 (n + 0)); rw [Nat.add_zero, Nat.min_eq_right hn], by rw [List.take_nil]; exact hS⟩
    · have b1 : g 7 (mtN g nd) = 1 := w7.resolve_left bo'
      rw [if_neg bo', if_pos (show V.toInt < 0 ∧ decide (g 7 (mtN g nd) = 1) = true from ⟨by omega, by rw [b1]; decide⟩), zoS_h sh_1285, hcnt]
      by_cases e : nI n = 36864
      · rw [if_pos e]
        exact full _ (by rw [show (36864 : Int32) = nI 36864 from rfl, nI_eqD (by omega) (by decide)] at e; exact e)
      · have hn2 : n < 36864 := by
          rw [show (36864 : Int32) = nI 36864 from rfl, nI_eqD (by omega) (by decide)] at e
          omega
        rw [if_neg e, zoS_h sh_1285, zoL_e, nI_p1, zoS_h sh_1285, zoL_e, if_pos lp, zoL_e, if_pos lp, zoS_h sh_1285, zoL_e, mI_v, if_pos rfl, if_neg (show ¬ (7 = 0) by decide), r7]
        exact paint (k + 1) k V hk (by omega) (by rw [are_sw, hAB, hneg]; omega) (by rw [if_pos lp, are_sw, hAB]) hn2
end ZFN
