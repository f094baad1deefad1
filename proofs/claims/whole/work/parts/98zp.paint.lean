/-! PURE: the reference paints a tile -/
def nfN (f : Nat → Nat → Int32) (r nd : Nat) : Nat := (f (r + 10) (msN (fun a => f (r + a)) nd)).toNatClampNeg
def ndsL (W H : Nat) (f : Nat → Nat → Int32) (r : Nat) (od : Nat → Nat) : Nat → Nat → List Pc
  | 0, _ => []
  | d + 1, k => fcsL W H (mW f r (od k)) (wW f r (od k)) f r (od k) (nfN f r (od k)) 0 ++ ndsL W H f r od d (k + 1)
def ordR (f : Nat → Nat → Int32) (r : Nat) : Nat × (Nat → Nat) := ordS (fun a => f (r + a)) (visN f r) (fun k => mW f r k 11) (cn (fun a => f (r + a)) 3)
/-- all pieces, in their order -/
def PLr (W H : Nat) (f : Nat → Nat → Int32) (r : Nat) : List Pc := ndsL W H f r (ordR f r).2 (ordR f r).1 0
theorem fcsL_c {W H : Nat} {M Wd M' Wd' : Nat → Int64} {f f' : Nat → Nat → Int32} {r nd : Nat} (hM : ∀ k, k < 12 → M k = M' k) (hWd : ∀ k, k < 12 → Wd k = Wd' k) (h : ∀ q, q < 30 → f (r + q) = f' (r + q)) : ∀ d c, fcsL W H M Wd f r nd d c = fcsL W H M' Wd' f' r nd d c := by
  intro d
  induction d with
  | zero => intro c; rfl
  | succ d ih => intro c; rw [fcsL, fcsL, fcL_c hM hWd h, ih]
section ZPN
variable {W H : Nat}
set_option maxHeartbeats 4000000 in
theorem e_g123 {r nd k le to ri bo : Nat} {v1 : Int32} {g : Nat → Nat → Int32} {M Wd : Nat → Int64} {f0 : Nat → Nat → Int32} (hr : gM r) (hW : Wsc g) (hX : Wtx g) (hnd : nd < cn g 3) (hmd : 0 ≤ (g 16 nd).toInt) (hk : k < 48) (hW8 : 8 ≤ W) (hH8 : 8 ≤ H) (hW48 : W ≤ 48) (hH48 : H ≤ 48) (hri : ri ≤ W) (hler : le ≤ ri) (htob : to ≤ bo) (hbo : bo ≤ H) (hf0 : ∀ q, q < 30 → f0 (r + q) = g q) : ∀ (d c fuel n : Nat) (m : zMem) (S : Nat → Nat → pSt), c + d = (g 10 (msN g nd)).toNatClampNeg → d < fuel → fcI W H r g m → rctI le to ri bo m → m.1 1294 k = nI nd → (∀ q, q < 12 → m.2.1 1288 q = M q) → (∀ q, q < 12 → m.2.1 1286 q = Wd q) → n ≤ 36864 → m.1 1285 0 = nI n → PXM W H S m → zok (L_MPainter_goOver_123 (sh0 W H) fuel 1285 v1 (nI k) (nI c) m) (fun q => q.1 = 1285 ∧ q.2.1 = v1 ∧ q.2.2.1 = nI k ∧ GE m q.2.2.2.2 ∧ q.2.2.2.2.1 1285 0 = nI (min 36864 (n + (fcsL W H M Wd f0 r nd d c).length)) ∧ PXM W H (pcL2 g (inR le to ri bo) ((fcsL W H M Wd f0 r nd d c).take (36864 - n)) S) q.2.2.2.2) := by
  obtain ⟨q1, q2, q3, q4⟩ := Wsc_ms hW hnd hmd
  have N := Wsc_n hW
  obtain ⟨_, _, np, nf, n1, n2, n3, n4, _, n6, _⟩ := hW.2.2.1 _ q2
  have hnf : (g 10 (msN g nd)).toNatClampNeg = nf := by rw [n6, nI_cl (by omega)]
  intro d
  induction d with
  | zero =>
    intro c fuel n m S hc hf hI hrc ho hM hWd hn hcnt hS
    obtain ⟨fu, rfl⟩ : ∃ fu, fuel = fu + 1 := ⟨fuel - 1, by omega⟩
    obtain ⟨h1, h2, h3, h4, h5, h6⟩ := hI
    rw [L_MPainter_goOver_123, zoS_h sh_1285, zob_h h2, zoS_h (sh_m0 hr), zob_h (rf_m14 h1 hr), zoS_h sh_1285, zob_h h2, zoS_h (sh_m0 hr), zob_h (rf_m20 h1 hr), zoS_h sh_1285, zob_h (rf_1285_22 h1), zoS_h sh_1294, nI_ix (by omega) (by decide), nI_cl (n := k) (by omega), ho, zoL_e, zoS_h (sh_m16 hr), nI_ix (by omega) (by decide), nI_cl (n := nd) (by omega), h3 16 (by decide), q1, zoL_e, zoS_h (sh_m10 hr), nI_ix (by omega) (by decide), nI_cl (n := msN g nd) (by omega), h3 10 (by decide), n6, if_pos (by rw [nI_leD (by omega) (by omega)]; omega)]
    exact zok_s ⟨rfl, rfl, rfl, ⟨rfl, fun _ _ _ => rfl, fun _ _ _ => rfl, fun _ _ _ _ => rfl⟩, by rw [hcnt]; show nI n = nI (min 36864 (n + 0)); rw [Nat.add_zero, Nat.min_eq_right hn], by show PXM W H (pcL2 g _ (List.take _ []) S) m; rw [List.take_nil]; exact hS⟩
  | succ d ih =>
    intro c fuel n m S hc hf hI hrc ho hM hWd hn hcnt hS
    obtain ⟨fu, rfl⟩ : ∃ fu, fuel = fu + 1 := ⟨fuel - 1, by omega⟩
    have hI' := hI
    obtain ⟨h1, h2, h3, h4, h5, h6⟩ := hI
    rw [L_MPainter_goOver_123, zoS_h sh_1285, zob_h h2, zoS_h (sh_m0 hr), zob_h (rf_m14 h1 hr), zoS_h sh_1285, zob_h h2, zoS_h (sh_m0 hr), zob_h (rf_m20 h1 hr), zoS_h sh_1285, zob_h (rf_1285_22 h1), zoS_h sh_1294, nI_ix (by omega) (by decide), nI_cl (n := k) (by omega), ho, zoL_e, zoS_h (sh_m16 hr), nI_ix (by omega) (by decide), nI_cl (n := nd) (by omega), h3 16 (by decide), q1, zoL_e, zoS_h (sh_m10 hr), nI_ix (by omega) (by decide), nI_cl (n := msN g nd) (by omega), h3 10 (by decide), n6, if_neg (by rw [nI_leD (by omega) (by omega)]; omega), zoS_h sh_1285, zob_h (rf_1285_22 h1), zoS_h sh_1294, if_neg (fun q => q.elim (nI_pos (by omega)) (by omega)), zoS_h sh_1285, zoL_e, ho]
    refine zok_b (e_gface (W := W) (H := H) (fc := c) (n := n) (S := S) (m := m) hr hW hX hnd hmd (by omega) hW8 hH8 hW48 hH48 hri hler htob hbo hI' hrc hn hcnt hS) (fun m2 hm2 => ?_)
    obtain ⟨a1, a2, a3⟩ := hm2
    have hfl : fcL W H (m.2.1 1288) (m.2.1 1286) m.1 r nd c = fcL W H M Wd f0 r nd c := fcL_c hM hWd (fun q hq => by rw [h3 q hq, hf0 q hq])
    rw [hfl] at a2 a3
    rw [nI_p1]
    refine zok_w (ih (c + 1) fu _ m2 _ (by omega) (by omega) (fcI_E hr hI' a1) ⟨by rw [a1.2.2.1 6 (by decide) (by decide)]; exact hrc.1, by rw [a1.2.2.1 7 (by decide) (by decide)]; exact hrc.2.1, by rw [a1.2.2.1 8 (by decide) (by decide)]; exact hrc.2.2.1, by rw [a1.2.2.1 9 (by decide) (by decide)]; exact hrc.2.2.2⟩ (by rw [a1.2.1 1294 (by decide) (by decide)]; exact ho) (fun q hq => by rw [a1.2.2.2 1288 (by decide) (by decide) (by decide)]; exact hM q hq) (fun q hq => by rw [a1.2.2.2 1286 (by decide) (by decide) (by decide)]; exact hWd q hq) (Nat.min_le_left _ _) a2 a3) (fun q hq => ?_)
    obtain ⟨b0, b0', b0'', b1, b2, b3⟩ := hq
    rw [fcsL, take_app hn, pcL2_a, List.length_append, ← min_app]
    exact ⟨b0, b0', b0'', GE_t a1 b1, b2, b3⟩
/-- what a walk over all leaves -/
def GO (m0 m : zMem) : Prop := m.2.2 = m0.2.2 ∧ (∀ k, k ≠ 1283 → k ≠ 1285 → k ≠ 1292 → k ≠ 1294 → m.1 k = m0.1 k) ∧ (∀ c, c ≠ 0 → c ≠ 26 → m.1 1285 c = m0.1 1285 c) ∧ ∀ k, k ≠ 1284 → ¬ (1286 ≤ k ∧ k < 1302) → m.2.1 k = m0.2.1 k
theorem GO_t {m m' m'' : zMem} (h : GO m m') (k : GO m' m'') : GO m m'' := ⟨k.1.trans h.1, fun a h1 h2 h3 h4 => (k.2.1 a h1 h2 h3 h4).trans (h.2.1 a h1 h2 h3 h4), fun c h1 h2 => (k.2.2.1 c h1 h2).trans (h.2.2.1 c h1 h2), fun a h1 h2 => (k.2.2.2 a h1 h2).trans (h.2.2.2 a h1 h2)⟩
theorem GO_E {m m' : zMem} (h : GE m m') : GO m m' := ⟨h.1, fun a h1 h2 _ _ => h.2.1 a h1 h2, h.2.2.1, fun a h1 h2 => h.2.2.2 a h1 (by omega) (by omega)⟩
theorem fcI_O {r : Nat} {g : Nat → Nat → Int32} {m m' : zMem} (hr : gM r) (h : fcI W H r g m) (k : GO m m') : fcI W H r g m' := by
  obtain ⟨h1, h2, h3, h4, h5, h6⟩ := h
  exact ⟨by rw [k.1]; exact h1, by rw [k.1]; exact h2, fun a ha => by rw [k.2.1 _ (by rcases hr with e | e | e <;> omega) (by rcases hr with e | e | e <;> omega) (by rcases hr with e | e | e <;> omega) (by rcases hr with e | e | e <;> omega)]; exact h3 a ha, by rw [k.2.2.1 1 (by decide) (by decide)]; exact h4, by rw [k.2.2.1 2 (by decide) (by decide)]; exact h5, by rw [k.2.2.1 10 (by decide) (by decide)]; exact h6⟩
set_option maxHeartbeats 4000000 in
theorem e_g106 {r cnt le to ri bo : Nat} {od : Nat → Nat} {g : Nat → Nat → Int32} {f0 : Nat → Nat → Int32} (hr : gM r) (hW : Wsc g) (hX : Wtx g) (hcn : cnt ≤ 48) (hod : ∀ k, k < cnt → od k < cn g 3 ∧ 0 ≤ (g 16 (od k)).toInt) (hW8 : 8 ≤ W) (hH8 : 8 ≤ H) (hW48 : W ≤ 48) (hH48 : H ≤ 48) (hri : ri ≤ W) (hler : le ≤ ri) (htob : to ≤ bo) (hbo : bo ≤ H) (hf0 : ∀ q, q < 30 → f0 (r + q) = g q) : ∀ (d k fuel n : Nat) (m : zMem) (S : Nat → Nat → pSt), k + d = cnt → d < fuel → fcI W H r g m → rctI le to ri bo m → (∀ k, k < cnt → m.1 1294 k = nI (od k)) → n ≤ 36864 → m.1 1285 0 = nI n → PXM W H S m → zok (L_MPainter_goOver_106 (sh0 W H) fuel 1285 (nI cnt) (nI k) m) (fun q => GO m q.2.2.2 ∧ PXM W H (pcL2 g (inR le to ri bo) ((ndsL W H f0 r od d k).take (36864 - n)) S) q.2.2.2) := by
  have N := Wsc_n hW
  have hWf : Wsc (fun a => f0 (r + a)) := Wsc_g hf0 hW
  intro d
  induction d with
  | zero =>
    intro k fuel n m S hk hf hI hrc ho hn hcnt hS
    obtain ⟨fu, rfl⟩ : ∃ fu, fuel = fu + 1 := ⟨fuel - 1, by omega⟩
    rw [L_MPainter_goOver_106, if_pos (by rw [nI_leD (by omega) (by omega)]; omega)]
    exact zok_s ⟨⟨rfl, fun _ _ _ _ _ => rfl, fun _ _ _ => rfl, fun _ _ _ => rfl⟩, by show PXM W H (pcL2 g _ (List.take _ []) S) m; rw [List.take_nil]; exact hS⟩
  | succ d ih =>
    intro k fuel n m S hk hf hI hrc ho hn hcnt hS
    obtain ⟨fu, rfl⟩ : ∃ fu, fuel = fu + 1 := ⟨fuel - 1, by omega⟩
    have hI' := hI
    obtain ⟨h1, h2, h3, h4, h5, h6⟩ := hI
    obtain ⟨o1, o2⟩ := hod k (by omega)
    have hWm : Wsc (fun a => m.1 (r + a)) := Wsc_g h3 hW
    obtain ⟨hp, ht, hx⟩ := Wsc_p hWm
    have hc3 := cn_g (c := 3) h3
    rw [L_MPainter_goOver_106, if_neg (by rw [nI_leD (by omega) (by omega)]; omega), zoS_h sh_1285, zob_h (rf_1285_22 h1), zoS_h sh_1294, nI_ix (by omega) (by decide), nI_cl (n := k) (by omega), zoS_h sh_1285, zoL_e, ho k (by omega)]
    refine zok_b (e_toMatrix (W := W) (H := H) h1 h2 hr (show od k < cn (fun a => m.1 (r + a)) 3 by rw [hc3]; exact o1) (by rw [hc3]; omega) ht hp hx) (fun m1 hm1 => ?_)
    obtain ⟨f1, f2, f3⟩ := hm1
    have g1 : GO m m1 := ⟨f1.1, fun a _ _ a3 _ => f1.2.1 a (by simpa using a3), fun c _ _ => congrFun (f1.2.1 1285 (by decide)) c, fun a a1 a2 => f1.2.2 a (by simp; omega)⟩
    have hrow : ∀ q, q < 30 → m.1 (r + q) = f0 (r + q) := fun q hq => by rw [h3 q hq, hf0 q hq]
    have hS1 : PXM W H S m1 := fun x hx y hy => by
      obtain ⟨s1, s2⟩ := hS x hx y hy
      exact ⟨fun k hk => by rw [f1.2.1 1283 (by decide)]; exact s1 k hk, by rw [f1.2.2 1284 (by decide)]; exact s2⟩
    refine zok_b (show zok (L_MPainter_goOver_123 (sh0 W H) zfuel 1285 (nI cnt) (nI k) 0 m1) _ from e_g123 (W := W) (H := H) (v1 := nI cnt) (M := mW f0 r (od k)) (Wd := wW f0 r (od k)) (f0 := f0) hr hW hX o1 o2 (show k < 48 by omega) hW8 hH8 hW48 hH48 hri hler htob hbo hf0 (g 10 (msN g (od k))).toNatClampNeg 0 zfuel n m1 S (by omega) (zf_lt (by
      obtain ⟨_, q2, _⟩ := Wsc_ms hW o1 o2
      obtain ⟨_, _, np, nf, n1, n2, n3, n4, _, n6, _⟩ := hW.2.2.1 _ q2
      rw [n6, nI_cl (by omega)]; omega)) (fcI_O hr hI' g1) ⟨by rw [g1.2.2.1 6 (by decide) (by decide)]; exact hrc.1, by rw [g1.2.2.1 7 (by decide) (by decide)]; exact hrc.2.1, by rw [g1.2.2.1 8 (by decide) (by decide)]; exact hrc.2.2.1, by rw [g1.2.2.1 9 (by decide) (by decide)]; exact hrc.2.2.2⟩ (by rw [f1.2.1 1294 (by decide)]; exact ho k (by omega)) (fun q hq => by rw [f3 q hq, wW_g hrow]) (fun q hq => by rw [f2 q hq, wW_c hrow]) hn (by rw [f1.2.1 1285 (by decide)]; exact hcnt) hS1) (fun q hq => ?_)
    obtain ⟨q0, q1, q2, q3, m2⟩ := q
    obtain ⟨b0, b0', b0'', b1, b2, b3⟩ := hq
    simp only at b0 b0' b0'' b1 b2 b3
    subst b0 b0' b0''
    dsimp only
    rw [nI_p1]
    have g2 : GO m m2 := GO_t g1 (GO_E b1)
    refine zok_w (ih (k + 1) fu _ m2 _ (by omega) (by omega) (fcI_O hr hI' g2) ⟨by rw [g2.2.2.1 6 (by decide) (by decide)]; exact hrc.1, by rw [g2.2.2.1 7 (by decide) (by decide)]; exact hrc.2.1, by rw [g2.2.2.1 8 (by decide) (by decide)]; exact hrc.2.2.1, by rw [g2.2.2.1 9 (by decide) (by decide)]; exact hrc.2.2.2⟩ (fun k hk => by rw [b1.2.1 1294 (by decide) (by decide), f1.2.1 1294 (by decide)]; exact ho k hk) (Nat.min_le_left _ _) b2 b3) (fun z hz => ?_)
    obtain ⟨c1, c2⟩ := hz
    have hnf : nfN f0 r (od k) = (g 10 (msN g (od k))).toNatClampNeg := by unfold nfN msN; simp only [hf0 10 (by decide), hf0 16 (by decide)]
    rw [ndsL, hnf, take_app hn, pcL2_a]
    exact ⟨GO_t g2 c1, c2⟩
set_option maxHeartbeats 4000000 in
theorem e_goOver {r le to ri bo : Nat} {g : Nat → Nat → Int32} {S : Nat → Nat → pSt} {m : zMem} (hr : gM r) (hW : Wsc g) (hX : Wtx g) (hW8 : 8 ≤ W) (hH8 : 8 ≤ H) (hW48 : W ≤ 48) (hH48 : H ≤ 48) (hri : ri ≤ W) (hler : le ≤ ri) (htob : to ≤ bo) (hbo : bo ≤ H) (hI : fcI W H r g m) (hrc : rctI le to ri bo m) (hS : PXM W H S m) : zok (F_MPainter_goOver (sh0 W H) m 1285) (fun m' => GO m m' ∧ PXM W H (pcL2 g (inR le to ri bo) ((PLr W H m.1 r).take 36864) S) m') := by
  have hI' := hI
  obtain ⟨h1, h2, h3, h4, h5, h6⟩ := hI
  have N := Wsc_n hW
  unfold F_MPainter_goOver
  rw [zoS_h sh_1285, zoL_e]
  have hrow : ∀ q, q < 30 → (mI m 1285 0 0).1 (r + q) = m.1 (r + q) := fun q hq => mI_o (by rcases hr with e | e | e <;> omega)
  have hW0 : Wsc (fun a => (mI m 1285 0 0).1 (r + a)) := Wsc_g (fun a ha => by rw [hrow a ha]; exact h3 a ha) hW
  have hc0 : cn (fun a => (mI m 1285 0 0).1 (r + a)) 3 = cn (fun a => m.1 (r + a)) 3 := cn_g hrow
  have hOS : ∀ i, ordS (fun a => (mI m 1285 0 0).1 (r + a)) (visN (mI m 1285 0 0).1 r) (fun k => mW (mI m 1285 0 0).1 r k 11) i = ordS (fun a => m.1 (r + a)) (visN m.1 r) (fun k => mW m.1 r k 11) i := fun i => by
    have e1 : visN (mI m 1285 0 0).1 r = visN m.1 r := funext fun k => visN_g hrow k
    have e2 : (fun k => mW (mI m 1285 0 0).1 r k 11) = fun k => mW m.1 r k 11 := funext fun k => wW_g hrow k 11
    rw [e1, e2]
    induction i with
    | zero => rfl
    | succ i ih =>
      rw [ordS, ordS, ih]
      have : (fun k => ahd (fun a => (mI m 1285 0 0).1 (r + a)) (fun k => mW m.1 r k 11) i ((ordS (fun a => m.1 (r + a)) (visN m.1 r) (fun k => mW m.1 r k 11) i).2 k)) = fun k => ahd (fun a => m.1 (r + a)) (fun k => mW m.1 r k 11) i ((ordS (fun a => m.1 (r + a)) (visN m.1 r) (fun k => mW m.1 r k 11) i).2 k) := funext fun k => ahd_g hrow
      rw [this]
  have h9 := e_go9 (W := W) (H := H) (m0 := mI m 1285 0 0) hr h1 h2 hW0 (cn (fun a => (mI m 1285 0 0).1 (r + a)) 3) 0 zfuel (mI m 1285 0 0) (by omega) (zf_lt (by rw [hc0, cn_g h3]; omega)) ⟨frm_r, fun k hk => absurd hk (Nat.not_lt_zero _), fun k hk => absurd hk (Nat.not_lt_zero _)⟩
  refine zok_b (show zok (L_MPainter_goOver_9 (sh0 W H) zfuel 1285 0 0 (mI m 1285 0 0)) _ from h9) (fun q hq => ?_)
  obtain ⟨z0, z1, z2, m1⟩ := q
  obtain ⟨p1, p2, p3⟩ := hq
  simp only at p1 p2 p3
  rw [hc0] at p2 p3
  unfold go9 at p3
  rw [hOS] at p2 p3
  subst p1 p2
  dsimp only
  obtain ⟨k1, k2, k3⟩ := p3
  have hOR : ordR m.1 r = ordS (fun a => m.1 (r + a)) (visN m.1 r) (fun k => mW m.1 r k 11) (cn (fun a => m.1 (r + a)) 3) := rfl
  rw [← hOR] at k2 ⊢
  have hob := ord_b (g := fun a => m.1 (r + a)) (vis := visN m.1 r) (ky := fun k => mW m.1 r k 11) (cn (fun a => m.1 (r + a)) 3)
  rw [← hOR, cn_g h3] at hob
  have g1 : GO m m1 := ⟨k1.1, fun a a1 a2 a3 a4 => by rw [k1.2.1 a (by unfold goI; simp; omega), mI_o a2], fun c c1 c2 => by rw [k1.2.1 1285 (by decide), mI_v, if_pos rfl, if_neg c1], fun a a1 a2 => by rw [k1.2.2 a (by unfold goL; simp; omega)]; rfl⟩
  have hcnt : m1.1 1285 0 = nI 0 := by rw [k1.2.1 1285 (by decide), mI_v, if_pos rfl, if_pos rfl]; rfl
  have hS1 : PXM W H S m1 := fun x hx y hy => by
    obtain ⟨s1, s2⟩ := hS x hx y hy
    exact ⟨fun k hk => by rw [k1.2.1 1283 (by decide), mI_o (by decide)]; exact s1 k hk, by rw [k1.2.2 1284 (by decide)]; exact s2⟩
  refine zok_b (show zok (L_MPainter_goOver_106 (sh0 W H) zfuel 1285 (nI (ordR m.1 r).1) 0 m1) _ from e_g106 (W := W) (H := H) (cnt := (ordR m.1 r).1) (od := (ordR m.1 r).2) (f0 := m.1) hr hW hX (by omega) (fun k hk => ⟨(hob.2 k hk).1, by rw [← h3 16 (by decide)]; exact vis_m (hob.2 k hk).2⟩) hW8 hH8 hW48 hH48 hri hler htob hbo h3 (ordR m.1 r).1 0 zfuel 0 m1 S (by omega) (zf_lt (by omega)) (fcI_O hr hI' g1) ⟨by rw [g1.2.2.1 6 (by decide) (by decide)]; exact hrc.1, by rw [g1.2.2.1 7 (by decide) (by decide)]; exact hrc.2.1, by rw [g1.2.2.1 8 (by decide) (by decide)]; exact hrc.2.2.1, by rw [g1.2.2.1 9 (by decide) (by decide)]; exact hrc.2.2.2⟩ k2 (by decide) hcnt hS1) (fun q hq => zok_s ⟨GO_t g1 hq.1, ?_⟩)
  exact hq.2
theorem e_paint {r le to ri bo : Nat} {g : Nat → Nat → Int32} {S : Nat → Nat → pSt} {m : zMem} (hr : gM r) (hR : RF m.2.2) (hg : ∀ a, a < 30 → m.1 (r + a) = g a) (hw : m.1 1285 1 = nI W) (hh : m.1 1285 2 = nI H) (hW : Wsc g) (hX : Wtx g) (hW8 : 8 ≤ W) (hH8 : 8 ≤ H) (hW48 : W ≤ 48) (hH48 : H ≤ 48) (hri : ri ≤ W) (hler : le ≤ ri) (htob : to ≤ bo) (hbo : bo ≤ H) (hS : PXM W H S m) : zok (F_MPainter_paint (sh0 W H) m 1285 r (nI le) (nI to) (nI ri) (nI bo)) (fun m' => (RF m'.2.2 ∧ m'.2.2 1178 3 = m.2.2 1178 3 ∧ m'.2.2 0 5 = m.2.2 0 5 ∧ m'.2.2 1121 2 = m.2.2 1121 2 ∧ m'.2.2 1121 14 = m.2.2 1121 14) ∧ (∀ k, k ≠ 1283 → k ≠ 1285 → k ≠ 1292 → k ≠ 1294 → m'.1 k = m.1 k) ∧ (m'.1 1285 1 = nI W ∧ m'.1 1285 2 = nI H) ∧ (∀ k, k ≠ 1284 → ¬ (1286 ≤ k ∧ k < 1302) → m'.2.1 k = m.2.1 k) ∧ PXM W H (pcL2 g (inR le to ri bo) ((PLr W H m.1 r).take 36864) S) m') := by
  unfold F_MPainter_paint
  rw [zoS_h sh_1285, zoL_e, zoS_h sh_1285, zoL_e, zoS_h sh_1285, zoL_e, zoS_h sh_1285, zoL_e, zoS_h sh_1285, zoL_e, zoS_h sh_1285, zoL_e, zoS_h sh_1285]
  generalize hmA : mI (mI (mI (mI (mI (mR m 1285 5 (some r)) 1285 10 1) 1285 6 (nI le)) 1285 7 (nI to)) 1285 8 (nI ri)) 1285 9 (nI bo) = mA
  have fA : ∀ k, k ≠ 1285 → mA.1 k = m.1 k := fun k hk => by rw [← hmA, mI_o hk, mI_o hk, mI_o hk, mI_o hk, mI_o hk, mR_1]
  have fc : mA.1 1285 1 = nI W ∧ mA.1 1285 2 = nI H ∧ ¬ mA.1 1285 10 = 0 ∧ rctI le to ri bo mA := by
    rw [← hmA]
    refine ⟨?_, ?_, ?_, ?_, ?_, ?_, ?_⟩
    · simp [mI_v, mR_1, hw]
    · simp [mI_v, mR_1, hh]
    · simp [mI_v]
    all_goals simp [mI_v]
  have RA : mA.2.2 = (mR m 1285 5 (some r)).2.2 := by rw [← hmA]; rfl
  have LA : mA.2.1 = m.2.1 := by rw [← hmA]; rfl
  have hRA : RF mA.2.2 := by rw [RA]; exact RF_u hR (by unfold rMut; omega)
  have hrow : ∀ q, q < 30 → mA.1 (r + q) = m.1 (r + q) := fun q hq => fA _ (by rcases hr with e | e | e <;> omega)
  have hSA : PXM W H S mA := fun x hx y hy => by
    obtain ⟨s1, s2⟩ := hS x hx y hy
    exact ⟨fun k hk => by rw [fA 1283 (by decide)]; exact s1 k hk, by rw [LA]; exact s2⟩
  have hPL : PLr W H mA.1 r = PLr W H m.1 r := by
    have e1 : visN mA.1 r = visN m.1 r := funext fun k => visN_g hrow k
    have e2 : (fun k => mW mA.1 r k 11) = fun k => mW m.1 r k 11 := funext fun k => wW_g hrow k 11
    have hos : ∀ i, ordS (fun a => mA.1 (r + a)) (visN mA.1 r) (fun k => mW mA.1 r k 11) i = ordS (fun a => m.1 (r + a)) (visN m.1 r) (fun k => mW m.1 r k 11) i := fun i => by
      rw [e1, e2]
      induction i with
      | zero => rfl
      | succ i ih =>
        rw [ordS, ordS, ih]
        have : (fun k => ahd (fun a => mA.1 (r + a)) (fun k => mW m.1 r k 11) i ((ordS (fun a => m.1 (r + a)) (visN m.1 r) (fun k => mW m.1 r k 11) i).2 k)) = fun k => ahd (fun a => m.1 (r + a)) (fun k => mW m.1 r k 11) i ((ordS (fun a => m.1 (r + a)) (visN m.1 r) (fun k => mW m.1 r k 11) i).2 k) := funext fun k => ahd_g hrow
        rw [this]
    have hor : ordR mA.1 r = ordR m.1 r := by unfold ordR; rw [cn_g hrow, hos]
    unfold PLr
    rw [hor]
    have : ∀ d k, ndsL W H mA.1 r (ordR m.1 r).2 d k = ndsL W H m.1 r (ordR m.1 r).2 d k := by
      intro d
      induction d with
      | zero => intro k; rfl
      | succ d ih =>
        intro k
        have hnf : nfN mA.1 r ((ordR m.1 r).2 k) = nfN m.1 r ((ordR m.1 r).2 k) := by unfold nfN msN; simp only [hrow 10 (by decide), hrow 16 (by decide)]
        rw [ndsL, ndsL, ih, hnf, fcsL_c (fun q _ => wW_g hrow _ q) (fun q _ => by rw [wW_c hrow]) hrow]
    exact this _ _
  refine zok_b (e_goOver (W := W) (H := H) (S := S) (m := mA) hr hW hX hW8 hH8 hW48 hH48 hri hler htob hbo ⟨hRA, by rw [RA]; exact mR_e, fun a ha => by rw [hrow a ha]; exact hg a ha, fc.1, fc.2.1, fc.2.2.1⟩ fc.2.2.2 hSA) (fun m' hm => zok_s ?_)
  obtain ⟨a1, a2⟩ := hm
  rw [hPL] at a2
  refine ⟨⟨by rw [a1.1]; exact hRA, by rw [a1.1, RA, mR_ne (by omega)], by rw [a1.1, RA, mR_ne (by omega)], by rw [a1.1, RA, mR_ne (by omega)], by rw [a1.1, RA, mR_ne (by omega)]⟩, fun k k1 k2 k3 k4 => by rw [a1.2.1 k k1 k2 k3 k4, fA k k2], ⟨by rw [a1.2.2.1 1 (by decide) (by decide)]; exact fc.1, by rw [a1.2.2.1 2 (by decide) (by decide)]; exact fc.2.1⟩, fun k k1 k2 => by rw [a1.2.2.2 k k1 k2, LA], a2⟩
end ZPN
