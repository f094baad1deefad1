/-! PURE: a face, a node, all nodes painted: the reference -/
def w64 (n : Nat) : Int64 := (nI n).toInt64
def w8n (n : Nat) : Int64 := ((8 : Int32) * nI n).toInt64
/-- the pieces of a face -/
def plyP (W H : Nat) (M Wd : Nat → Int64) (f : Nat → Nat → Int32) (r ms fc : Nat) : List (Nat → Int64) := (ply (w64 W) (w64 H) M Wd f r ms fc).map (pcr (f r 34).toInt64 (w8n W) (w8n H))
def fanL (both : Bool) (nd fc : Nat) (l : List (Nat → Int64)) : List Pc := match l with
  | [] => []
  | A :: t => fanG both nd fc A t
def fcL (W H : Nat) (M Wd : Nat → Int64) (f : Nat → Nat → Int32) (r nd fc : Nat) : List Pc := fanL (decide (f (r + 7) (mtN (fun a => f (r + a)) nd) = 1)) nd fc (plyP W H M Wd f r (msN (fun a => f (r + a)) nd) fc)
def fcsL (W H : Nat) (M Wd : Nat → Int64) (f : Nat → Nat → Int32) (r nd : Nat) : Nat → Nat → List Pc
  | 0, _ => []
  | d + 1, c => fcL W H M Wd f r nd c ++ fcsL W H M Wd f r nd d (c + 1)
theorem fanG_s {both : Bool} {nd fc : Nat} {A B C : Nat → Int64} {t : List (Nat → Int64)} : fanG both nd fc A (B :: C :: t) = fan1 both nd fc A B C ++ fanG both nd fc A (C :: t) := rfl
theorem crn_c {M Wd M' Wd' : Nat → Int64} {f f' : Nat → Nat → Int32} {r ms p : Nat} (hM : ∀ k, k < 12 → M k = M' k) (hWd : ∀ k, k < 12 → Wd k = Wd' k) (h : ∀ q, q < 30 → f (r + q) = f' (r + q)) : crn M Wd f r ms p = crn M' Wd' f' r ms p := by
  have h0 := h 0 (by decide)
  rw [Nat.add_zero] at h0
  funext k
  unfold crn lgD apD
  rw [h 11 (by decide), h 12 (by decide), h 13 (by decide), h 29 (by decide), h0, hWd 0 (by decide), hWd 1 (by decide), hWd 2 (by decide), hWd 4 (by decide), hWd 5 (by decide), hWd 6 (by decide), hWd 8 (by decide), hWd 9 (by decide), hWd 10 (by decide)]
  by_cases e : k < 3
  · rw [if_pos e, if_pos e]
    unfold apP
    rw [hM _ (by omega), hM _ (by omega), hM _ (by omega), hM _ (by omega)]
  · rw [if_neg e, if_neg e]
theorem fc3_c {M Wd M' Wd' : Nat → Int64} {f f' : Nat → Nat → Int32} {r ms fc : Nat} (hM : ∀ k, k < 12 → M k = M' k) (hWd : ∀ k, k < 12 → Wd k = Wd' k) (h : ∀ q, q < 30 → f (r + q) = f' (r + q)) : fc3 M Wd f r ms fc = fc3 M' Wd' f' r ms fc := by
  unfold fc3 fcP
  rw [h 14 (by decide), crn_c hM hWd h, crn_c hM hWd h, crn_c hM hWd h]
theorem plyP_c {W H : Nat} {M Wd M' Wd' : Nat → Int64} {f f' : Nat → Nat → Int32} {r ms fc : Nat} (hM : ∀ k, k < 12 → M k = M' k) (hWd : ∀ k, k < 12 → Wd k = Wd' k) (h : ∀ q, q < 30 → f (r + q) = f' (r + q)) : plyP W H M Wd f r ms fc = plyP W H M' Wd' f' r ms fc := by
  have h0 := h 0 (by decide)
  rw [Nat.add_zero] at h0
  unfold plyP ply
  rw [fc3_c hM hWd h, h0]
theorem fcL_c {W H : Nat} {M Wd M' Wd' : Nat → Int64} {f f' : Nat → Nat → Int32} {r nd fc : Nat} (hM : ∀ k, k < 12 → M k = M' k) (hWd : ∀ k, k < 12 → Wd k = Wd' k) (h : ∀ q, q < 30 → f (r + q) = f' (r + q)) : fcL W H M Wd f r nd fc = fcL W H M' Wd' f' r nd fc := by
  unfold fcL
  have e1 : msN (fun a => f (r + a)) nd = msN (fun a => f' (r + a)) nd := by unfold msN; simp only [h 16 (by decide)]
  have e2 : mtN (fun a => f (r + a)) nd = mtN (fun a => f' (r + a)) nd := by unfold mtN msN; simp only [h 16 (by decide), h 8 (by decide)]
  rw [e1, e2, h 7 (by decide), plyP_c hM hWd h]
theorem take_app {a b : List Pc} {n : Nat} (hn : n ≤ 36864) : (a ++ b).take (36864 - n) = a.take (36864 - n) ++ b.take (36864 - min 36864 (n + a.length)) := by
  rw [List.take_append]
  congr 2
  omega
theorem min_app {a b n : Nat} : min 36864 (min 36864 (n + a) + b) = min 36864 (n + (a + b)) := by omega
section ZGF
variable {W H : Nat}
theorem e_g218 {r nd fcn le to ri bo : Nat} {l : List (Nat → Int64)} {f w8 h8 : Int64} {g : Nat → Nat → Int32} (hr : gM r) (hW : Wsc g) (hX : Wtx g) (hnd : nd < cn g 3) (hmd : 0 ≤ (g 16 nd).toInt) (hl : l.length ≤ 19) (hCP : ∀ q, q < l.length → CP (pcr f w8 h8 (l.getD q oF))) (hW48 : W ≤ 48) (hH48 : H ≤ 48) (hri : ri ≤ W) (hler : le ≤ ri) (htob : to ≤ bo) (hbo : bo ≤ H) : ∀ (d k fuel n : Nat) (m : zMem) (S : Nat → Nat → pSt), l.length ≤ k + 1 + d → 1 ≤ k → d < fuel → k ≤ 20 → pcI (W := W) r nd 0 0 l f w8 h8 g m → rctI le to ri bo m → n ≤ 36864 → m.1 1285 0 = nI n → m.1 1285 26 = nI l.length → PXM W H S m → zok (L_MPainter_goOverFace_218 (sh0 W H) fuel 1285 (nI nd) (nI fcn) (nI k) m) (fun q => GP m q.2.2.2.2 ∧ q.2.2.2.2.1 1285 0 = nI (min 36864 (n + (fanG (decide (g 7 (mtN g nd) = 1)) nd fcn (pcr f w8 h8 (l.getD 0 oF)) ((l.map (pcr f w8 h8)).drop k)).length)) ∧ PXM W H (pcL2 g (inR le to ri bo) ((fanG (decide (g 7 (mtN g nd) = 1)) nd fcn (pcr f w8 h8 (l.getD 0 oF)) ((l.map (pcr f w8 h8)).drop k)).take (36864 - n)) S) q.2.2.2.2) := by
  have dropP : ∀ c, c < l.length → (l.map (pcr f w8 h8)).drop c = pcr f w8 h8 (l.getD c oF) :: (l.map (pcr f w8 h8)).drop (c + 1) := fun c hc => by
    have hc' : c < (l.map (pcr f w8 h8)).length := by rw [List.length_map]; exact hc
    rw [List.drop_eq_getElem_cons hc', List.getElem_map, List.getD_eq_getElem?_getD, List.getElem?_eq_getElem hc, Option.getD_some]
  have stop : ∀ k, 1 ≤ k → l.length ≤ k + 1 → fanG (decide (g 7 (mtN g nd) = 1)) nd fcn (pcr f w8 h8 (l.getD 0 oF)) ((l.map (pcr f w8 h8)).drop k) = [] := fun k hk hkl => by
    by_cases e : k < l.length
    · rw [dropP k e, List.drop_eq_nil_of_le (by rw [List.length_map]; omega)]
      rfl
    · rw [List.drop_eq_nil_of_le (by rw [List.length_map]; omega)]
      rfl
  intro d
  induction d with
  | zero =>
    intro k fuel n m S hk hk1 hf hk20 hI hrc hn hcnt h26 hS
    obtain ⟨fu, rfl⟩ : ∃ fu, fuel = fu + 1 := ⟨fuel - 1, by omega⟩
    rw [L_MPainter_goOverFace_218, zoS_h sh_1285, h26, nI_p1, if_pos (by rw [nI_leD (by omega) (by omega)]; omega), stop k hk1 (by omega)]
    exact zok_s ⟨GP_r, by rw [hcnt]; show nI n = nI (min 36864 (n + 0)); rw [Nat.add_zero, Nat.min_eq_right hn], by rw [List.take_nil]; exact hS⟩
  | succ d ih =>
    intro k fuel n m S hk hk1 hf hk20 hI hrc hn hcnt h26 hS
    obtain ⟨fu, rfl⟩ : ∃ fu, fuel = fu + 1 := ⟨fuel - 1, by omega⟩
    rw [L_MPainter_goOverFace_218, zoS_h sh_1285, h26, nI_p1]
    by_cases e : l.length ≤ k + 1
    · rw [if_pos (by rw [nI_leD (by omega) (by omega)]; omega), stop k hk1 e]
      exact zok_s ⟨GP_r, by rw [hcnt]; show nI n = nI (min 36864 (n + 0)); rw [Nat.add_zero, Nat.min_eq_right hn], by rw [List.take_nil]; exact hS⟩
    · rw [if_neg (by rw [nI_leD (by omega) (by omega)]; omega), zoS_h sh_1285]
      refine zok_b (e_piece (W := W) (H := H) (fcn := fcn) (k := k) (n := n) (S := S) (m := m) hr hW hX hnd hmd hl hk1 (by omega) hCP hW48 hH48 hri hler htob hbo hI hrc hn hcnt hS) (fun m2 h2 => ?_)
      obtain ⟨a1, a2, a3⟩ := h2
      refine zok_w (ih (k + 1) fu _ m2 _ (by omega) (by omega) (by omega) (by omega) (pcI_P hr hI a1) ⟨by rw [a1.2.2.1 6 (by decide)]; exact hrc.1, by rw [a1.2.2.1 7 (by decide)]; exact hrc.2.1, by rw [a1.2.2.1 8 (by decide)]; exact hrc.2.2.1, by rw [a1.2.2.1 9 (by decide)]; exact hrc.2.2.2⟩ (Nat.min_le_left _ _) a2 (by rw [a1.2.2.1 26 (by decide)]; exact h26) a3) (fun q hq => ?_)
      obtain ⟨b1, b2, b3⟩ := hq
      have ef : fanG (decide (g 7 (mtN g nd) = 1)) nd fcn (pcr f w8 h8 (l.getD 0 oF)) ((l.map (pcr f w8 h8)).drop k) = fan1 (decide (g 7 (mtN g nd) = 1)) nd fcn (pcr f w8 h8 (l.getD 0 oF)) (pcr f w8 h8 (l.getD k oF)) (pcr f w8 h8 (l.getD (k + 1) oF)) ++ fanG (decide (g 7 (mtN g nd) = 1)) nd fcn (pcr f w8 h8 (l.getD 0 oF)) ((l.map (pcr f w8 h8)).drop (k + 1)) := by
        rw [dropP k (by omega), dropP (k + 1) (by omega), fanG_s]
      rw [ef, take_app hn, pcL2_a, List.length_append, ← min_app]
      exact ⟨GP_t a1 b1, b2, b3⟩
/-- what a face leaves -/
def GE (m0 m : zMem) : Prop := m.2.2 = m0.2.2 ∧ (∀ k, k ≠ 1283 → k ≠ 1285 → m.1 k = m0.1 k) ∧ (∀ c, c ≠ 0 → c ≠ 26 → m.1 1285 c = m0.1 1285 c) ∧ ∀ k, k ≠ 1284 → k ≠ 1301 → ¬ (1295 ≤ k ∧ k < 1301) → m.2.1 k = m0.2.1 k
theorem GE_t {m m' m'' : zMem} (h : GE m m') (k : GE m' m'') : GE m m'' := ⟨k.1.trans h.1, fun a h1 h2 => (k.2.1 a h1 h2).trans (h.2.1 a h1 h2), fun c h1 h2 => (k.2.2.1 c h1 h2).trans (h.2.2.1 c h1 h2), fun a h1 h2 h3 => (k.2.2.2 a h1 h2 h3).trans (h.2.2.2 a h1 h2 h3)⟩
/-- what stands when faces are painted -/
def fcI (W H r : Nat) (g : Nat → Nat → Int32) (m : zMem) : Prop := RF m.2.2 ∧ m.2.2 1285 5 = some r ∧ (∀ a, a < 30 → m.1 (r + a) = g a) ∧ m.1 1285 1 = nI W ∧ m.1 1285 2 = nI H ∧ ¬ m.1 1285 10 = 0
theorem fcI_E {r : Nat} {g : Nat → Nat → Int32} {m m' : zMem} (hr : gM r) (h : fcI W H r g m) (k : GE m m') : fcI W H r g m' := by
  obtain ⟨h1, h2, h3, h4, h5, h6⟩ := h
  exact ⟨by rw [k.1]; exact h1, by rw [k.1]; exact h2, fun a ha => by rw [k.2.1 _ (by rcases hr with e | e | e <;> omega) (by rcases hr with e | e | e <;> omega)]; exact h3 a ha, by rw [k.2.2.1 1 (by decide) (by decide)]; exact h4, by rw [k.2.2.1 2 (by decide) (by decide)]; exact h5, by rw [k.2.2.1 10 (by decide) (by decide)]; exact h6⟩
set_option maxHeartbeats 8000000 in
theorem e_gface {r nd fc n le to ri bo : Nat} {g : Nat → Nat → Int32} {S : Nat → Nat → pSt} {m : zMem} (hr : gM r) (hW : Wsc g) (hX : Wtx g) (hnd : nd < cn g 3) (hmd : 0 ≤ (g 16 nd).toInt) (hfc : fc < (g 10 (msN g nd)).toNatClampNeg) (hW8 : 8 ≤ W) (hH8 : 8 ≤ H) (hW48 : W ≤ 48) (hH48 : H ≤ 48) (hri : ri ≤ W) (hler : le ≤ ri) (htob : to ≤ bo) (hbo : bo ≤ H) (hI : fcI W H r g m) (hrc : rctI le to ri bo m) (hn : n ≤ 36864) (hcnt : m.1 1285 0 = nI n) (hS : PXM W H S m) : zok (F_MPainter_goOverFace (sh0 W H) m 1285 (nI nd) (nI fc)) (fun m' => GE m m' ∧ m'.1 1285 0 = nI (min 36864 (n + (fcL W H (m.2.1 1288) (m.2.1 1286) m.1 r nd fc).length)) ∧ PXM W H (pcL2 g (inR le to ri bo) ((fcL W H (m.2.1 1288) (m.2.1 1286) m.1 r nd fc).take (36864 - n)) S) m') := by
  have hI' := hI
  obtain ⟨h1, h2, h3, h4, h5, h6⟩ := hI
  have hmsE : msN (fun a => m.1 (r + a)) nd = msN g nd := by unfold msN; simp only [h3 16 (by decide)]
  have hmtE : mtN (fun a => m.1 (r + a)) nd = mtN g nd := by unfold mtN msN; simp only [h3 16 (by decide), h3 8 (by decide)]
  obtain ⟨q1, q2, q3, q4⟩ := Wsc_ms hW hnd hmd
  have N := Wsc_n hW
  have hWm : Wsc (fun a => m.1 (r + a)) := Wsc_g h3 hW
  have c2 := cn_g (c := 2) h3
  obtain ⟨_, _, np, nf, n1, n2, n3, n4, _, n6, _⟩ := hW.2.2.1 _ q2
  have hfc128 : fc < 128 := by rw [n6, nI_cl (by omega)] at hfc; omega
  have wf : whf (w64 W) (w64 H) (g 0 34).toInt64 := by
    have wc := hW.2.2.2.2.1.2
    refine ⟨?_, ?_, ?_⟩
    · unfold w64; rw [Int32.toInt_toInt64, nI_toInt (by omega)]; omega
    · unfold w64; rw [Int32.toInt_toInt64, nI_toInt (by omega)]; omega
    · rw [Int32.toInt_toInt64]; exact wc
  have g0 : m.1 r = g 0 := by have := h3 0 (by decide); rw [Nat.add_zero] at this; exact this
  have hB := fc3_B (M := m.2.1 1288) (Wd := m.2.1 1286) (f := m.1) (r := r) (ms := msN g nd) (fc := fc) (w := (w64 W).toInt) (h := (w64 H).toInt) (F := (g 0 34).toInt64.toInt) hWm (by rw [c2]; exact q2) (by rw [h3 10 (by decide)]; exact hfc)
  have h8W : (w8n W).toInt = 8 * (w64 W).toInt := by
    unfold w8n w64
    rw [Int32.toInt_toInt64, Int32.toInt_toInt64, show (8 : Int32) = nI 8 from rfl, nI_mul, nI_toInt (by omega), nI_toInt (by omega)]
    omega
  have h8H : (w8n H).toInt = 8 * (w64 H).toInt := by
    unfold w8n w64
    rw [Int32.toInt_toInt64, Int32.toInt_toInt64, show (8 : Int32) = nI 8 from rfl, nI_mul, nI_toInt (by omega), nI_toInt (by omega)]
    omega
  unfold F_MPainter_goOverFace
  rw [zoS_h sh_1285, zob_h h2, zoS_h (sh_m0 hr), zob_h (rf_m20 h1 hr), zoS_h (sh_m16 hr), nI_ix (by omega) (by decide), nI_cl (n := nd) (by omega), zoL_e, h3 16 (by decide), q1]
  refine zok_b (e_gf13 (W := W) (H := H) (m := m) (x := nI nd) hr h1 h2 (by omega) hfc128 hB.1) (fun q hq => ?_)
  obtain ⟨z0, z1, z2, z3, z4, m1⟩ := q
  obtain ⟨p1, p2, p3, p4, p5⟩ := hq
  simp only at p1 p2 p3 p4 p5
  subst p1 p2 p3
  dsimp only
  have e1 : m1.1 = m.1 := funext fun a => p4.2.1 a (by simp)
  rw [zoS_h sh_1285, zoL_e]
  generalize hl0 : fc3 (m.2.1 1288) (m.2.1 1286) m.1 r (msN g nd) fc = l0 at p5 hB
  have hl03 : l0.length = 3 := by rw [← hl0]; rfl
  have hR2 : RF (mI m1 1285 26 3).2.2 := by
    show RF m1.2.2
    rw [p4.1]; exact h1
  refine zok_b (show zok (L_MPainter_goOverFace_60 (sh0 W H) zfuel 1285 (nI nd) (nI fc) 0 (mI m1 1285 26 3)) _ from e_gf60 (W := W) (H := H) (nd := nd) (m0 := mI m1 1285 26 3) (x := nI nd) (l := l0) (w := w64 W) (h := w64 H) (f := (g 0 34).toInt64) hr hR2 (by show m1.2.2 1285 5 = some r; rw [p4.1]; exact h2) (by rw [mI_v, if_pos rfl, if_neg (by decide), e1, h4]; rfl) (by rw [mI_v, if_pos rfl, if_neg (by decide), e1, h5]; rfl) (by rw [mI_o (by rcases hr with e | e | e <;> omega), e1, g0]) wf hl03 hB.2 5 0 zfuel (mI m1 1285 26 3) (by decide) (zf_lt (by decide)) frm_r (fun _ _ => rfl) (by rw [mI_v, if_pos rfl, if_pos rfl, show (cutN (w64 W) (w64 H) (g 0 34).toInt64 l0 0).length = 3 from hl03]; rfl) p5) (fun q hq => ?_)
  obtain ⟨z0', z1', z2', z3', m2⟩ := q
  obtain ⟨u1, u2, u3, u4, u5, u6, u7⟩ := hq
  simp only at u1 u2 u3 u4 u5 u6 u7
  subst u1 u2 u3
  dsimp only
  have hlen := cutN_19 (w := w64 W) (h := w64 H) (f := (g 0 34).toInt64) hl03 (show 5 ≤ 5 by decide)
  have hCB := cutN_B wf hB.2 5 (by decide)
  generalize hl5 : cutN (w64 W) (w64 H) (g 0 34).toInt64 l0 5 = l at u6 u7 hlen hCB
  have memD : ∀ c, c < l.length → l.getD c oF ∈ l := fun c hc => by
    rw [List.getD_eq_getElem?_getD, List.getElem?_eq_getElem hc, Option.getD_some]
    exact List.getElem_mem hc
  have hCPz : ∀ c, c < l.length → CP (pcr (g 0 34).toInt64 (w8n W) (w8n H) (l.getD c oF)) ∧ l.getD c oF 2 ≠ 0 := fun c hc => CP_of wf h8W h8H (hCB _ (memD c hc))
  have f2 : ∀ k, k ≠ 1285 → m2.1 k = m.1 k := fun k hk => by rw [u4.2.1 k (by simpa using hk), mI_o hk, e1]
  have f2c : ∀ c, c ≠ 26 → m2.1 1285 c = m.1 1285 c := fun c hc => by rw [u5 c hc, mI_v, if_pos rfl, if_neg hc, e1]
  have R2 : m2.2.2 = m.2.2 := by rw [u4.1]; exact p4.1
  have er2 : m2.1 r = g 0 := by rw [f2 r (by rcases hr with e | e | e <;> omega), g0]
  refine zok_b (show zok (L_MPainter_goOverFace_81 (sh0 W H) zfuel 1285 (nI nd) (nI fc) 0 m2) _ from e_gf81 (W := W) (H := H) (m0 := m2) (x := nI nd) (l := l) (f := (g 0 34).toInt64) (w8 := w8n W) (h8 := w8n H) hr (by rw [R2]; exact h1) (by rw [R2]; exact h2) (by rw [er2]) (by rw [f2c 1 (by decide), h4]; rfl) (by rw [f2c 2 (by decide), h5]; rfl) hlen.1 u6 u7 (fun c hc => (hCPz c hc).2) l.length 0 zfuel m2 (by omega) (zf_lt (by omega)) frm_r (fun k hk => by omega)) (fun q hq => ?_)
  obtain ⟨y0, y1, y2, y3, m3⟩ := q
  obtain ⟨v1, v2, v3, v4, v5⟩ := hq
  simp only at v1 v2 v3 v4 v5
  subst v1 v2 v3
  dsimp only
  have e3 : m3.1 = m2.1 := funext fun a => v4.2.1 a (by simp)
  have hI3 : pcI (W := W) r nd 0 0 l (g 0 34).toInt64 (w8n W) (w8n H) g m3 := ⟨by rw [v4.1, R2]; exact h1, by rw [v4.1, R2]; exact h2, fun a ha => by rw [e3, f2 _ (by rcases hr with e | e | e <;> omega)]; exact h3 a ha, by rw [v4.2.2 1295 (by decide)]; exact u7, v5, by rw [e3, f2c 1 (by decide)]; exact h4, by rw [e3, f2c 10 (by decide)]; exact h6⟩
  have hS3 : PXM W H S m3 := fun x hx y hy => by
    obtain ⟨s1, s2⟩ := hS x hx y hy
    refine ⟨fun k hk => by rw [e3, f2 1283 (by decide)]; exact s1 k hk, ?_⟩
    rw [v4.2.2 1284 (by decide), u4.2.2 1284 (by decide)]
    show m1.2.1 1284 _ = _
    rw [p4.2.2 1284 (by decide)]
    exact s2
  have hmid : GE m m3 := ⟨by rw [v4.1, R2], fun k k1 k2 => by rw [e3, f2 k k2], fun c c1 c2 => by rw [e3, f2c c c2], fun k k1 k2 k3 => by
    rw [v4.2.2 k (by simp; omega), u4.2.2 k (by simp; omega)]
    show m1.2.1 k = _
    rw [p4.2.2 k (by simp; omega)]⟩
  have hrc3 : rctI le to ri bo m3 := ⟨by rw [e3, f2c 6 (by decide)]; exact hrc.1, by rw [e3, f2c 7 (by decide)]; exact hrc.2.1, by rw [e3, f2c 8 (by decide)]; exact hrc.2.2.1, by rw [e3, f2c 9 (by decide)]; exact hrc.2.2.2⟩
  have hfan : fcL W H (m.2.1 1288) (m.2.1 1286) m.1 r nd fc = fanG (decide (g 7 (mtN g nd) = 1)) nd fc (pcr (g 0 34).toInt64 (w8n W) (w8n H) (l.getD 0 oF)) ((l.map (pcr (g 0 34).toInt64 (w8n W) (w8n H))).drop 1) := by
    unfold fcL plyP ply
    rw [hmsE, hmtE, h3 7 (by decide), g0, hl0, hl5]
    cases l with
    | nil => rfl
    | cons a t => rfl
  rw [hfan]
  refine zok_b (show zok (L_MPainter_goOverFace_218 (sh0 W H) zfuel 1285 (nI nd) (nI fc) 1 m3) _ from e_g218 (W := W) (H := H) (fcn := fc) (l := l) (f := (g 0 34).toInt64) (w8 := w8n W) (h8 := w8n H) hr hW hX hnd hmd hlen.1 (fun c hc => (hCPz c hc).1) hW48 hH48 hri hler htob hbo 19 1 zfuel n m3 S (by omega) (Nat.le_refl _) (zf_lt (by decide)) (by decide) hI3 hrc3 hn (by rw [e3, f2c 0 (by decide)]; exact hcnt) (by rw [e3]; exact u6) hS3) (fun q hq => ?_)
  obtain ⟨b1, b2, b3⟩ := hq
  exact zok_s ⟨⟨b1.1.trans hmid.1, fun k k1 k2 => (b1.2.1 k k1 k2).trans (hmid.2.1 k k1 k2), fun c c1 c2 => (b1.2.2.1 c c1).trans (hmid.2.2.1 c c1 c2), fun k k1 k2 k3 => (b1.2.2.2 k k1 k2).trans (hmid.2.2.2 k k1 k2 k3)⟩, b2, b3⟩
end ZGF
