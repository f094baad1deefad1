/-! PURE: a face on the picture: the reference -/
def prX (f w8 : Int64) (p : Nat → Int64) : Int64 := zx_fdiv ((16 * f) * p 0) (p 2) + w8
def prY (f h8 : Int64) (p : Nat → Int64) : Int64 := zx_fdiv ((16 * f) * p 1) (p 2) + h8
def prR (p : Nat → Int64) : Int64 := zx_fdiv 4294967296 (p 2)
/-- the face's three points -/
def fcP (f : Nat → Nat → Int32) (r ms fc k : Nat) : Nat := (f (r + 14) (384 * ms + 3 * fc + k)).toNatClampNeg
def fc3 (M Wd : Nat → Int64) (f : Nat → Nat → Int32) (r ms fc : Nat) : List (Nat → Int64) := [crn M Wd f r ms (fcP f r ms fc 0), crn M Wd f r ms (fcP f r ms fc 1), crn M Wd f r ms (fcP f r ms fc 2)]
def ply (w h : Int64) (M Wd : Nat → Int64) (f : Nat → Nat → Int32) (r ms fc : Nat) : List (Nat → Int64) := cutN w h (f r 34).toInt64 (fc3 M Wd f r ms fc) 5
theorem mul24 {x y : Int64} (hx : -16777216 ≤ x.toInt ∧ x.toInt ≤ 16777216) (hy : -65536 ≤ y.toInt ∧ y.toInt ≤ 65536) : -16777216 ≤ (sp_MPainter_mul x y).toInt ∧ (sp_MPainter_mul x y).toInt ≤ 16777216 := by
  have b := mul_b hx hy (by decide) (by decide)
  rw [mul_toInt, i64_mul (by omega) (by omega)]
  omega
theorem lgL_r {d amb : Int64} (hd : -100000000 ≤ d.toInt ∧ d.toInt ≤ 100000000) (ha : 0 ≤ amb.toInt ∧ amb.toInt ≤ 65536) : 0 ≤ (lgL d amb).toInt ∧ (lgL d amb).toInt ≤ 65536 := by
  unfold lgL
  have e65 : (65536 : Int64).toInt = 65536 := rfl
  have e0 : (0 : Int64).toInt = 0 := rfl
  have hx : ∀ y : Int64, 0 ≤ y.toInt → y.toInt ≤ 100000000 → 0 ≤ (if 0 ≤ lg_cmp (amb + y) 65536 then (65536 : Int64) else amb + y).toInt ∧ (if 0 ≤ lg_cmp (amb + y) 65536 then (65536 : Int64) else amb + y).toInt ≤ 65536 := fun y y1 y2 => by
    have ea : (amb + y).toInt = amb.toInt + y.toInt := i64_add (by omega) (by omega)
    by_cases e : 0 ≤ lg_cmp (amb + y) 65536
    · rw [if_pos e, e65]; omega
    · rw [if_neg e]
      have : amb + y < 65536 := Classical.byContradiction fun q => e (lgc_ge.mpr q)
      rw [i64_lt, e65] at this
      omega
  by_cases e : lg_cmp d 0 ≤ 0
  · rw [if_pos e]
    exact hx 0 (by rw [e0]; decide) (by rw [e0]; decide)
  · rw [if_neg e]
    have : (0 : Int64) < d := Classical.byContradiction fun q => e (lgc_le.mpr q)
    rw [i64_lt, e0] at this
    exact hx d (by omega) (by omega)
theorem crn_B {M Wd : Nat → Int64} {f : Nat → Nat → Int32} {r ms p np : Nat} {w h F : Int} (hl : Wlmp (fun a => f (r + a))) (hm : ∀ j, j < 2 * np → -131072 ≤ (f (r + 13) (256 * ms + j)).toInt ∧ (f (r + 13) (256 * ms + j)).toInt ≤ 131072) (hp : p < np) : CB w h F 0 (crn M Wd f r ms p) := by
  have hap : ∀ k, k < 3 → -16777216 ≤ (crn M Wd f r ms p k).toInt ∧ (crn M Wd f r ms p k).toInt ≤ 16777216 := fun k hk => by
    unfold crn apP
    rw [if_pos hk]
    exact bound_rng _
  have h3 : crn M Wd f r ms p 3 = (f (r + 13) (256 * ms + 2 * p)).toInt64 := by unfold crn; rw [if_neg (by decide), if_pos rfl]
  have h4 : crn M Wd f r ms p 4 = (f (r + 13) (256 * ms + 2 * p + 1)).toInt64 := by unfold crn; rw [if_neg (by decide), if_neg (by decide), if_pos rfl]
  have h5 : crn M Wd f r ms p 5 = lgL (lgD Wd f r (384 * ms + 3 * p)) (f r 35).toInt64 := by unfold crn; rw [if_neg (by decide), if_neg (by decide), if_neg (by decide)]
  have q3 := hm (2 * p) (by omega)
  have q4 := hm (2 * p + 1) (by omega)
  refine ⟨hap 0 (by decide), hap 1 (by decide), hap 2 (by decide), by rw [h3, Int32.toInt_toInt64]; exact q3, by rw [h4, Int32.toInt_toInt64, Nat.add_assoc]; exact q4, ?_, fun k => absurd k (by decide), fun k => absurd k (by decide), fun k => absurd k (by decide), fun k => absurd k (by decide), fun k => absurd k (by decide)⟩
  rw [h5]
  refine lgL_r ?_ ?_
  · unfold lgD
    have m0 := fun i => mul24 (x := apD Wd i (f (r + 12) (384 * ms + 3 * p)).toInt64 (f (r + 12) (384 * ms + 3 * p + 1)).toInt64 (f (r + 12) (384 * ms + 3 * p + 2)).toInt64) (y := (f (r + 29) i).toInt64) (by unfold apD; exact bound_rng _)
    have a0 := m0 0 (by rw [Int32.toInt_toInt64]; exact hl.1 0 (by decide))
    have a1 := m0 1 (by rw [Int32.toInt_toInt64]; exact hl.1 1 (by decide))
    have a2 := m0 2 (by rw [Int32.toInt_toInt64]; exact hl.1 2 (by decide))
    have s1 := i64_add (a := sp_MPainter_mul (apD Wd 0 (f (r + 12) (384 * ms + 3 * p)).toInt64 (f (r + 12) (384 * ms + 3 * p + 1)).toInt64 (f (r + 12) (384 * ms + 3 * p + 2)).toInt64) (f (r + 29) 0).toInt64) (b := sp_MPainter_mul (apD Wd 1 (f (r + 12) (384 * ms + 3 * p)).toInt64 (f (r + 12) (384 * ms + 3 * p + 1)).toInt64 (f (r + 12) (384 * ms + 3 * p + 2)).toInt64) (f (r + 29) 1).toInt64) (by omega) (by omega)
    rw [i64_add (by rw [s1]; omega) (by rw [s1]; omega), s1]
    omega
  · rw [Int32.toInt_toInt64]
    exact hl.2
theorem fc3_B {M Wd : Nat → Int64} {f : Nat → Nat → Int32} {r ms fc : Nat} {w h F : Int} (hW : Wsc (fun a => f (r + a))) (hms : ms < cn (fun a => f (r + a)) 2) (hfc : fc < (f (r + 10) ms).toNatClampNeg) : (∀ k, k < 3 → f (r + 14) (384 * ms + 3 * fc + k) = nI (fcP f r ms fc k) ∧ fcP f r ms fc k < 128) ∧ ∀ p, p ∈ fc3 M Wd f r ms fc → CB w h F 0 p := by
  obtain ⟨_, _, np, nf, n1, n2, n3, n4, n5, n6, n7, n8, n9⟩ := hW.2.2.1 ms hms
  dsimp only at n5 n6 n7 n8 n9
  rw [n6, nI_cl (by omega)] at hfc
  have hk : ∀ k, k < 3 → f (r + 14) (384 * ms + 3 * fc + k) = nI (fcP f r ms fc k) ∧ fcP f r ms fc k < np := fun k hk => by
    have q := n9 (3 * fc + k) (by omega)
    rw [← Nat.add_assoc] at q
    obtain ⟨c1, c2⟩ := i32_cl q.1
    exact ⟨c1, by show (f (r + 14) (384 * ms + 3 * fc + k)).toNatClampNeg < np; omega⟩
  refine ⟨fun k h3 => ⟨(hk k h3).1, by have := (hk k h3).2; omega⟩, fun p hp => ?_⟩
  have hB : ∀ k, k < 3 → CB w h F 0 (crn M Wd f r ms (fcP f r ms fc k)) := fun k h3 => crn_B hW.2.2.2.2.2 n8 (hk k h3).2
  unfold fc3 at hp
  simp at hp
  rcases hp with rfl | rfl | rfl
  · exact hB 0 (by decide)
  · exact hB 1 (by decide)
  · exact hB 2 (by decide)
section ZFC
variable {W H : Nat}
set_option maxHeartbeats 4000000 in
theorem e_gf13 {m : zMem} {r ms fc : Nat} {x : Int32} (hr : gM r) (hR : RF m.2.2) (hs : m.2.2 1285 5 = some r) (hms : ms < 16) (hfc : fc < 128) (hk : ∀ k, k < 3 → m.1 (r + 14) (384 * ms + 3 * fc + k) = nI (fcP m.1 r ms fc k) ∧ fcP m.1 r ms fc k < 128) : zok (L_MPainter_goOverFace_13 (sh0 W H) zfuel 1285 x (nI fc) (nI ms) 0 m) (fun q => q.1 = 1285 ∧ q.2.1 = x ∧ q.2.2.1 = nI fc ∧ frm [] [1295] m q.2.2.2.2.2 ∧ arr (q.2.2.2.2.2.2.1 1295) (fc3 (m.2.1 1288) (m.2.1 1286) m.1 r ms fc)) := by
  have ix : ∀ k, 384 * nI ms + 3 * nI fc + nI k = nI (384 * ms + 3 * fc + k) := fun k => by
    rw [nI_384]
    exact (Int32.ofNat_add _ _).symm
  have step : ∀ (d i fuel : Nat) (m' : zMem), i + d = 3 → d < fuel → frm [] [1295] m m' → (∀ c, c < i → ∀ k, k < 6 → m'.2.1 1295 (6 * c + k) = crn (m.2.1 1288) (m.2.1 1286) m.1 r ms (fcP m.1 r ms fc c) k) → zok (L_MPainter_goOverFace_13 (sh0 W H) fuel 1285 x (nI fc) (nI ms) (nI i) m') (fun q => q.1 = 1285 ∧ q.2.1 = x ∧ q.2.2.1 = nI fc ∧ frm [] [1295] m q.2.2.2.2.2 ∧ ∀ c, c < 3 → ∀ k, k < 6 → q.2.2.2.2.2.2.1 1295 (6 * c + k) = crn (m.2.1 1288) (m.2.1 1286) m.1 r ms (fcP m.1 r ms fc c) k) := by
    intro d
    induction d with
    | zero =>
      intro i fuel m' hi hf h1 h2
      obtain ⟨fu, rfl⟩ : ∃ fu, fuel = fu + 1 := ⟨fuel - 1, by omega⟩
      rw [L_MPainter_goOverFace_13, if_pos (by rw [show (3 : Int32) = nI 3 from rfl, nI_leD (by omega) (by omega)]; omega)]
      exact zok_s ⟨rfl, rfl, rfl, h1, fun c hc k hk => h2 c (by omega) k hk⟩
    | succ d ih =>
      intro i fuel m' hi hf h1 h2
      obtain ⟨fu, rfl⟩ : ∃ fu, fuel = fu + 1 := ⟨fuel - 1, by omega⟩
      have hR' : RF m'.2.2 := by rw [h1.1]; exact hR
      have hs' : m'.2.2 1285 5 = some r := by rw [h1.1]; exact hs
      have e1 : m'.1 = m.1 := funext fun a => h1.2.1 a (by simp)
      rw [L_MPainter_goOverFace_13, if_neg (by rw [show (3 : Int32) = nI 3 from rfl, nI_leD (by omega) (by omega)]; omega), zoS_h sh_1285, zob_h hs', zoS_h (sh_m0 hr), zob_h (rf_m18 hR' hr), zoL_e, ix, zoS_h (sh_m14 hr), nI_ix (by omega) (by decide), nI_cl (by omega), zoS_h sh_1285, zoL_e, e1, (hk i (by omega)).1]
      refine zok_b (e_toCorner (W := W) (H := H) (m := m') (c := i) hr hR' hs' hms (by omega) (hk i (by omega)).2) (fun m2 h => ?_)
      obtain ⟨a1, a2, a3⟩ := h
      rw [nI_p1]
      refine ih (i + 1) fu m2 (by omega) (by omega) ⟨a1.1.trans h1.1, fun k hk => (a1.2.1 k hk).trans (h1.2.1 k hk), fun k hk => (a1.2.2 k hk).trans (h1.2.2 k hk)⟩ (fun c hc k hk6 => ?_)
      by_cases e : c = i
      · rw [e, a2 k hk6, e1, h1.2.2 1288 (by simp), h1.2.2 1286 (by simp)]
      · rw [a3 _ (by omega)]
        exact h2 c (by omega) k hk6
  refine zok_w (step 3 0 zfuel m (by decide) (zf_lt (by decide)) frm_r (fun c hc => by omega)) (fun q hq => ⟨hq.1, hq.2.1, hq.2.2.1, hq.2.2.2.1, fun c hc k hk6 => ?_⟩)
  have hc : c < 3 := hc
  rw [hq.2.2.2.2 c hc k hk6]
  rcases lt3 hc with rfl | rfl | rfl <;> rfl
theorem e_gf60 {r nd fc : Nat} {l : List (Nat → Int64)} {m0 : zMem} {w h f : Int64} {x : Int32} (hr : gM r) (hR0 : RF m0.2.2) (hs0 : m0.2.2 1285 5 = some r) (hw : (m0.1 1285 1).toInt64 = w) (hh : (m0.1 1285 2).toInt64 = h) (hf : (m0.1 r 34).toInt64 = f) (hwf : whf w h f) (hl : l.length = 3) (hB : ∀ p, p ∈ l → CB w.toInt h.toInt f.toInt 0 p) : ∀ (d j fuel : Nat) (m : zMem), j + d = 5 → d < fuel → frm [1285] [1295, 1296, 1297] m0 m → (∀ c, c ≠ 26 → m.1 1285 c = m0.1 1285 c) → m.1 1285 26 = nI (cutN w h f l j).length → arr (m.2.1 1295) (cutN w h f l j) → zok (L_MPainter_goOverFace_60 (sh0 W H) fuel 1285 x (nI fc) (nI j) m) (fun q => q.1 = 1285 ∧ q.2.1 = x ∧ q.2.2.1 = nI fc ∧ frm [1285] [1295, 1296, 1297] m0 q.2.2.2.2 ∧ (∀ c, c ≠ 26 → q.2.2.2.2.1 1285 c = m0.1 1285 c) ∧ q.2.2.2.2.1 1285 26 = nI (cutN w h f l 5).length ∧ arr (q.2.2.2.2.2.1 1295) (cutN w h f l 5)) := by
  intro d
  induction d with
  | zero =>
    intro j fuel m hj hfu h1 h2 h3 h4
    obtain ⟨fu, rfl⟩ : ∃ fu, fuel = fu + 1 := ⟨fuel - 1, by omega⟩
    rw [L_MPainter_goOverFace_60, if_pos (by rw [show (5 : Int32) = nI 5 from rfl, nI_leD (by omega) (by omega)]; omega)]
    obtain rfl : j = 5 := by omega
    exact zok_s ⟨rfl, rfl, rfl, h1, h2, h3, h4⟩
  | succ d ih =>
    intro j fuel m hj hfu h1 h2 h3 h4
    obtain ⟨fu, rfl⟩ : ∃ fu, fuel = fu + 1 := ⟨fuel - 1, by omega⟩
    have hR : RF m.2.2 := by rw [h1.1]; exact hR0
    have hs : m.2.2 1285 5 = some r := by rw [h1.1]; exact hs0
    have er : m.1 r = m0.1 r := h1.2.1 r (by simp; rcases hr with e | e | e <;> omega)
    rw [L_MPainter_goOverFace_60, if_neg (by rw [show (5 : Int32) = nI 5 from rfl, nI_leD (by omega) (by omega)]; omega), zoS_h sh_1285]
    refine zok_b (e_cutBy (W := W) (H := H) (m := m) (l := cutN w h f l j) hr hR hs (show j < 5 by omega) (by rw [h2 1 (by decide)]; exact hw) (by rw [h2 2 (by decide)]; exact hh) (by rw [er]; exact hf) hwf ((cutN_19 hl (show j ≤ 5 by omega)).2 (by omega)) h3 h4 (cutN_B hwf hB j (by omega))) (fun m2 hm => ?_)
    obtain ⟨a1, a2, a3, a4⟩ := hm
    rw [nI_p1]
    exact ih (j + 1) fu m2 (by omega) (by omega) ⟨a1.1.trans h1.1, fun k hk => (a1.2.1 k hk).trans (h1.2.1 k hk), fun k hk => (a1.2.2 k hk).trans (h1.2.2 k hk)⟩ (fun c hc => (a2 c hc).trans (h2 c hc)) a3 a4
end ZFC
