/-! PURE: the class's cuts, one after the other -/
section ZCF
variable {W H : Nat}
/-- the sight holds the corners l in the array A -/
def CS (A B : Nat) (l : List (Nat → Int64)) (m : zMem) : Prop := cAB A B ∧ m.2.2 1121 2 = some A ∧ m.2.2 1121 14 = some B ∧ m.1 1121 3 = nI l.length ∧ arr (m64 (m.1 A)) l
def CF (m m' : zMem) : Prop := m'.2.1 = m.2.1 ∧ (∀ k j, ¬ (k = 1121 ∧ (j = 2 ∨ j = 14)) → m'.2.2 k j = m.2.2 k j) ∧ (∀ a, a ≠ 1121 → a ≠ 1124 → a ≠ 1177 → m'.1 a = m.1 a) ∧ ∀ c, c ≠ 3 → m'.1 1121 c = m.1 1121 c
theorem CF_r {m : zMem} : CF m m := ⟨rfl, fun _ _ _ => rfl, fun _ _ _ _ => rfl, fun _ _ => rfl⟩
theorem CF_t {m m' m'' : zMem} (h : CF m m') (k : CF m' m'') : CF m m'' := ⟨k.1.trans h.1, fun a j hj => (k.2.1 a j hj).trans (h.2.1 a j hj), fun a h1 h2 h3 => (k.2.2.1 a h1 h2 h3).trans (h.2.2.1 a h1 h2 h3), fun c hc => (k.2.2.2 c hc).trans (h.2.2.2 c hc)⟩
theorem CF_R {m m' : zMem} (h : CF m m') (hR : RF m.2.2) : RF m'.2.2 := fun k j hk => (h.2.1 k j (fun q => hk (by unfold rMut; omega))).trans (hR k j hk)
theorem cAB_s {A B : Nat} (h : cAB A B) : cAB B A := by
  rcases h with ⟨e, f⟩ | ⟨e, f⟩
  · exact .inr ⟨f, e⟩
  · exact .inl ⟨f, e⟩
theorem e_cutS {l : List (Nat → Int64)} {w h f : Int64} {s A B j : Nat} {m : zMem} (hs : gS s) (hR : RF m.2.2) (h7 : m.2.2 1121 7 = some s) (hC : CS A B l m) (hj : j < 5) (hw : (m.1 1121 5).toInt64 = w) (hh : (m.1 1121 6).toInt64 = h) (hf : (m.1 (s + 23) 6).toInt64 = f) (hwf : whf w h f) (h1 : 0 < l.length) (hn : l.length ≤ 13) (hCB : ∀ p, p ∈ l → CB w.toInt h.toInt f.toInt j p) : zok (F_XSight_cutBySide (sh0 W H) m 1121 (nI j)) (fun m' => CF m m' ∧ CS B A (cutW (bes w h f j) l) m') := by
  obtain ⟨hAB, hA, hB, hl, ha⟩ := hC
  have nB1 : 1121 ≠ B := by rcases hAB with ⟨e, f⟩ | ⟨e, f⟩ <;> omega
  have hlen := cutW_len (S := bes w h f j) (l := l)
  have hsd := e_side (W := W) (H := H) (m := m) (c := 0) hs hR h7 hAB hA hj (by decide)
  rw [hw, hh, hf, bes_c (p := fun k => (m.1 A (6 * 0 + k)).toInt64) (q := l.getD 0 oF) (fun k hk => ha 0 h1 k (by omega))] at hsd
  have hcw : ([] : List (Nat → Int64)) ++ cutG (bes w h f j) (l.getD 0 oF) (l.drop 0) = cutW (bes w h f j) l := by
    cases l with
    | nil => rfl
    | cons p t => rfl
  have h16 := e_cs16 (W := W) (H := H) (m0 := m) hs hR h7 hAB hA hB hj hw hh hf hwf hn hl ha hCB l.length 0 zfuel m [] (bes w h f j (l.getD 0 oF)) (by omega) (zf_lt (by omega)) rfl (fun _ _ => rfl) (fun c hc => absurd hc (Nat.not_lt_zero _)) (by rw [hcw]; omega) (fun _ => rfl)
  rw [hcw] at h16
  unfold F_XSight_cutBySide
  rw [zoS_h sh_1121, show (0 : Int32) = nI 0 from rfl, zob_h hsd]
  dsimp only
  refine zok_b (show zok (L_XSight_cutBySide_16 (sh0 W H) zfuel 1121 (nI j) (bes w h f j (l.getD 0 oF)) (bes w h f j (l.getD 0 oF)) (nI 0) (nI 0) m) _ from h16) (fun z hz => ?_)
  obtain ⟨z0, z1, z2, z3, z4, z5, m2⟩ := z
  obtain ⟨y0, y1, y2, y3, y4⟩ := hz
  simp only at y0 y1 y2 y3 y4
  subst y0 y1
  dsimp only
  rw [zoS_h sh_1121, zob_h (show m2.2.2 1121 14 = some B by rw [y2]; exact hB), zoS_h sh_1121, zob_h (show m2.2.2 1121 2 = some A by rw [y2]; exact hA), zoS_h sh_1121, zoL_e, zoS_h sh_1121, zoL_e, zoS_h sh_1121, zoL_e]
  have hm1 : ∀ a, (mR (mR m2 1121 14 (some A)) 1121 2 (some B)).1 a = m2.1 a := fun a => rfl
  refine zok_s ⟨⟨?_, fun k i hk => ?_, fun a a1 a2 a3 => ?_, fun c hc => ?_⟩, cAB_s hAB, ?_, ?_, ?_, ?_⟩
  · show m2.2.1 = _
    rw [y2]
  · show (mR (mR m2 1121 14 (some A)) 1121 2 (some B)).2.2 k i = _
    rw [mR_ne (by omega), mR_ne (by omega), y2]
  · rw [mI_o a1, hm1, y3 a (by rcases hAB with ⟨e, f⟩ | ⟨e, f⟩ <;> omega)]
  · rw [mI_v, if_pos rfl, if_neg hc, hm1, y3 1121 nB1]
  · show (mR (mR m2 1121 14 (some A)) 1121 2 (some B)).2.2 1121 2 = _
    exact mR_e
  · show (mR (mR m2 1121 14 (some A)) 1121 2 (some B)).2.2 1121 14 = _
    rw [mR_ne (by omega)]
    exact mR_e
  · rw [mI_v, if_pos rfl, if_pos rfl]
  · rw [mI_o (Ne.symm nB1), hm1]
    exact y4
theorem cutN_0 {w h f : Int64} {l : List (Nat → Int64)} {j : Nat} (h0 : cutN w h f l j = []) : ∀ d, cutN w h f l (j + d) = [] := by
  intro d
  induction d with
  | zero => exact h0
  | succ d ih =>
    show cutW (bes w h f (j + d)) (cutN w h f l (j + d)) = []
    rw [ih]
    rfl
theorem e_cf114 {l : List (Nat → Int64)} {w h f : Int64} {s : Nat} {m0 : zMem} (hs : gS s) (hR0 : RF m0.2.2) (h70 : m0.2.2 1121 7 = some s) (hw : (m0.1 1121 5).toInt64 = w) (hh : (m0.1 1121 6).toInt64 = h) (hf : (m0.1 (s + 23) 6).toInt64 = f) (hwf : whf w h f) (hl : l.length = 3) (hCB : ∀ p, p ∈ l → CB w.toInt h.toInt f.toInt 0 p) : ∀ (d j fuel : Nat) (m : zMem), j + d = 5 → d < fuel → CF m0 m → (∃ A B, CS A B (cutN w h f l j) m) → zok (L_XSight_cutFace_114 (sh0 W H) fuel 1121 (nI j) m) (fun z => z.1 = 1121 ∧ CF m0 z.2.2 ∧ ∃ A B, CS A B (cutN w h f l 5) z.2.2) := by
  have lt := s_lt hs
  intro d
  induction d with
  | zero =>
    intro j fuel m hj hf' h1 h2
    obtain ⟨fu, rfl⟩ : ∃ fu, fuel = fu + 1 := ⟨fuel - 1, by omega⟩
    obtain rfl : j = 5 := by omega
    rw [L_XSight_cutFace_114, if_pos (by decide)]
    exact zok_s ⟨rfl, h1, h2⟩
  | succ d ih =>
    intro j fuel m hj hf' h1 h2
    obtain ⟨fu, rfl⟩ : ∃ fu, fuel = fu + 1 := ⟨fuel - 1, by omega⟩
    obtain ⟨A, B, hC⟩ := h2
    have l1 := cutN_19 (w := w) (h := h) (f := f) hl (j := j) (by omega)
    have l2 := cutN_03 (w := w) (h := h) (f := f) hl j
    rw [L_XSight_cutFace_114, if_neg (by rw [show (5 : Int32) = nI 5 from rfl, nI_leD (by omega) (by omega)]; omega), zoS_h sh_1121, hC.2.2.2.1]
    by_cases e : (cutN w h f l j).length < 3
    · have e0 : cutN w h f l j = [] := List.length_eq_zero_iff.mp (by omega)
      have e5 : cutN w h f l 5 = [] := by
        have := cutN_0 e0 (d + 1)
        rw [hj] at this
        exact this
      rw [if_pos (by rw [show (3 : Int32) = nI 3 from rfl, i32_lt, nI_toInt (by omega), nI_toInt (by omega)]; omega)]
      rw [e0] at hC
      exact zok_s ⟨rfl, h1, A, B, by rw [e5]; exact hC⟩
    · rw [if_neg (by rw [show (3 : Int32) = nI 3 from rfl, i32_lt, nI_toInt (by omega), nI_toInt (by omega)]; omega), zoS_h sh_1121]
      refine zok_b (e_cutS (W := W) (H := H) (m := m) hs (CF_R h1 hR0) (by rw [h1.2.1 1121 7 (by omega)]; exact h70) hC (by omega) (by rw [h1.2.2.2 5 (by decide)]; exact hw) (by rw [h1.2.2.2 6 (by decide)]; exact hh) (by rw [h1.2.2.1 (s + 23) (by omega) (by omega) (by omega)]; exact hf) hwf (by omega) (l1.2 (by omega)) (cutN_B hwf hCB j (by omega))) (fun z hz => ?_)
      rw [nI_p1]
      exact ih (j + 1) fu z (by omega) (by omega) (CF_t h1 hz.1) ⟨B, A, hz.2⟩
/-- a corner of point x of the class's mesh ms, from the points -/
def cnC (f : Nat → Nat → Int32) (ms x : Nat) : Nat → Int64 := fun k => if k < 3 then (f 1176 (4 * x + k)).toInt64 else if k = 3 then (f (ms + 3) (2 * x)).toInt64 else if k = 4 then (f (ms + 3) (2 * x + 1)).toInt64 else (f 1176 (4 * x + 3)).toInt64
theorem nI_p4 (t : Nat) : nI t + 4 = nI (t + 4) := (Int32.ofNat_add t 4).symm
theorem nI_p5 (t : Nat) : nI t + 5 = nI (t + 5) := (Int32.ofNat_add t 5).symm
theorem nI_p6 (t : Nat) : nI t + 6 = nI (t + 6) := (Int32.ofNat_add t 6).symm
set_option maxHeartbeats 2000000 in
theorem e_cf2 {m : zMem} {s i A B fc k x fu : Nat} (hs : gS s) (hi : i < 16) (hR : RF m.2.2) (hAB : cAB A B) (hA : m.2.2 1121 2 = some A) (hk : k < 3) (hfc : fc < 128) (hfn : m.1 1121 1 = nI fc) (hx : m.1 (msA s i + 4) (3 * fc + k) = nI x) (hx8 : x < 128) : ∃ m', L_XSight_cutFace_2 (sh0 W H) (fu + 1) 1121 (msA s i) (nI k) m = L_XSight_cutFace_2 (sh0 W H) fu 1121 (msA s i) (nI (k + 1)) m' ∧ pshC A k (cnC m.1 (msA s i) x) m m' := by
  have sA := cAB_A (W := W) (H := H) hAB
  have nA : A ≠ 1176 ∧ 1121 < A := by rcases hAB with ⟨e, f⟩ | ⟨e, f⟩ <;> omega
  have lm : msA s i + 4 < 1121 := by unfold msA; rcases hs with e | e | e <;> omega
  have k3 : (3 : Int32).toNatClampNeg = 3 := rfl
  refine ⟨mI (mI (mI (mC m 1176 A (4 * x) (6 * k) 3) A (6 * k + 3) (m.1 (msA s i + 3) (2 * x))) A (6 * k + 4) (m.1 (msA s i + 3) (2 * x + 1))) A (6 * k + 5) (m.1 1176 (4 * x + 3)), ?_, ?_⟩
  · have v1 : (mC m 1176 A (4 * x) (6 * k) 3).1 (msA s i + 3) = m.1 (msA s i + 3) := by rw [mC_sI, sI_ne (by omega)]
    have v2 : (mC m 1176 A (4 * x) (6 * k) 3).1 1176 = m.1 1176 := by rw [mC_sI, sI_ne (by omega)]
    have r1 : RF (mC m 1176 A (4 * x) (6 * k) 3).2.2 := hR
    have a1 : (mC m 1176 A (4 * x) (6 * k) 3).2.2 1121 2 = some A := hA
    conv => lhs; unfold L_XSight_cutFace_2
    rw [if_neg (by rw [show (3 : Int32) = nI 3 from rfl, nI_leD (by omega) (by omega)]; omega), zoS_h (sh_msA hs hi), zob_h (rf_msA6 hR hs hi), zoS_h sh_1121, hfn, nI_3mul, nI_pp, zoL_e, zoS_h (sh_msA4 hs hi), nI_ix (by omega) (by decide), nI_cl (n := 3 * fc + k) (by omega), hx, zoL_e, zoS_h sh_1121, zob_h (rf_1121_13 hR), zoS_h sh_1121, zob_h hA, nI_6mul, nI_4mul, zoL_e, zoL_e, zoS_h sh_1176, zoS_h sA, if_pos (by rw [nI_cl (n := 4 * x) (by omega), nI_cl (n := 6 * k) (by omega)]; exact ⟨nI_pos (by omega), nI_pos (by omega), by decide, by show 4 * x + 3 ≤ 512; omega, by show 6 * k + 3 ≤ 144; omega⟩), nI_cl (n := 4 * x) (by omega), nI_cl (n := 6 * k) (by omega), k3, zoL_e]
    generalize hm1 : mC m 1176 A (4 * x) (6 * k) 3 = m1 at v1 v2 r1 a1 ⊢
    rw [zoS_h sh_1121, zob_h a1, zoS_h (sh_msA hs hi), zob_h (rf_msA5 r1 hs hi), nI_2mul, zoL_e, zoS_h (sh_msA3 hs hi), nI_ix (by omega) (by decide), nI_cl (n := 2 * x) (by omega), v1, zoL_e, nI_p3, zoL_e, zoS_h sA, nI_ix (by omega) (by decide), nI_cl (n := 6 * k + 3) (by omega), zoL_e]
    generalize hm2 : mI m1 A (6 * k + 3) (m.1 (msA s i + 3) (2 * x)) = m2
    have v3 : m2.1 (msA s i + 3) = m.1 (msA s i + 3) := by rw [← hm2, mI_o (by omega), v1]
    have v4 : m2.1 1176 = m.1 1176 := by rw [← hm2, mI_o (by omega), v2]
    have r2 : RF m2.2.2 := by rw [← hm2]; exact r1
    have a2 : m2.2.2 1121 2 = some A := by rw [← hm2]; exact a1
    rw [zoS_h sh_1121, zob_h a2, zoS_h (sh_msA hs hi), zob_h (rf_msA5 r2 hs hi), nI_p1, zoL_e, zoS_h (sh_msA3 hs hi), nI_ix (by omega) (by decide), nI_cl (n := 2 * x + 1) (by omega), v3, zoL_e, nI_p4, zoL_e, zoS_h sA, nI_ix (by omega) (by decide), nI_cl (n := 6 * k + 4) (by omega), zoL_e]
    generalize hm3 : mI m2 A (6 * k + 4) (m.1 (msA s i + 3) (2 * x + 1)) = m3
    have v5 : m3.1 1176 = m.1 1176 := by rw [← hm3, mI_o (by omega), v4]
    have r3 : RF m3.2.2 := by rw [← hm3]; exact r2
    have a3 : m3.2.2 1121 2 = some A := by rw [← hm3]; exact a2
    rw [zoS_h sh_1121, zob_h a3, zoS_h sh_1121, zob_h (rf_1121_13 r3), nI_p3, zoL_e, zoS_h sh_1176, nI_ix (by omega) (by decide), nI_cl (n := 4 * x + 3) (by omega), v5, zoL_e, nI_p5, zoL_e, zoS_h sA, nI_ix (by omega) (by decide), nI_cl (n := 6 * k + 5) (by omega), zoL_e, nI_p1]
  · refine ⟨rfl, fun a ha => by rw [mI_o ha, mI_o ha, mI_o ha, mC_sI, sI_ne ha], fun c hc => ?_, fun q hq => ?_⟩
    · rw [mI_v, if_pos rfl, mI_v, if_pos rfl, mI_v, if_pos rfl, mC_sI, sI_at]
      unfold cnC va_cpy
      rcases (show c = 0 ∨ c = 1 ∨ c = 2 ∨ c = 3 ∨ c = 4 ∨ c = 5 by omega) with rfl | rfl | rfl | rfl | rfl | rfl
      · rw [if_neg (by omega), if_neg (by omega), if_neg (by omega), if_pos (by omega), if_pos (by decide), show 4 * x + (6 * k + 0 - 6 * k) = 4 * x + 0 by omega]
      · rw [if_neg (by omega), if_neg (by omega), if_neg (by omega), if_pos (by omega), if_pos (by decide), show 4 * x + (6 * k + 1 - 6 * k) = 4 * x + 1 by omega]
      · rw [if_neg (by omega), if_neg (by omega), if_neg (by omega), if_pos (by omega), if_pos (by decide), show 4 * x + (6 * k + 2 - 6 * k) = 4 * x + 2 by omega]
      · rw [if_neg (by omega), if_neg (by omega), if_pos rfl, if_neg (by decide), if_pos rfl]
      · rw [if_neg (by omega), if_pos rfl, if_neg (by decide), if_neg (by decide), if_pos rfl]
      · rw [if_pos rfl, if_neg (by decide), if_neg (by decide), if_neg (by decide)]
    · rw [mI_v, if_pos rfl, if_neg (by omega), mI_v, if_pos rfl, if_neg (by omega), mI_v, if_pos rfl, if_neg (by omega), mC_sI, sI_at]
      unfold va_cpy
      rw [if_neg (by omega)]
end ZCF
