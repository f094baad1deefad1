/-! PURE: the class cuts a face and lays it on the picture -/
section ZZF
variable {W H : Nat}
/-- the sight holds the polygon l, on the picture -/
def PJ (f w8 h8 : Int64) (l : List (Nat → Int64)) (m : zMem) : Prop := ∃ A B, cAB A B ∧ m.2.2 1121 2 = some A ∧ m.2.2 1121 14 = some B ∧ m.1 1121 3 = nI l.length ∧ prC f w8 h8 l (m.1 A)
def fcC (f : Nat → Nat → Int32) (ms : Nat) (x : Nat → Nat) : List (Nat → Int64) := [cnC f ms (x 0), cnC f ms (x 1), cnC f ms (x 2)]
theorem cnC_c {f f' : Nat → Nat → Int32} {ms x : Nat} (h1 : f 1176 = f' 1176) (h2 : f (ms + 3) = f' (ms + 3)) : cnC f ms x = cnC f' ms x := by
  unfold cnC
  rw [h1, h2]
theorem e_cf3 {m : zMem} {s i A B fc : Nat} {x : Nat → Nat} (hs : gS s) (hi : i < 16) (hR : RF m.2.2) (hAB : cAB A B) (hA : m.2.2 1121 2 = some A) (hfc : fc < 128) (hfn : m.1 1121 1 = nI fc) (hx : ∀ k, k < 3 → m.1 (msA s i + 4) (3 * fc + k) = nI (x k) ∧ x k < 128) : zok (L_XSight_cutFace_2 (sh0 W H) zfuel 1121 (msA s i) 0 m) (fun z => z.1 = 1121 ∧ z.2.2.2.2 = m.2 ∧ (∀ a, a ≠ A → z.2.2.2.1 a = m.1 a) ∧ arr (m64 (z.2.2.2.1 A)) (fcC m.1 (msA s i) x)) := by
  have nA : A ≠ 1121 ∧ A ≠ 1176 ∧ 1121 < A := by rcases hAB with ⟨e, f⟩ | ⟨e, f⟩ <;> omega
  have lm : msA s i + 4 < 1121 := by unfold msA; rcases hs with e | e | e <;> omega
  obtain ⟨m1, e1, p1⟩ := e_cf2 (W := W) (H := H) (m := m) (k := 0) (x := x 0) (fu := 999999) hs hi hR hAB hA (by decide) hfc hfn (hx 0 (by decide)).1 (hx 0 (by decide)).2
  have c1 : ∀ y, cnC m1.1 (msA s i) y = cnC m.1 (msA s i) y := fun y => cnC_c (p1.2.1 _ (by omega)) (p1.2.1 _ (by omega))
  obtain ⟨m2, e2, p2⟩ := e_cf2 (W := W) (H := H) (m := m1) (k := 1) (x := x 1) (fu := 999998) hs hi (by rw [p1.1]; exact hR) hAB (by rw [p1.1]; exact hA) (by decide) hfc (by rw [p1.2.1 1121 (by omega)]; exact hfn) (by rw [p1.2.1 _ (by omega)]; exact (hx 1 (by decide)).1) (hx 1 (by decide)).2
  have c2 : ∀ y, cnC m2.1 (msA s i) y = cnC m.1 (msA s i) y := fun y => (cnC_c (p2.2.1 _ (by omega)) (p2.2.1 _ (by omega))).trans (c1 y)
  obtain ⟨m3, e3, p3⟩ := e_cf2 (W := W) (H := H) (m := m2) (k := 2) (x := x 2) (fu := 999997) hs hi (by rw [p2.1, p1.1]; exact hR) hAB (by rw [p2.1, p1.1]; exact hA) (by decide) hfc (by rw [p2.2.1 1121 (by omega), p1.2.1 1121 (by omega)]; exact hfn) (by rw [p2.2.1 _ (by omega), p1.2.1 _ (by omega)]; exact (hx 2 (by decide)).1) (hx 2 (by decide)).2
  rw [show zfuel = 999999 + 1 from nrfl rfl, show (0 : Int32) = nI 0 from rfl, e1, show 999999 = 999998 + 1 from rfl, e2, show 999998 = 999997 + 1 from rfl, e3, show 999997 = 999996 + 1 from rfl, L_XSight_cutFace_2, if_pos (by decide)]
  rw [c1] at p2
  rw [c2] at p3
  refine zok_s ⟨rfl, by rw [p3.1, p2.1, p1.1], fun a ha => by rw [p3.2.1 a ha, p2.2.1 a ha, p1.2.1 a ha], ?_⟩
  have a1 : arr (m64 (m1.1 A)) ([] ++ [cnC m.1 (msA s i) (x 0)]) := arr_pC (m := m) (fun c hc => absurd hc (Nat.not_lt_zero _)) rfl p1
  have a2 : arr (m64 (m2.1 A)) ([] ++ [cnC m.1 (msA s i) (x 0)] ++ [cnC m.1 (msA s i) (x 1)]) := arr_pC a1 rfl p2
  exact arr_pC a2 rfl p3
set_option maxHeartbeats 1000000 in
theorem e_cutFace {m : zMem} {s i fc : Nat} {x : Nat → Nat} {w h f w8 h8 : Int64} (hs : gS s) (hi : i < 16) (hR : RF m.2.2) (h7 : m.2.2 1121 7 = some s) (hAB : ∃ A B, cAB A B ∧ m.2.2 1121 2 = some A ∧ m.2.2 1121 14 = some B) (hfc : fc < 128) (hfn : m.1 1121 1 = nI fc) (hx : ∀ k, k < 3 → m.1 (msA s i + 4) (3 * fc + k) = nI (x k) ∧ x k < 128) (hw : (m.1 1121 5).toInt64 = w) (hh : (m.1 1121 6).toInt64 = h) (hf : (m.1 (s + 23) 6).toInt64 = f) (hw8 : ((8 : Int32) * m.1 1121 5).toInt64 = w8) (hh8 : ((8 : Int32) * m.1 1121 6).toInt64 = h8) (hwv : w8.toInt = 8 * w.toInt) (hhv : h8.toInt = 8 * h.toInt) (hwf : whf w h f) (hCB : ∀ p, p ∈ fcC m.1 (msA s i) x → CB w.toInt h.toInt f.toInt 0 p) : zok (F_XSight_cutFace (sh0 W H) m 1121 (msA s i)) (fun m' => CF m m' ∧ PJ f w8 h8 (cutN w h f (fcC m.1 (msA s i) x) 5) m') := by
  obtain ⟨A, B, hAB, hA, hB⟩ := hAB
  have nA : A ≠ 1121 ∧ (A = 1124 ∨ A = 1177) := by rcases hAB with ⟨e, f⟩ | ⟨e, f⟩ <;> omega
  have lt := s_lt hs
  unfold F_XSight_cutFace
  refine zok_b (e_cf3 (W := W) (H := H) hs hi hR hAB hA hfc hfn hx) (fun z hz => ?_)
  obtain ⟨z0, z1, z2, m1⟩ := z
  obtain ⟨y0, y1, y2, y3⟩ := hz
  simp only at y0 y1 y2 y3
  subst y0
  dsimp only
  rw [zoS_h sh_1121, zoL_e]
  generalize hm2 : mI m1 1121 3 3 = m2
  have g1 : m2.2 = m.2 := by rw [← hm2]; exact y1
  have g2 : ∀ a, a ≠ 1121 → a ≠ A → m2.1 a = m.1 a := fun a a1 a2 => by rw [← hm2, mI_o a1, y2 a a2]
  have g3 : ∀ c, c ≠ 3 → m2.1 1121 c = m.1 1121 c := fun c hc => by rw [← hm2, mI_v, if_pos rfl, if_neg hc, y2 1121 (by omega)]
  have g4 : m2.1 1121 3 = nI 3 := by rw [← hm2, mI_v, if_pos rfl, if_pos rfl]; rfl
  have g5 : m2.1 A = m1.1 A := by rw [← hm2, mI_o nA.1]
  have F2 : CF m m2 := ⟨by rw [g1], fun k j _ => by rw [g1], fun a a1 a2 a3 => g2 a a1 (by omega), g3⟩
  have hl3 : (fcC m.1 (msA s i) x).length = 3 := rfl
  generalize fcC m.1 (msA s i) x = l at hl3 hCB y3 ⊢
  refine zok_b (e_cf114 (W := W) (H := H) (m0 := m2) (l := l) hs (CF_R F2 hR) (by rw [g1]; exact h7) (by rw [g3 5 (by decide)]; exact hw) (by rw [g3 6 (by decide)]; exact hh) (by rw [g2 (s + 23) (by omega) (by omega)]; exact hf) hwf hl3 hCB 5 0 zfuel m2 (by decide) (zf_lt (by decide)) CF_r ⟨A, B, hAB, by rw [g1]; exact hA, by rw [g1]; exact hB, by rw [g4]; show nI 3 = nI l.length; rw [hl3], by rw [g5]; exact y3⟩) (fun z hz => ?_)
  obtain ⟨z0, z1', m3⟩ := z
  obtain ⟨x0, x1, A', B', xAB, xA, xB, xl, xa⟩ := hz
  simp only at x0 x1 xA xB xl xa
  subst x0
  have F3 := CF_t F2 x1
  have R3 : RF m3.2.2 := CF_R F3 hR
  have nA' : A' ≠ 1121 ∧ (A' = 1124 ∨ A' = 1177) := by rcases xAB with ⟨e, f⟩ | ⟨e, f⟩ <;> omega
  have h73 : m3.2.2 1121 7 = some s := by rw [F3.2.1 1121 7 (by omega)]; exact h7
  have hf3 : (m3.1 (s + 23) 6).toInt64 = f := by rw [F3.2.2.1 (s + 23) (by omega) (by omega) (by omega)]; exact hf
  have lN := (cutN_19 (w := w) (h := h) (f := f) hl3 (j := 5) (by decide)).1
  dsimp only
  unfold F_XSight_projectCorners
  rw [zoS_h sh_1121, zoS_h sh_1121, zob_h h73, zoS_h (sh_s0 hs), zob_h (rf_s6 R3 hs), zoS_h (sh_s23 hs), if_neg (by decide), show (6 : Int32).toNatClampNeg = 6 from rfl, hf3, zoL_e]
  have hp := e_pc18 (W := W) (H := H) (m0 := m3) (l := cutN w h f l 5) (w := w) (h := h) (f := f) (w8 := w8) (h8 := h8) xAB xA (by rw [F3.2.2.2 5 (by decide)]; exact hw8) (by rw [F3.2.2.2 6 (by decide)]; exact hh8) hwv hhv hwf lN xl xa (cutN_B hwf hCB 5 (by decide)) (cutN w h f l 5).length 0 zfuel m3 (by omega) (zf_lt (by omega)) rfl (fun _ _ => rfl) (fun q hq => absurd hq (Nat.not_lt_zero q)) (fun _ _ => rfl)
  obtain ⟨⟨u0, u1, u2, m4⟩, ue, ua, ub, uc⟩ := hp
  simp only at ua ub uc
  rw [show (0 : Int32) = nI (6 * 0) from rfl, zob_h ue, zob_e]
  refine zok_s ⟨CF_t F3 ⟨by show m4.2.1 = _; rw [ua], fun k j _ => by show m4.2.2 k j = _; rw [ua], fun a a1 a2 a3 => ub a (by omega), fun c hc => by show m4.1 1121 c = _; rw [ub 1121 (by omega)]⟩, A', B', xAB, by show m4.2.2 1121 2 = _; rw [ua]; exact xA, by show m4.2.2 1121 14 = _; rw [ua]; exact xB, by show m4.1 1121 3 = _; rw [ub 1121 (by omega)]; exact xl, uc⟩
end ZZF
