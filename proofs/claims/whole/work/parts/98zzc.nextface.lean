/-! PURE: the class goes to the next face -/
section ZNF
variable {W H : Nat}
theorem w64_i {n : Nat} (h : n ≤ 48) : (w64 n).toInt = n := by
  unfold w64
  rw [Int32.toInt_toInt64, nI_toInt (by omega)]
theorem w8n_i {n : Nat} (h : n ≤ 48) : (w8n n).toInt = 8 * n := by
  unfold w8n
  rw [show (8 : Int32) = nI 8 from rfl, nI_mul, Int32.toInt_toInt64, nI_toInt (by omega)]
  omega
def hAB (m : zMem) : Prop := ∃ A B, cAB A B ∧ m.2.2 1121 2 = some A ∧ m.2.2 1121 14 = some B
/-- the sight on its walk -/
def WS (W H s r : Nat) (F : Nat → Nat → Int32) (m : zMem) : Prop := RF m.2.2 ∧ Std s r F m ∧ Cls m.1 s (fun a => F (r + a)) ∧ (∀ i, i < cn (fun a => F (r + a)) 3 → ∀ q, q < 12 → m.1 (ndA s i + 2) q = (wW F r i q).toInt32) ∧ (m.1 1121 5 = nI W ∧ m.1 1121 6 = nI H) ∧ hAB m
/-- what a walk leaves -/
def NF (m m' : zMem) : Prop := (∀ k j, ¬ (k = 1121 ∧ (j = 2 ∨ j = 14)) → m'.2.2 k j = m.2.2 k j) ∧ (∀ a, a ≠ 1121 → a ≠ 1123 → a ≠ 1124 → a ≠ 1176 → a ≠ 1177 → m'.1 a = m.1 a) ∧ (∀ c, c ≠ 1 → c ≠ 3 → c ≠ 4 → c ≠ 12 → m'.1 1121 c = m.1 1121 c) ∧ ∀ a, a ≠ 1122 → m'.2.1 a = m.2.1 a
theorem NF_r {m : zMem} : NF m m := ⟨fun _ _ _ => rfl, fun _ _ _ _ _ _ => rfl, fun _ _ _ _ _ => rfl, fun _ _ => rfl⟩
theorem NF_t {m m' m'' : zMem} (h : NF m m') (k : NF m' m'') : NF m m'' := ⟨fun a j q => (k.1 a j q).trans (h.1 a j q), fun a h1 h2 h3 h4 h5 => (k.2.1 a h1 h2 h3 h4 h5).trans (h.2.1 a h1 h2 h3 h4 h5), fun c h1 h2 h3 h4 => (k.2.2.1 c h1 h2 h3 h4).trans (h.2.2.1 c h1 h2 h3 h4), fun a q => (k.2.2.2 a q).trans (h.2.2.2 a q)⟩
theorem NF_C {m m' : zMem} (h : CF m m') : NF m m' := ⟨h.2.1, fun a h1 _ h3 _ h5 => h.2.2.1 a h1 h3 h5, fun c _ h2 _ _ => h.2.2.2 c h2, fun a _ => by rw [h.1]⟩
theorem NF_i {m : zMem} {c : Nat} {v : Int32} (h : c = 1 ∨ c = 3 ∨ c = 4 ∨ c = 12) : NF m (mI m 1121 c v) := ⟨fun _ _ _ => rfl, fun a h1 _ _ _ _ => mI_o h1, fun x h1 h2 h3 h4 => by rw [mI_v, if_pos rfl, if_neg (by omega)], fun _ _ => rfl⟩
theorem WS_n {s r : Nat} {F : Nat → Nat → Int32} {m m' : zMem} (hs : gS s) (h : WS W H s r F m) (k : NF m m') (hq : hAB m') : WS W H s r F m' := by
  obtain ⟨h1, ⟨h2, h3, h4, h5⟩, h6, h7, h8, h9⟩ := h
  have lt := s_lt hs
  have N := Wsc_n h6.1
  refine ⟨fun a j hk => (k.1 a j (fun q => hk (by unfold rMut; omega))).trans (h1 a j hk), ⟨?_, ?_, fun i hi => ?_, fun i hi hv q hq => ?_⟩, ?_, fun i hi q hq => ?_, ?_, hq⟩
  · rw [k.1 1121 7 (by omega)]; exact h2
  · rw [k.2.2.1 11 (by decide) (by decide) (by decide) (by decide)]; exact h3
  · rw [k.2.1 1175 (by decide) (by decide) (by decide) (by decide) (by decide)]; exact h4 i hi
  · rw [k.2.1 (1127 + i) (by omega) (by omega) (by omega) (by omega) (by omega)]; exact h5 i hi hv q hq
  · exact Cls_c hs (fun b b1 b2 => k.2.1 b (by omega) (by omega) (by omega) (by omega) (by omega)) h6
  · have : ndA s i + 2 < 1121 := by rcases hs with e | e | e <;> (unfold ndA; omega)
    rw [k.2.1 _ (by omega) (by omega) (by omega) (by omega) (by omega)]; exact h7 i hi q hq
  · rw [k.2.2.1 5 (by decide) (by decide) (by decide) (by decide), k.2.2.1 6 (by decide) (by decide) (by decide) (by decide)]; exact h8
theorem PTS_f {s ms np r p : Nat} {M Wd : Nat → Int64} {F f : Nat → Nat → Int32} (h : PTS s ms np M Wd F r f) (hp : p < np) : cnC f (msA s ms) p = crn M Wd F r ms p := by
  funext k
  by_cases e : k < 6
  · exact h p hp k e
  · have a : cnC f (msA s ms) p k = cnC f (msA s ms) p 5 := by
      unfold cnC
      rw [if_neg (by omega), if_neg (by omega), if_neg (by omega), if_neg (by decide), if_neg (by decide), if_neg (by decide)]
    have b : crn M Wd F r ms p k = crn M Wd F r ms p 5 := by
      unfold crn
      rw [if_neg (by omega), if_neg (by omega), if_neg (by omega), if_neg (by decide), if_neg (by decide), if_neg (by decide)]
    rw [a, b]
    exact h p hp 5 (by decide)
theorem PTS_n {s ms np r : Nat} {M Wd : Nat → Int64} {F f f' : Nat → Nat → Int32} (h : PTS s ms np M Wd F r f) (h1 : f' 1176 = f 1176) (h2 : f' (msA s ms + 3) = f (msA s ms + 3)) : PTS s ms np M Wd F r f' := fun p hp k hk => by rw [cnC_c h1 h2]; exact h p hp k hk
set_option maxHeartbeats 2000000 in
theorem e_nf62 {s r k nd ms np nf : Nat} {F : Nat → Nat → Int32} {M Wd : Nat → Int64} (hs : gS s) (hW8 : 8 ≤ W) (hH8 : 8 ≤ H) (hW48 : W ≤ 48) (hH48 : H ≤ 48) (hWs : Wsc (fun a => F (r + a))) (hms : ms < cn (fun a => F (r + a)) 2) (hmse : msN (fun a => F (r + a)) nd = ms) (hnp : (F (r + 9) ms).toNatClampNeg = np) (hnf : (F (r + 10) ms).toNatClampNeg = nf) : ∀ (d fc fuel : Nat) (m : zMem), fc + d = nf → d < fuel → WS W H s r F m → m.1 1121 12 = nI k → m.1 1121 1 = nI fc → PTS s ms np M Wd F r m.1 → zok (L_XSight_nextFace_62 (sh0 W H) fuel 1121 (msA s ms) m) (fun z => NF m z.2.2.2.2 ∧ hAB z.2.2.2.2 ∧ z.2.2.2.2.1 1121 12 = nI k ∧ PTS s ms np M Wd F r z.2.2.2.2.1 ∧ ((z.1 = 1 ∧ z.2.2.1 = 1121 ∧ fcsL W H M Wd F r nd d fc = []) ∨ (z.1 = 0 ∧ z.2.1 = 1 ∧ ∃ e fc', (fc' + (e + 1) = nf ∧ fc ≤ fc') ∧ fcsL W H M Wd F r nd d fc = fcsL W H M Wd F r nd (e + 1) fc' ∧ z.2.2.2.2.1 1121 1 = nI fc' ∧ PJ (F r 34).toInt64 (w8n W) (w8n H) (ply (w64 W) (w64 H) M Wd F r ms fc') z.2.2.2.2 ∧ 3 ≤ (ply (w64 W) (w64 H) M Wd F r ms fc').length))) := by
  have N := Wsc_n hWs
  have hm16 : ms < 16 := by omega
  have lm : msA s ms + 4 < 1121 := by unfold msA; rcases hs with e | e | e <;> omega
  have lt := s_lt hs
  obtain ⟨_, _, np', nf', n1, n2, n3, n4, n5, n6, n7, n8, n9⟩ := hWs.2.2.1 _ hms
  have e5 : F (r + 9) ms = nI np' := n5
  have e6 : F (r + 10) ms = nI nf' := n6
  obtain rfl : np' = np := by rw [← hnp, e5, nI_cl (by omega)]
  obtain rfl : nf' = nf := by rw [← hnf, e6, nI_cl (by omega)]
  have cam := hWs.2.2.2.2.1.2
  have cam' : 8 ≤ (F r 34).toInt ∧ (F r 34).toInt ≤ 512 := cam
  have wW' := w64_i hW48
  have wH' := w64_i hH48
  have hwf : whf (w64 W) (w64 H) (F r 34).toInt64 := ⟨by omega, by omega, by rw [Int32.toInt_toInt64]; exact cam'⟩
  intro d
  induction d with
  | zero =>
    intro fc fuel m hfc hf hS h12 h1 hP
    obtain ⟨fu, rfl⟩ : ∃ fu, fuel = fu + 1 := ⟨fuel - 1, by omega⟩
    obtain ⟨_, _, r3, _⟩ := hS.2.2.1.2.2.2.1 ms hms
    have r3' : m.1 (msA s ms) 2 = nI nf' := r3.trans n6
    rw [L_XSight_nextFace_62, zoS_h sh_1121, zoS_h (sh_msA hs hm16), r3', h1, if_pos (by rw [nI_leD (by omega) (by omega)]; omega)]
    exact zok_s ⟨NF_r, hS.2.2.2.2.2, h12, hP, .inl ⟨rfl, rfl, rfl⟩⟩
  | succ d ih =>
    intro fc fuel m hfc hf hS h12 h1 hP
    obtain ⟨fu, rfl⟩ : ∃ fu, fuel = fu + 1 := ⟨fuel - 1, by omega⟩
    obtain ⟨_, _, r3, _, _, r6⟩ := hS.2.2.1.2.2.2.1 ms hms
    have r3' : m.1 (msA s ms) 2 = nI nf' := r3.trans n6
    have r6' : ∀ j, j < 3 * nf' → m.1 (msA s ms + 4) j = F (r + 14) (384 * ms + j) := fun j hj => r6 j (by show j < 3 * (F (r + 10) ms).toNatClampNeg; rw [hnf]; exact hj)
    obtain ⟨b1, b2⟩ := fc3_B (M := M) (Wd := Wd) (w := (w64 W).toInt) (h := (w64 H).toInt) (F := (F r 34).toInt64.toInt) (fc := fc) hWs hms (by rw [hnf]; omega)
    have bx : ∀ i, i < 3 → fcP F r ms fc i < np' := fun i hi => by
      have a := (n9 (3 * fc + i) (by omega)).2
      have b : (F (r + 14) (384 * ms + 3 * fc + i)).toInt < np' := by rw [show 384 * ms + 3 * fc + i = 384 * ms + (3 * fc + i) by omega]; exact a
      rw [(b1 i hi).1, nI_toInt (by have := (b1 i hi).2; omega)] at b
      omega
    have hfcC : fcC m.1 (msA s ms) (fcP F r ms fc) = fc3 M Wd F r ms fc := by
      unfold fcC fc3
      rw [PTS_f hP (bx 0 (by decide)), PTS_f hP (bx 1 (by decide)), PTS_f hP (bx 2 (by decide))]
    have hcam : m.1 (s + 23) 6 = F r 34 := hS.2.2.1.2.2.2.2.2.1.2
    have hcf := e_cutFace (W := W) (H := H) (m := m) (i := ms) (fc := fc) (x := fcP F r ms fc) (w := w64 W) (h := w64 H) (f := (F r 34).toInt64) (w8 := w8n W) (h8 := w8n H) hs hm16 hS.1 hS.2.1.1 hS.2.2.2.2.2 (by omega) h1 (fun i hi => ⟨by rw [r6' _ (by omega), ← (b1 i hi).1, show 384 * ms + 3 * fc + i = 384 * ms + (3 * fc + i) by omega], (b1 i hi).2⟩) (by rw [hS.2.2.2.2.1.1]; rfl) (by rw [hS.2.2.2.2.1.2]; rfl) (by rw [hcam]) (by rw [hS.2.2.2.2.1.1]; rfl) (by rw [hS.2.2.2.2.1.2]; rfl) (by rw [w8n_i hW48, wW']) (by rw [w8n_i hH48, wH']) hwf (by rw [hfcC]; exact b2)
    rw [hfcC] at hcf
    have hply : cutN (w64 W) (w64 H) (F r 34).toInt64 (fc3 M Wd F r ms fc) 5 = ply (w64 W) (w64 H) M Wd F r ms fc := rfl
    have l19 := (cutN_19 (w := w64 W) (h := w64 H) (f := (F r 34).toInt64) (l := fc3 M Wd F r ms fc) rfl (j := 5) (by decide)).1
    have l03 := cutN_03 (w := w64 W) (h := w64 H) (f := (F r 34).toInt64) (l := fc3 M Wd F r ms fc) rfl 5
    rw [hply] at hcf l19 l03
    rw [L_XSight_nextFace_62, zoS_h sh_1121, zoS_h (sh_msA hs hm16), r3', h1, if_neg (by rw [nI_leD (by omega) (by omega)]; omega), zoS_h sh_1121]
    refine zok_b hcf (fun m1 hm1 => ?_)
    obtain ⟨F1, P1⟩ := hm1
    have P1' := P1
    obtain ⟨A, B, pAB, pA, pB, pl, pc⟩ := P1'
    have N1 := NF_C F1
    have hq1 : hAB m1 := ⟨A, B, pAB, pA, pB⟩
    have S1 := WS_n hs hS N1 hq1
    have T1 : PTS s ms np' M Wd F r m1.1 := PTS_n hP (F1.2.2.1 1176 (by decide) (by decide) (by decide)) (F1.2.2.1 _ (by omega) (by omega) (by omega))
    have c1 : m1.1 1121 1 = nI fc := by rw [F1.2.2.2 1 (by decide)]; exact h1
    have c12 : m1.1 1121 12 = nI k := by rw [F1.2.2.2 12 (by decide)]; exact h12
    rw [zoS_h sh_1121, pl]
    by_cases sm : (ply (w64 W) (w64 H) M Wd F r ms fc).length < 3
    · have e0 : ply (w64 W) (w64 H) M Wd F r ms fc = [] := List.length_eq_zero_iff.mp (by omega)
      have eL : fcL W H M Wd F r nd fc = [] := by
        unfold fcL plyP
        rw [hmse, e0]
        rfl
      rw [if_pos (by rw [show (3 : Int32) = nI 3 from rfl, i32_lt, nI_toInt (by omega), nI_toInt (by omega)]; omega), zoS_h sh_1121, c1, nI_p1, zoL_e, zoS_h sh_1121, zoL_e]
      have N2 : NF m1 (mI m1 1121 1 (nI (fc + 1))) := NF_i (.inl rfl)
      refine zok_w (ih (fc + 1) fu (mI m1 1121 1 (nI (fc + 1))) (by omega) (by omega) (WS_n hs S1 N2 ⟨A, B, pAB, pA, pB⟩) (by rw [mI_v, if_pos rfl, if_neg (by decide)]; exact c12) (by rw [mI_v, if_pos rfl, if_pos rfl]) (PTS_n T1 (mI_o (by decide)) (mI_o (by omega)))) (fun z hz => ?_)
      obtain ⟨q1, q2, q3, q4, q5⟩ := hz
      refine ⟨NF_t (NF_t N1 N2) q1, q2, q3, q4, ?_⟩
      have eF : fcsL W H M Wd F r nd (d + 1) fc = fcsL W H M Wd F r nd d (fc + 1) := by rw [fcsL, eL, List.nil_append]
      rw [eF]
      rcases q5 with q5 | ⟨y0, y1, y2, y3, ⟨y4, y5⟩, y6⟩
      · exact .inl q5
      · exact .inr ⟨y0, y1, y2, y3, ⟨y4, by omega⟩, y6⟩
    · rw [if_neg (by rw [show (3 : Int32) = nI 3 from rfl, i32_lt, nI_toInt (by omega), nI_toInt (by omega)]; omega)]
      exact zok_s ⟨N1, hq1, c12, T1, .inr ⟨rfl, rfl, d, fc, ⟨hfc, Nat.le_refl _⟩, rfl, c1, P1, by omega⟩⟩
end ZNF
