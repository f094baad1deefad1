/-! PURE: the class's points are the reference's corners -/
section ZZP
variable {W H : Nat}
theorem apP_c {a b : Nat → Int64} {i : Nat} {x y z : Int64} (hi : i < 3) (h : ∀ k, k < 12 → a k = b k) : apP a i x y z = apP b i x y z := by
  unfold apP
  rw [h _ (by omega), h _ (by omega), h _ (by omega), h _ (by omega)]
theorem apD_c {a b : Nat → Int64} {i : Nat} {x y z : Int64} (hi : i < 3) (h : ∀ k, k < 12 → a k = b k) : apD a i x y z = apD b i x y z := by
  unfold apD
  rw [h _ (by omega), h _ (by omega), h _ (by omega)]
/-- the class's corners of mesh ms are the reference's -/
def PTS (s ms np : Nat) (M Wd : Nat → Int64) (F : Nat → Nat → Int32) (r : Nat) (f : Nat → Nat → Int32) : Prop := ∀ p, p < np → ∀ k, k < 6 → cnC f (msA s ms) p k = crn M Wd F r ms p k
theorem pts_of {f F : Nat → Nat → Int32} {s r ms mx wd np : Nat} {M Wd : Nat → Int64} (hl : Wlmp (fun a => F (r + a))) (hlm : Rlmp f s (fun a => F (r + a))) (hM : ∀ k, k < 12 → m64 (f mx) k = M k) (hWd : ∀ k, k < 12 → m64 (f wd) k = Wd k) (h1 : ∀ j, j < 3 * np → f (msA s ms + 1) j = F (r + 11) (384 * ms + j) ∧ f (msA s ms + 2) j = F (r + 12) (384 * ms + j)) (h3 : ∀ j, j < 2 * np → f (msA s ms + 3) j = F (r + 13) (256 * ms + j)) (hm : ∀ j, j < 2 * np → -131072 ≤ (F (r + 13) (256 * ms + j)).toInt ∧ (F (r + 13) (256 * ms + j)).toInt ≤ 131072) (hp : ∀ q, q < np → ∀ k, k < 4 → f 1176 (4 * q + k) = (pnt f s mx wd (msA s ms) q k).toInt32) : PTS s ms np M Wd F r f := by
  intro p hpn k hk
  have B := crn_B (M := M) (Wd := Wd) (f := F) (r := r) (ms := ms) (p := p) (np := np) (w := 0) (h := 0) (F := 0) hl hm hpn
  have e29 : ∀ c, c < 3 → f (s + 24) c = F (r + 29) c := hlm.1
  have e35 : f (s + 24) 3 = F r 35 := hlm.2
  have t0 := h1 (3 * p) (by omega)
  have t1 := h1 (3 * p + 1) (by omega)
  have t2 := h1 (3 * p + 2) (by omega)
  have u0 := h3 (2 * p) (by omega)
  have u1 := h3 (2 * p + 1) (by omega)
  have P3 : ∀ i, i < 3 → (pnt f s mx wd (msA s ms) p i).toInt32.toInt64 = crn M Wd F r ms p i := fun i hi => by
    unfold pnt crn
    rw [if_pos hi, if_pos hi, apP_c hi hM, t0.1, t1.1, t2.1]
    unfold apP
    exact bnd_rt _
  have P5 : (pnt f s mx wd (msA s ms) p 3).toInt32.toInt64 = crn M Wd F r ms p 5 := by
    have e : pnt f s mx wd (msA s ms) p 3 = crn M Wd F r ms p 5 := by
      unfold pnt crn lgC lgD
      rw [if_neg (by decide), if_neg (by decide), if_neg (by decide), if_neg (by decide), apD_c (by decide) hWd, apD_c (by decide) hWd, apD_c (by decide) hWd, t0.2, t1.2, t2.2, e29 0 (by decide), e29 1 (by decide), e29 2 (by decide), e35]
      rfl
    rw [e]
    have := B.2.2.2.2.2.1
    exact i64_rt (by omega) (by omega)
  rcases (show k = 0 ∨ k = 1 ∨ k = 2 ∨ k = 3 ∨ k = 4 ∨ k = 5 by omega) with rfl | rfl | rfl | rfl | rfl | rfl
  · rw [← P3 0 (by decide), ← hp p hpn 0 (by decide)]; rfl
  · rw [← P3 1 (by decide), ← hp p hpn 1 (by decide)]; rfl
  · rw [← P3 2 (by decide), ← hp p hpn 2 (by decide)]; rfl
  · unfold cnC crn
    rw [if_neg (by decide), if_pos rfl, if_neg (by decide), if_pos rfl, u0]
    try rfl
  · unfold cnC crn
    rw [if_neg (by decide), if_neg (by decide), if_pos rfl, if_neg (by decide), if_neg (by decide), if_pos rfl, u1]
    try rfl
  · rw [← P5, ← hp p hpn 3 (by decide)]; rfl
set_option maxHeartbeats 1000000 in
theorem e_stP {m : zMem} {s r k : Nat} {F : Nat → Nat → Int32} (hs : gS s) (hR : RF m.2.2) (hS : Std s r F m) (hC : Cls m.1 s (fun a => F (r + a))) (hWd : ∀ i, i < cn (fun a => F (r + a)) 3 → ∀ q, q < 12 → m.1 (ndA s i + 2) q = (wW F r i q).toInt32) (hk : k < (ordR F r).1) (h12 : m.1 1121 12 = nI k) : zok (F_XSight_standPoints (sh0 W H) m 1121 (msA s (msN (fun a => F (r + a)) ((ordR F r).2 k)))) (fun m' => m'.2 = m.2 ∧ (∀ a, a ≠ 1176 → m'.1 a = m.1 a) ∧ PTS s (msN (fun a => F (r + a)) ((ordR F r).2 k)) (F (r + 9) (msN (fun a => F (r + a)) ((ordR F r).2 k))).toNatClampNeg (mW F r ((ordR F r).2 k)) (wW F r ((ordR F r).2 k)) F r m'.1) := by
  have N := Wsc_n hC.1
  obtain ⟨hpar, _, _⟩ := Wsc_p hC.1
  have hob := ord_b (g := fun a => F (r + a)) (vis := visN F r) (ky := fun k => mW F r k 11) (cn (fun a => F (r + a)) 3)
  have hon : (ordR F r).1 ≤ cn (fun a => F (r + a)) 3 := hob.1
  have hov := hob.2 k hk
  have hnd : (ordR F r).2 k < cn (fun a => F (r + a)) 3 := hov.1
  have hvs : visN F r ((ordR F r).2 k) = true := hov.2
  have hms := vis_m hvs
  obtain ⟨s7, s11, s75, sg⟩ := hS
  have o75 := s75 k hk
  have sgn := sg _ hnd hvs
  have wdn := hWd _ hnd
  have wrt : ∀ q, q < 12 → (wW F r ((ordR F r).2 k) q).toInt32.toInt64 = wW F r ((ordR F r).2 k) q := fun q hq => wW_rt hpar hnd hq
  obtain ⟨a1, a2, a3, a4⟩ := Wsc_ms hC.1 hnd hms
  obtain ⟨r1, r2, r3, r4, r5, r6⟩ := hC.2.2.2.1 _ a2
  obtain ⟨_, _, np, nf, n1, n2, n3, n4, n5, n6, n7, n8, n9⟩ := hC.1.2.2.1 _ a2
  generalize (ordR F r).2 k = nd at hnd hvs hms o75 sgn wdn wrt a1 a2 a3 a4 r1 r2 r3 r4 r5 r6 n5 n6 n7 n8 n9 ⊢
  generalize msN (fun a => F (r + a)) nd = ms at a1 a2 a3 a4 r1 r2 r3 r4 r5 r6 n5 n6 n7 n8 n9 ⊢
  have n5' : F (r + 9) ms = nI np := n5
  have hcl : (F (r + 9) ms).toNatClampNeg = np := by rw [n5', nI_cl (by omega)]
  have r4' : ∀ j, j < 3 * np → m.1 (msA s ms + 1) j = F (r + 11) (384 * ms + j) ∧ m.1 (msA s ms + 2) j = F (r + 12) (384 * ms + j) := fun j hj => r4 j (by show j < 3 * (F (r + 9) ms).toNatClampNeg; rw [hcl]; exact hj)
  have r5' : ∀ j, j < 2 * np → m.1 (msA s ms + 3) j = F (r + 13) (256 * ms + j) := fun j hj => r5 j (by show j < 2 * (F (r + 9) ms).toNatClampNeg; rw [hcl]; exact hj)
  have r2' : m.1 (msA s ms) 1 = nI np := r2.trans n5
  have hm16 : ms < 16 := by omega
  have nd48 : nd < 48 := by omega
  have end_ : ndA s nd + 2 < 1121 := by rcases hs with e | e | e <;> (unfold ndA; omega)
  have emd : msA s ms + 4 < 1121 := by unfold msA; rcases hs with e | e | e <;> omega
  have lt := s_lt hs
  rw [hcl]
  unfold F_XSight_standPoints
  rw [zoS_h sh_1121, zob_h (rf_1121_9 hR), zoS_h sh_1121, zob_h (rf_1121_10 hR), zoS_h sh_1121, h12, zoL_e, zoS_h sh_1175, nI_ix (by omega) (by decide), nI_cl (n := k) (by omega), o75, zoL_e, zoR_h sh_1126 (by decide), nI_ix (by omega) (by decide), nI_cl (n := nd) (by omega), zob_h (rf_1126 hR nd48), zoS_h sh_1121, zob_h s7, zoS_h (sh_s0 hs), zob_h (rf_s4 hR hs), zoS_h sh_1121, zob_h (rf_1121_10 hR), zoS_h sh_1121, zoL_e, zoS_h sh_1175, nI_ix (by omega) (by decide), nI_cl (n := k) (by omega), o75, zoL_e, zoR_h (sh_s21 hs) (by decide), nI_ix (by omega) (by decide), nI_cl (n := nd) (by omega), zob_h (rf_nd hR hs nd48), zoS_h (sh_ndA hs nd48), zob_h (rf_ndA5 hR hs nd48), zoS_h (sh_msA hs hm16), zob_h (rf_msA3 hR hs hm16)]
  refine zok_b (e_sp45 (W := W) (H := H) (m0 := m) (s := s) (j := ms) (wd := ndA s nd + 2) (mx := 1127 + nd) (np := np) hs hm16 hR s7 (sh_sg nd48) (sh_ndA2 hs nd48) (by omega) (by omega) n2 r2' np 0 zfuel m (by omega) (zf_lt (by omega)) rfl (fun _ _ => rfl) (fun q hq => absurd hq (Nat.not_lt_zero q))) (fun z hz => ?_)
  obtain ⟨z1, z2, z3⟩ := hz
  refine zok_s ⟨z1, z2, pts_of (mx := 1127 + nd) (wd := ndA s nd + 2) hC.1.2.2.2.2.2 ?_ (fun q hq => ?_) (fun q hq => ?_) (fun j hj => ?_) (fun j hj => ?_) (fun j hj => n8 j hj) (fun q hq i hi => ?_)⟩
  · refine ⟨fun c hc => ?_, ?_⟩
    · rw [z2 _ (by omega)]; exact hC.2.2.2.2.2.2.1 c hc
    · rw [z2 _ (by omega)]; exact hC.2.2.2.2.2.2.2
  · unfold m64
    rw [z2 _ (by omega), (sgn q hq).1, (sgn q hq).2]
  · unfold m64
    rw [z2 _ (by omega), wdn q hq, wrt q hq]
  · rw [z2 _ (by omega), z2 _ (by omega)]; exact r4' j hj
  · rw [z2 _ (by omega)]; exact r5' j hj
  · rw [z3 q hq i hi]
    exact congrArg Int64.toInt32 (pnt_c (z2 _ (by omega)).symm (z2 _ (by omega)).symm (z2 _ (by omega)).symm (z2 _ (by omega)).symm (z2 _ (by omega)).symm)
end ZZP
