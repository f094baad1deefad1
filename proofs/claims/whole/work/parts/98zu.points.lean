/-! PURE: the class's points of a mesh, seen and lit -/
section ZPT
variable {W H : Nat}
theorem nI_p2 (t : Nat) : nI t + 2 = nI (t + 2) := (Int32.ofNat_add t 2).symm
theorem nI_p3 (t : Nat) : nI t + 3 = nI (t + 3) := (Int32.ofNat_add t 3).symm
theorem e_lo6 {m : zMem} {s wd nm t i fu : Nat} {d : Int64} (hs : gS s) (hR : RF m.2.2) (h7 : m.2.2 1121 7 = some s) (hwd : sh0 W H wd = some (100, 12)) (hnm : sh0 W H nm = some (100, 384)) (ht : t + 2 < 384) (hi : i < 3) : L_XSight_lightOf_6 (sh0 W H) (fu + 1) 1121 wd nm (nI t) d (nI i) m = L_XSight_lightOf_6 (sh0 W H) fu 1121 wd nm (nI t) (d + sp_MPainter_mul (apD (m64 (m.1 wd)) i (m.1 nm t).toInt64 (m.1 nm (t + 1)).toInt64 (m.1 nm (t + 2)).toInt64) (m.1 (s + 24) i).toInt64) (nI (i + 1)) m := by
  have ha := e_along (sh := sh0 W H) (mm := m) (a := wd) (i := i) (n := 12) hwd (by decide) (by omega) (m.1 nm t).toInt64 (m.1 nm (t + 1)).toInt64 (m.1 nm (t + 2)).toInt64
  conv => lhs; unfold L_XSight_lightOf_6
  rw [if_neg (by rw [show (3 : Int32) = nI 3 from rfl, nI_leD (by omega) (by omega)]; omega), zoS_h hnm, nI_ix (by omega) (by decide), nI_cl (n := t) (by omega), nI_p1, zoL_e, zoS_h hnm, nI_ix (by omega) (by decide), nI_cl (n := t + 1) (by omega), nI_p2, zoL_e, zoS_h hnm, nI_ix (by omega) (by decide), nI_cl (n := t + 2) (by omega), zoL_e, zoL_e, zoL_e, zob_h ha, zoS_h sh_1121, zob_h h7, zoS_h (sh_s0 hs), zob_h (rf_s7 hR hs), zoS_h (sh_s24 hs), nI_ix (by omega) (by decide), nI_cl (n := i) (by omega), zoL_e, zoL_e, zoL_e, nI_p1, bound_eq, zx_mul_fdiv]
  unfold apD m64
  rw [Int64.add_zero]
theorem lgL_c {d amb : Int64} : zx_minl 65536 (amb + zx_maxl d 0) = lgL d amb := by
  have e1 : zx_maxl d 0 = if lg_cmp d 0 ≤ 0 then 0 else d := by
    unfold zx_maxl
    by_cases a : lg_cmp d 0 < 0
    · rw [if_pos a, if_pos (by rw [i32_lt] at a; rw [i32_le]; omega)]
    · rw [if_neg a]
      by_cases b : lg_cmp d 0 ≤ 0
      · have : lg_cmp d 0 = 0 := i32_ext (by rw [i32_lt] at a; rw [i32_le] at b; omega)
        rw [if_pos b, lgc_0.mp this]
      · rw [if_neg b]
  unfold lgL
  rw [← e1]
  generalize amb + zx_maxl d 0 = x
  unfold zx_minl
  have e2 : (65536 : Int64).toInt = 65536 := rfl
  by_cases a : 0 ≤ lg_cmp x 65536
  · rw [if_pos a]
    rw [lgc_ge, i64_lt] at a
    rw [if_neg (by rw [lgc_gt2]; omega)]
  · rw [if_neg a]
    rw [lgc_ge, i64_lt] at a
    rw [if_pos (by rw [lgc_gt2]; omega)]
def lgC (f : Nat → Nat → Int32) (s wd nm t : Nat) : Int64 := lgL ((sp_MPainter_mul (apD (m64 (f wd)) 0 (f nm t).toInt64 (f nm (t + 1)).toInt64 (f nm (t + 2)).toInt64) (f (s + 24) 0).toInt64 + sp_MPainter_mul (apD (m64 (f wd)) 1 (f nm t).toInt64 (f nm (t + 1)).toInt64 (f nm (t + 2)).toInt64) (f (s + 24) 1).toInt64) + sp_MPainter_mul (apD (m64 (f wd)) 2 (f nm t).toInt64 (f nm (t + 1)).toInt64 (f nm (t + 2)).toInt64) (f (s + 24) 2).toInt64) (f (s + 24) 3).toInt64
theorem e_lightOf {m : zMem} {s wd nm t : Nat} (hs : gS s) (hR : RF m.2.2) (h7 : m.2.2 1121 7 = some s) (hwd : sh0 W H wd = some (100, 12)) (hnm : sh0 W H nm = some (100, 384)) (ht : t + 2 < 384) : F_XSight_lightOf (sh0 W H) m 1121 wd nm (nI t) = some ((lgC m.1 s wd nm t).toInt32, m) := by
  have m5 : ∃ z5, L_XSight_lightOf_6 (sh0 W H) zfuel 1121 wd nm (nI t) 0 0 m = some (1121, wd, nm, nI t, (sp_MPainter_mul (apD (m64 (m.1 wd)) 0 (m.1 nm t).toInt64 (m.1 nm (t + 1)).toInt64 (m.1 nm (t + 2)).toInt64) (m.1 (s + 24) 0).toInt64 + sp_MPainter_mul (apD (m64 (m.1 wd)) 1 (m.1 nm t).toInt64 (m.1 nm (t + 1)).toInt64 (m.1 nm (t + 2)).toInt64) (m.1 (s + 24) 1).toInt64) + sp_MPainter_mul (apD (m64 (m.1 wd)) 2 (m.1 nm t).toInt64 (m.1 nm (t + 1)).toInt64 (m.1 nm (t + 2)).toInt64) (m.1 (s + 24) 2).toInt64, z5, m) := by
    refine ⟨nI 3, ?_⟩
    show L_XSight_lightOf_6 (sh0 W H) zfuel 1121 wd nm (nI t) 0 (nI 0) m = _
    rw [show zfuel = 999996 + 1 + 1 + 1 + 1 from nrfl rfl, e_lo6 hs hR h7 hwd hnm ht (by decide), e_lo6 hs hR h7 hwd hnm ht (by decide), e_lo6 hs hR h7 hwd hnm ht (by decide), L_XSight_lightOf_6, if_pos (by decide), Int64.zero_add]
  obtain ⟨z5, m5⟩ := m5
  unfold F_XSight_lightOf
  rw [zob_h m5]
  dsimp only
  rw [zoS_h sh_1121, zob_h h7, zoS_h (sh_s0 hs), zob_h (rf_s7 hR hs), zoS_h (sh_s24 hs), if_neg (by decide), show (3 : Int32).toNatClampNeg = 3 from rfl, zoL_e, lgL_c]
  rfl
/-- a point of the class: seen places, and light -/
def pnt (f : Nat → Nat → Int32) (s mx wd ms p : Nat) : Nat → Int64 := fun k => if k < 3 then apP (m64 (f mx)) k (f (ms + 1) (3 * p)).toInt64 (f (ms + 1) (3 * p + 1)).toInt64 (f (ms + 1) (3 * p + 2)).toInt64 else lgC f s wd (ms + 2) (3 * p)
theorem e_sp57 {m : zMem} {ms wd mx vs p i fu : Nat} (hR : RF m.2.2) (hmx : sh0 W H mx = some (100, 12)) (hvs : sh0 W H vs = some (100, 384)) (hp : p < 128) (hi : i < 3) : L_XSight_standPoints_57 (sh0 W H) (fu + 1) 1121 ms mx wd vs (nI p) (nI i) m = L_XSight_standPoints_57 (sh0 W H) fu 1121 ms mx wd vs (nI p) (nI (i + 1)) (mI m 1176 (4 * p + i) (apP (m64 (m.1 mx)) i (m.1 vs (3 * p)).toInt64 (m.1 vs (3 * p + 1)).toInt64 (m.1 vs (3 * p + 2)).toInt64).toInt32) := by
  have ha := e_along (sh := sh0 W H) (mm := m) (a := mx) (i := i) (n := 12) hmx (by decide) (by omega) (m.1 vs (3 * p)).toInt64 (m.1 vs (3 * p + 1)).toInt64 (m.1 vs (3 * p + 2)).toInt64
  conv => lhs; unfold L_XSight_standPoints_57
  rw [if_neg (by rw [show (3 : Int32) = nI 3 from rfl, nI_leD (by omega) (by omega)]; omega), nI_3mul, zoL_e, zoS_h hvs, nI_ix (by omega) (by decide), nI_cl (n := 3 * p) (by omega), nI_p1, zoL_e, zoS_h hvs, nI_ix (by omega) (by decide), nI_cl (n := 3 * p + 1) (by omega), nI_p2, zoL_e, zoS_h hvs, nI_ix (by omega) (by decide), nI_cl (n := 3 * p + 2) (by omega), zoL_e, zoL_e, zoL_e, zob_h ha, zoS_h sh_1121, zob_h (rf_1121_13 hR), nI_4mul, nI_p3, zoL_e, zoS_h hmx, nI_ix (by omega) (by decide), nI_cl (n := 4 * i + 3) (by omega), zoL_e, zoL_e, nI_4, zoL_e, zoS_h sh_1176, nI_ix (by omega) (by decide), nI_cl (n := 4 * p + i) (by omega), zoL_e, nI_p1]
  have hb : zx_bound (((sp_MPainter_mul (m.1 mx (4 * i)).toInt64 (m.1 vs (3 * p)).toInt64 + sp_MPainter_mul (m.1 mx (4 * i + 1)).toInt64 (m.1 vs (3 * p + 1)).toInt64) + sp_MPainter_mul (m.1 mx (4 * i + 2)).toInt64 (m.1 vs (3 * p + 2)).toInt64) + (m.1 mx (4 * i + 3)).toInt64) = (apP (m64 (m.1 mx)) i (m.1 vs (3 * p)).toInt64 (m.1 vs (3 * p + 1)).toInt64 (m.1 vs (3 * p + 2)).toInt64).toInt32 := by
    unfold apP m64
    rw [← bound_eq, Int32.toInt32_toInt64]
  dsimp only
  rw [hb]
theorem pnt_c {f f' : Nat → Nat → Int32} {s mx wd ms p k : Nat} (h1 : f mx = f' mx) (h2 : f wd = f' wd) (h3 : f (ms + 1) = f' (ms + 1)) (h4 : f (ms + 2) = f' (ms + 2)) (h5 : f (s + 24) = f' (s + 24)) : pnt f s mx wd ms p k = pnt f' s mx wd ms p k := by
  unfold pnt lgC
  rw [h1, h2, h3, h4, h5]
theorem e_spR {m : zMem} {ms wd mx vs p : Nat} (hR : RF m.2.2) (hmx : sh0 W H mx = some (100, 12)) (hvs : sh0 W H vs = some (100, 384)) (hp : p < 128) (n1 : mx ≠ 1176) (n2 : vs ≠ 1176) : L_XSight_standPoints_57 (sh0 W H) zfuel 1121 ms mx wd vs (nI p) 0 m = some (1121, ms, mx, wd, vs, nI p, nI 3, mI (mI (mI m 1176 (4 * p + 0) (apP (m64 (m.1 mx)) 0 (m.1 vs (3 * p)).toInt64 (m.1 vs (3 * p + 1)).toInt64 (m.1 vs (3 * p + 2)).toInt64).toInt32) 1176 (4 * p + 1) (apP (m64 (m.1 mx)) 1 (m.1 vs (3 * p)).toInt64 (m.1 vs (3 * p + 1)).toInt64 (m.1 vs (3 * p + 2)).toInt64).toInt32) 1176 (4 * p + 2) (apP (m64 (m.1 mx)) 2 (m.1 vs (3 * p)).toInt64 (m.1 vs (3 * p + 1)).toInt64 (m.1 vs (3 * p + 2)).toInt64).toInt32) := by
  show L_XSight_standPoints_57 (sh0 W H) zfuel 1121 ms mx wd vs (nI p) (nI 0) m = _
  rw [show zfuel = 999996 + 1 + 1 + 1 + 1 from nrfl rfl, e_sp57 hR hmx hvs hp (by decide)]
  generalize hm1 : mI m 1176 (4 * p + 0) (apP (m64 (m.1 mx)) 0 (m.1 vs (3 * p)).toInt64 (m.1 vs (3 * p + 1)).toInt64 (m.1 vs (3 * p + 2)).toInt64).toInt32 = m1
  have a1 : m1.1 mx = m.1 mx := by rw [← hm1, mI_o n1]
  have a2 : m1.1 vs = m.1 vs := by rw [← hm1, mI_o n2]
  have a3 : RF m1.2.2 := by rw [← hm1]; exact hR
  rw [e_sp57 a3 hmx hvs hp (by decide), a1, a2]
  generalize hm2 : mI m1 1176 (4 * p + 1) (apP (m64 (m.1 mx)) 1 (m.1 vs (3 * p)).toInt64 (m.1 vs (3 * p + 1)).toInt64 (m.1 vs (3 * p + 2)).toInt64).toInt32 = m2
  have b1 : m2.1 mx = m.1 mx := by rw [← hm2, mI_o n1, a1]
  have b2 : m2.1 vs = m.1 vs := by rw [← hm2, mI_o n2, a2]
  have b3 : RF m2.2.2 := by rw [← hm2]; exact a3
  rw [e_sp57 b3 hmx hvs hp (by decide), b1, b2, L_XSight_standPoints_57, if_pos (by decide)]
set_option maxHeartbeats 1000000 in
theorem e_sp45 {m0 : zMem} {s j wd mx np : Nat} (hs : gS s) (hj : j < 16) (hR0 : RF m0.2.2) (h7 : m0.2.2 1121 7 = some s) (hmx : sh0 W H mx = some (100, 12)) (hwd : sh0 W H wd = some (100, 12)) (n1 : mx ≠ 1176) (n2 : wd ≠ 1176) (hnp : np ≤ 128) (hc : m0.1 (msA s j) 1 = nI np) : ∀ (d p fuel : Nat) (m : zMem), p + d = np → d < fuel → m.2 = m0.2 → (∀ a, a ≠ 1176 → m.1 a = m0.1 a) → (∀ q, q < p → ∀ k, k < 4 → m.1 1176 (4 * q + k) = (pnt m0.1 s mx wd (msA s j) q k).toInt32) → zok (L_XSight_standPoints_45 (sh0 W H) fuel 1121 (msA s j) mx wd (msA s j + 1) (nI p) m) (fun z => z.2.2.2.2.2.2.2 = m0.2 ∧ (∀ a, a ≠ 1176 → z.2.2.2.2.2.2.1 a = m0.1 a) ∧ ∀ q, q < np → ∀ k, k < 4 → z.2.2.2.2.2.2.1 1176 (4 * q + k) = (pnt m0.1 s mx wd (msA s j) q k).toInt32) := by
  have lt := s_lt hs
  have lm : msA s j + 4 < 1121 := by unfold msA; rcases hs with e | e | e <;> omega
  intro d
  induction d with
  | zero =>
    intro p fuel m hp hf q1 q2 q3
    obtain ⟨fu, rfl⟩ : ∃ fu, fuel = fu + 1 := ⟨fuel - 1, by omega⟩
    obtain rfl : p = np := by omega
    rw [L_XSight_standPoints_45, zoS_h (sh_msA hs hj), q2 _ (by omega), hc, if_pos (by rw [nI_leD (by omega) (by omega)]; omega)]
    exact zok_s ⟨q1, q2, q3⟩
  | succ d ih =>
    intro p fuel m hp hf q1 q2 q3
    obtain ⟨fu, rfl⟩ : ∃ fu, fuel = fu + 1 := ⟨fuel - 1, by omega⟩
    have hR : RF m.2.2 := by rw [q1]; exact hR0
    have h57 := e_spR (W := W) (H := H) (m := m) (ms := msA s j) (wd := wd) (mx := mx) (vs := msA s j + 1) (p := p) hR hmx (sh_msA1 hs hj) (by omega) n1 (by omega)
    generalize hA : apP (m64 (m.1 mx)) 0 (m.1 (msA s j + 1) (3 * p)).toInt64 (m.1 (msA s j + 1) (3 * p + 1)).toInt64 (m.1 (msA s j + 1) (3 * p + 2)).toInt64 = A at h57
    generalize hB : apP (m64 (m.1 mx)) 1 (m.1 (msA s j + 1) (3 * p)).toInt64 (m.1 (msA s j + 1) (3 * p + 1)).toInt64 (m.1 (msA s j + 1) (3 * p + 2)).toInt64 = B at h57
    generalize hC : apP (m64 (m.1 mx)) 2 (m.1 (msA s j + 1) (3 * p)).toInt64 (m.1 (msA s j + 1) (3 * p + 1)).toInt64 (m.1 (msA s j + 1) (3 * p + 2)).toInt64 = C at h57
    generalize hm1 : mI (mI (mI m 1176 (4 * p + 0) A.toInt32) 1176 (4 * p + 1) B.toInt32) 1176 (4 * p + 2) C.toInt32 = m1 at h57
    have e1 : m1.2 = m.2 := by rw [← hm1]; rfl
    have e2 : ∀ a, a ≠ 1176 → m1.1 a = m0.1 a := fun a ha => by rw [← hm1, mI_o ha, mI_o ha, mI_o ha, q2 a ha]
    have hR1 : RF m1.2.2 := by rw [e1]; exact hR
    have hlo := e_lightOf (W := W) (H := H) (m := m1) (s := s) (wd := wd) (nm := msA s j + 2) (t := 3 * p) hs hR1 (by rw [e1, q1]; exact h7) hwd (sh_msA2 hs hj) (by omega)
    rw [L_XSight_standPoints_45, zoS_h (sh_msA hs hj), q2 _ (by omega), hc, if_neg (by rw [nI_leD (by omega) (by omega)]; omega), zob_h h57]
    dsimp only
    rw [zoS_h sh_1121, zob_h (rf_1121_13 hR1), zoS_h (sh_msA hs hj), zob_h (rf_msA4 hR1 hs hj), zoS_h sh_1121, nI_3mul, zob_h hlo, nI_4mul, nI_p3, zoL_e, zoS_h sh_1176, nI_ix (by omega) (by decide), nI_cl (n := 4 * p + 3) (by omega), zoL_e, nI_p1]
    dsimp only
    have P : ∀ k, pnt m.1 s mx wd (msA s j) p k = pnt m0.1 s mx wd (msA s j) p k := fun k => pnt_c (q2 _ n1) (q2 _ n2) (q2 _ (by omega)) (q2 _ (by omega)) (q2 _ (by omega))
    have P1 : ∀ k, pnt m1.1 s mx wd (msA s j) p k = pnt m0.1 s mx wd (msA s j) p k := fun k => pnt_c (e2 _ n1) (e2 _ n2) (e2 _ (by omega)) (e2 _ (by omega)) (e2 _ (by omega))
    have pA : A = pnt m0.1 s mx wd (msA s j) p 0 := by rw [← P, ← hA]; unfold pnt; rw [if_pos (by decide)]
    have pB : B = pnt m0.1 s mx wd (msA s j) p 1 := by rw [← P, ← hB]; unfold pnt; rw [if_pos (by decide)]
    have pC : C = pnt m0.1 s mx wd (msA s j) p 2 := by rw [← P, ← hC]; unfold pnt; rw [if_pos (by decide)]
    have pD : lgC m1.1 s wd (msA s j + 2) (3 * p) = pnt m0.1 s mx wd (msA s j) p 3 := by
      rw [← P1]
      unfold pnt
      rw [if_neg (by decide)]
    rw [pD]
    clear hlo pD h57
    refine ih (p + 1) fu _ (by omega) (by omega) (e1.trans q1) (fun a ha => by rw [mI_o ha, e2 a ha]) (fun q hq k hk => ?_)
    rw [mI_v, if_pos rfl, ← hm1, mI_v, if_pos rfl, mI_v, if_pos rfl, mI_v, if_pos rfl]
    by_cases e : q = p
    · subst e
      rcases (show k = 0 ∨ k = 1 ∨ k = 2 ∨ k = 3 by omega) with rfl | rfl | rfl | rfl
      · rw [if_neg (by omega), if_neg (by omega), if_neg (by omega), if_pos rfl, pA]
      · rw [if_neg (by omega), if_neg (by omega), if_pos rfl, pB]
      · rw [if_neg (by omega), if_pos rfl, pC]
      · rw [if_pos rfl]
    · rw [if_neg (by omega), if_neg (by omega), if_neg (by omega), if_neg (by omega)]
      exact q3 q (by omega) k hk
end ZPT
