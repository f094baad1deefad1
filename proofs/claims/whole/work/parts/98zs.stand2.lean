/-! PURE: the class stands -/
section ZSS
variable {W H : Nat}
theorem mW_rt {f : Nat → Nat → Int32} {r i k : Nat} (hk : k < 12) : (mW f r i k).toInt32.toInt64 = mW f r i k := pM_rt hk
/-- the sight before node i is looked at -/
def st36 (s r i : Nat) (m0 m : zMem) : Prop := m.2 = m0.2 ∧ (∀ a, a ≠ 1121 → a ≠ 1175 → ¬ (1127 ≤ a ∧ a < 1175) → m.1 a = m0.1 a) ∧ (∀ c, c ≠ 11 → m.1 1121 c = m0.1 1121 c) ∧ m.1 1121 11 = nI (ordS (fun a => m0.1 (r + a)) (visN m0.1 r) (fun k => mW m0.1 r k 11) i).1 ∧ (∀ k, k < (ordS (fun a => m0.1 (r + a)) (visN m0.1 r) (fun k => mW m0.1 r k 11) i).1 → m.1 1175 k = nI ((ordS (fun a => m0.1 (r + a)) (visN m0.1 r) (fun k => mW m0.1 r k 11) i).2 k)) ∧ sgt m.1 (mW m0.1 r) (visN m0.1 r) i
set_option maxHeartbeats 4000000 in
theorem e_st36 {s r : Nat} {m0 : zMem} (hs : gS s) (hr : gM r) (hR0 : RF m0.2.2) (h7 : m0.2.2 1121 7 = some s) (h : Cls m0.1 s (fun a => m0.1 (r + a))) (hP : Plc m0.1 s r (cn (fun a => m0.1 (r + a)) 3)) (hV : ∀ k, k < 12 → m0.1 1125 k = (vW m0.1 r k).toInt32) : ∀ (d i fuel : Nat) (m : zMem), i + d = cn (fun a => m0.1 (r + a)) 3 → d < fuel → st36 s r i m0 m → zok (L_XSight_stand_36 (sh0 W H) fuel 1121 (nI i) m) (fun q => st36 s r (cn (fun a => m0.1 (r + a)) 3) m0 q.2.2) := by
  have N := Wsc_n h.1
  obtain ⟨hpar, _, _⟩ := Wsc_p h.1
  have c3 : m0.1 (s + 1) 3 = nI (cn (fun a => m0.1 (r + a)) 3) := (h.2.1 3 (by decide)).trans (h.1.1 3 (by decide)).1
  have lt := s_lt hs
  intro d
  induction d with
  | zero =>
    intro i fuel m hi hf hI
    obtain ⟨fu, rfl⟩ : ∃ fu, fuel = fu + 1 := ⟨fuel - 1, by omega⟩
    have hR : RF m.2.2 := by rw [hI.1]; exact hR0
    rw [L_XSight_stand_36, zoS_h sh_1121, zob_h (show m.2.2 1121 7 = some s by rw [hI.1]; exact h7), zoS_h (sh_s0 hs), zob_h (rf_s0 hR hs), zoS_h (sh_s1 hs), if_neg (by decide), show (3 : Int32).toNatClampNeg = 3 from rfl, hI.2.1 (s + 1) (by omega) (by omega) (by omega), c3, if_pos (by rw [nI_leD (by omega) (by omega)]; omega)]
    obtain rfl : i = cn (fun a => m0.1 (r + a)) 3 := by omega
    exact zok_s hI
  | succ d ih =>
    intro i fuel m hi hf hI
    obtain ⟨fu, rfl⟩ : ∃ fu, fuel = fu + 1 := ⟨fuel - 1, by omega⟩
    have hI' := hI
    obtain ⟨i1, i2, i3, i4, i5, i6⟩ := hI
    have hR : RF m.2.2 := by rw [i1]; exact hR0
    have h7m : m.2.2 1121 7 = some s := by rw [i1]; exact h7
    have hi48 : i < 48 := by omega
    have hin : i < cn (fun a => m0.1 (r + a)) 3 := by omega
    have end_ : ndA s i + 2 < 1121 ∧ 11 ≤ ndA s i := by rcases hs with e | e | e <;> (unfold ndA; omega)
    obtain ⟨p1, p2⟩ := hP i hin
    obtain ⟨_, n2, _⟩ := h.2.2.2.2.1 i hin
    have n2' : m0.1 (ndA s i) 1 = m0.1 (r + 16) i := n2
    have e0 : (0 : Int32).toInt = 0 := rfl
    have hvis : visN m0.1 r i = (decide (0 ≤ (m0.1 (r + 16) i).toInt) && shn m0.1 r i) := rfl
    rw [L_XSight_stand_36, zoS_h sh_1121, zob_h h7m, zoS_h (sh_s0 hs), zob_h (rf_s0 hR hs), zoS_h (sh_s1 hs), if_neg (by decide), show (3 : Int32).toNatClampNeg = 3 from rfl, i2 (s + 1) (by omega) (by omega) (by omega), c3, if_neg (by rw [nI_leD (by omega) (by omega)]; omega), zoS_h sh_1121, zob_h h7m, zoS_h (sh_s0 hs), zob_h (rf_s4 hR hs), zoR_h (sh_s21 hs) (by decide), nI_ix hi48 (by decide), nI_cl (n := i) (by omega), zob_h (rf_nd hR hs hi48), zoS_h (sh_ndA hs hi48), i2 (ndA s i) (by omega) (by omega) (by omega), p1]
    have skip : visN m0.1 r i = false → zok (L_XSight_stand_36 (sh0 W H) fu 1121 (nI i + 1) m) (fun q => st36 s r (cn (fun a => m0.1 (r + a)) 3) m0 q.2.2) := fun hv => by
      have hOS : ordS (fun a => m0.1 (r + a)) (visN m0.1 r) (fun k => mW m0.1 r k 11) (i + 1) = ordS (fun a => m0.1 (r + a)) (visN m0.1 r) (fun k => mW m0.1 r k 11) i := by rw [ordS, if_neg (by rw [hv]; decide)]
      rw [nI_p1]
      refine ih (i + 1) fu m (by omega) (by omega) ⟨i1, i2, i3, by rw [hOS]; exact i4, by rw [hOS]; exact i5, fun j hj hvj k hk => ?_⟩
      by_cases e : j = i
      · rw [e, hv] at hvj; exact absurd hvj (by decide)
      · exact i6 j (by omega) hvj k hk
    by_cases hsh : shn m0.1 r i = true
    rotate_left
    · rw [if_pos (b32_0.mpr (by simpa using hsh))]
      exact skip (by rw [hvis]; simp [hsh])
    rw [if_neg (by rw [hsh]; decide), zoS_h (sh_ndA hs hi48), n2']
    by_cases hms : 0 ≤ (m0.1 (r + 16) i).toInt
    rotate_left
    · rw [if_pos (by rw [i32_lt, e0]; omega)]
      exact skip (by rw [hvis]; simp [hms])
    have hv : visN m0.1 r i = true := by rw [hvis]; simp [hms, hsh]
    have hml := e_mulc (sh := sh0 W H) (mm := m) (a := 1125) (b := ndA s i + 2) (t := 1127 + i) sh_1125 (sh_ndA2 hs hi48) (sh_sg hi48) (by omega) (by omega)
    rw [if_neg (by rw [i32_lt, e0]; omega), zoS_h sh_1121, zob_h (rf_1121_8 hR), zoS_h (sh_ndA hs hi48), zob_h (rf_ndA5 hR hs hi48), zoS_h sh_1121, zob_h (rf_1121_9 hR), zoR_h sh_1126 (by decide), if_neg (fun q => q.elim (nI_pos (by omega)) (by omega)), zob_h (rf_1126 hR hi48), zob_h hml, zoS_h sh_1121]
    generalize hm1 : sI m (1127 + i) (fun k => if k < 12 then (pT (m64 (m.1 1125)) (m64 (m.1 (ndA s i + 2))) (k / 4) (k % 4)).toInt32 else m.1 (1127 + i) k) = m1
    have m1v : ∀ k, k < 12 → m1.1 (1127 + i) k = (mW m0.1 r i k).toInt32 := fun k hk => by
      rw [← hm1, sI_at, if_pos hk]
      congr 1
      unfold mW pM
      rw [if_pos hk]
      refine pT_c (fun q hq => ?_) (fun q hq => ?_) (by omega) (by omega)
      · show (m.1 1125 q).toInt64 = _
        rw [i2 1125 (by decide) (by decide) (by decide), hV q hq, vW_rt]
      · show (m.1 (ndA s i + 2) q).toInt64 = _
        rw [i2 _ (by omega) (by omega) (by omega), p2 q hq, wW_rt hpar hin hq]
    have m1o : ∀ a, a ≠ 1127 + i → m1.1 a = m.1 a := fun a ha => by rw [← hm1, sI_ne ha]
    have m12 : m1.2 = m.2 := by rw [← hm1]; rfl
    have hR1 : RF m1.2.2 := by rw [m12]; exact hR
    have hsg1 : sgt m1.1 (mW m0.1 r) (visN m0.1 r) (i + 1) := fun j hj hvj k hk => by
      by_cases e : j = i
      · rw [e, m1v k hk]; exact ⟨rfl, mW_rt hk⟩
      · rw [m1o _ (by omega)]; exact i6 j (by omega) hvj k hk
    have hob := ord_b (g := fun a => m0.1 (r + a)) (vis := visN m0.1 r) (ky := fun k => mW m0.1 r k 11) i
    have hCl1 : Cls m1.1 s (fun a => m0.1 (r + a)) := Cls_c hs (fun b b1 b2 => by rw [m1o b (by omega), i2 b (by omega) (by omega) (by omega)]) h
    have hOS2 : ordS (fun a => m0.1 (r + a)) (visN m0.1 r) (fun k => mW m0.1 r k 11) (i + 1) = ((ordS (fun a => m0.1 (r + a)) (visN m0.1 r) (fun k => mW m0.1 r k 11) i).1 + 1, insF (ordS (fun a => m0.1 (r + a)) (visN m0.1 r) (fun k => mW m0.1 r k 11) i).2 (ip (fun k => ahd (fun a => m0.1 (r + a)) (fun k => mW m0.1 r k 11) i ((ordS (fun a => m0.1 (r + a)) (visN m0.1 r) (fun k => mW m0.1 r k 11) i).2 k)) (ordS (fun a => m0.1 (r + a)) (visN m0.1 r) (fun k => mW m0.1 r k 11) i).1) i) := by rw [ordS, if_pos hv]
    generalize ordS (fun a => m0.1 (r + a)) (visN m0.1 r) (fun k => mW m0.1 r k 11) i = OS at i4 i5 hob hOS2
    unfold F_XSight_queue
    rw [zoS_h sh_1121, zoL_e, m1o 1121 (by omega), i4]
    have hq5 := e_qu5 (W := W) (H := H) (m0 := m1) (s := s) (nd := i) (n := OS.1) (N := i + 1) (l := OS.2) (g := fun a => m0.1 (r + a)) (mw := mW m0.1 r) (vis := visN m0.1 r) hs hR1 (by rw [m12]; exact h7m) hCl1 (by omega) (by omega) hsg1 (by omega) hv hms (fun k hk => ⟨(hob.2 k hk).1, (hob.2 k hk).2, vis_m (hob.2 k hk).2⟩) (by omega) OS.1 zfuel m1 (Nat.le_refl _) (zf_lt (by omega)) rfl (fun _ _ => rfl) (fun k hk => by rw [m1o 1175 (by omega)]; exact i5 k hk) (fun k k1 k2 => by omega)
    have hpl := ip_le (q := fun k => ahd (fun a => m0.1 (r + a)) (fun k => mW m0.1 r k 11) i (OS.2 k)) OS.1
    generalize ip (fun k => ahd (fun a => m0.1 (r + a)) (fun k => mW m0.1 r k 11) i (OS.2 k)) OS.1 = P at hq5 hpl hOS2
    obtain ⟨⟨z0, z1, z2, m2⟩, za, zb, zc, zd, ze, zf, zg, zh⟩ := hq5
    simp only at zb zc zd ze zf zg zh
    subst zb zc zd
    have hR2 : RF m2.2.2 := by rw [ze]; exact hR1
    rw [zob_h za]
    dsimp only
    rw [zoS_h sh_1121, zob_h (rf_1121_10 hR2), zoS_h sh_1175, nI_ix (by omega) (by decide), nI_cl (n := P) (by omega), zoL_e, zoS_h sh_1121, zoL_e, mI_o (show (1121 : Nat) ≠ 1175 by decide), zf 1121 (by decide), m1o 1121 (by omega), i4, nI_p1, zoS_h sh_1121, zoL_e, zob_e, nI_p1]
    refine ih (i + 1) fu _ (by omega) (by omega) ⟨by show m2.2 = _; rw [ze, m12, i1], fun a a1 a2 a3 => by rw [mI_o a1, mI_o a2, zf a a2, m1o a (by omega), i2 a a1 a2 a3], fun c hc => by rw [mI_v, if_pos rfl, if_neg hc, mI_o (by decide), zf 1121 (by decide), m1o 1121 (by omega), i3 c hc], by rw [mI_v, if_pos rfl, if_pos rfl, hOS2], fun k hk => ?_, fun j hj hvj k hk => ?_⟩
    · rw [hOS2] at hk ⊢
      have hk : k < OS.1 + 1 := hk
      show _ = nI (insF OS.2 P i k)
      unfold insF
      rw [mI_o (by decide), mI_v, if_pos rfl]
      by_cases a : k < P
      · rw [if_neg (by omega), if_pos a, zg k a]
      · by_cases b : k = P
        · rw [if_pos b, if_neg a, if_pos b]
        · rw [if_neg b, if_neg a, if_neg b, zh k (by omega) (by omega)]
    · rw [mI_o (by omega), mI_o (by omega), zf _ (by omega)]
      exact hsg1 j hj hvj k hk
end ZSS
