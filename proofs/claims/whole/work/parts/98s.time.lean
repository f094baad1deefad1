/-! PURE: tracks in both programs -/
section ZTK
variable {W H : Nat}
theorem e_ka {s k nk : Nat} {m : zMem} {t : Int32} (hs : gS s) (hk : k < 32) (hR : RF m.2.2) (h3 : m.1 (tkA s k) 3 = nI nk) (hnk : nk ≤ 32) : ∀ d j fuel v2, j + d = nk → d < fuel → L_XTrack_keyAt_4 (sh0 W H) fuel (tkA s k) t v2 (nI j) m = some (tkA s k, t, (if nxF (m.1 (tkA s k + 1)) t d j = j then v2 else nI (nxF (m.1 (tkA s k + 1)) t d j - 1)), nI (nxF (m.1 (tkA s k + 1)) t d j), m) := by
  intro d
  induction d with
  | zero =>
    intro j fuel v2 hj hf
    obtain ⟨fu, rfl⟩ : ∃ fu, fuel = fu + 1 := ⟨fuel - 1, by omega⟩
    rw [L_XTrack_keyAt_4, zoS_h (sh_tkA hs hk), h3, if_pos (by rw [nI_leD (by omega) (by omega)]; omega)]
    rw [nxF, if_pos rfl]
  | succ d ih =>
    intro j fuel v2 hj hf
    obtain ⟨fu, rfl⟩ : ∃ fu, fuel = fu + 1 := ⟨fuel - 1, by omega⟩
    rw [L_XTrack_keyAt_4, zoS_h (sh_tkA hs hk), h3, if_neg (by rw [nI_leD (by omega) (by omega)]; omega), zoS_h (sh_tkA hs hk), zob_h (rf_tkA4 hR hs hk), zoS_h (sh_tkA1 hs hk), nI_ix (by omega) (by decide), nI_cl (by omega), nxF]
    by_cases e : t < m.1 (tkA s k + 1) j
    · rw [if_pos e, if_pos e, if_pos rfl]
    · rw [if_neg e, if_neg e, nI_p1, ih (j + 1) fu (nI j) (by omega) (by omega)]
      have g := (nxF_g (tm := m.1 (tkA s k + 1)) (t := t) d (j + 1)).1
      rw [if_neg (show ¬ nxF (m.1 (tkA s k + 1)) t d (j + 1) = j by omega)]
      by_cases e2 : nxF (m.1 (tkA s k + 1)) t d (j + 1) = j + 1
      · rw [if_pos e2, e2]
        rfl
      · rw [if_neg e2]
theorem e_key {s k nk : Nat} {m : zMem} {t : Int32} (hs : gS s) (hk : k < 32) (hR : RF m.2.2) (h3 : m.1 (tkA s k) 3 = nI nk) (hnk : nk ≤ 32) : F_XTrack_keyAt (sh0 W H) m (tkA s k) t = some ((if nxF (m.1 (tkA s k + 1)) t nk 0 = 0 then -1 else nI (nxF (m.1 (tkA s k + 1)) t nk 0 - 1)), m) := by
  unfold F_XTrack_keyAt
  rw [show (0 : Int32) = nI 0 from rfl, e_ka hs hk hR h3 hnk nk 0 zfuel (-1) (by omega) (zf_lt (by omega)), zob_e]
set_option maxHeartbeats 4000000 in
theorem e_val {s k nk c : Nat} {m : zMem} {t : Int32} (hs : gS s) (hk : k < 32) (hR : RF m.2.2) (h3 : m.1 (tkA s k) 3 = nI nk) (h1 : 1 ≤ nk) (hnk : nk ≤ 32) (hc : c < 3) (ht : 0 ≤ t.toInt ∧ t.toInt ≤ 1000000) (hT : ∀ j, j < nk → 0 ≤ (m.1 (tkA s k + 1) j).toInt ∧ (m.1 (tkA s k + 1) j).toInt ≤ 1000000) (hV : ∀ j, j < 3 * nk → -4194304 ≤ (m.1 (tkA s k + 2) j).toInt ∧ (m.1 (tkA s k + 2) j).toInt ≤ 4194304) : F_XTrack_valueAt (sh0 W H) m (tkA s k) t (if nxF (m.1 (tkA s k + 1)) t nk 0 = 0 then -1 else nI (nxF (m.1 (tkA s k + 1)) t nk 0 - 1)) (nI c) = some (vAt (m.1 (tkA s k + 1)) (m.1 (tkA s k + 2)) (m.1 (tkA s k) 2) nk t c, m) := by
  unfold vAt
  obtain ⟨g1, g2⟩ := nxF_g (tm := m.1 (tkA s k + 1)) (t := t) nk 0
  obtain ⟨l1, l2⟩ := nxF_lt (tm := m.1 (tkA s k + 1)) (t := t) nk 0
  generalize nxF (m.1 (tkA s k + 1)) t nk 0 = x at g1 g2 l1 l2
  unfold F_XTrack_valueAt
  by_cases e0 : x = 0
  · rw [if_pos e0, if_pos e0, zoS_h (sh_tkA hs hk), zob_h (rf_tkA5 hR hs hk), zoL_e, show zx_max (-1) 0 = 0 from by decide, show 3 * (0 : Int32) + nI c = nI c from by rw [show 3 * (0 : Int32) = nI 0 from rfl]; exact (Int32.ofNat_add 0 c).symm.trans (by rw [Nat.zero_add]; rfl), zoS_h (sh_tkA2 hs hk), nI_ix (by omega) (by decide), nI_cl (by omega), zoL_e, if_pos (by decide)]
  · rw [if_neg e0, if_neg e0]
    have hmx : zx_max (nI (x - 1)) 0 = nI (x - 1) := by
      unfold zx_max
      exact if_neg (nI_pos (by omega))
    have i1 : 3 * nI (x - 1) + nI c = nI (3 * (x - 1) + c) := nI_3 _ _
    have i2 : nI (x - 1) + 1 = nI x := by rw [nI_p1, show x - 1 + 1 = x by omega]
    have i3 : 3 * nI x + nI c = nI (3 * x + c) := nI_3 _ _
    rw [hmx, i2, i1, i3, zoS_h (sh_tkA hs hk), zob_h (rf_tkA5 hR hs hk), zoL_e, zoS_h (sh_tkA2 hs hk), nI_ix (by omega) (by decide), nI_cl (by omega), zoL_e, if_neg (nI_pos (by omega)), zoS_h (sh_tkA hs hk), h3]
    by_cases e1 : x = nk
    · rw [if_pos e1, if_pos (by rw [nI_leD (by omega) (by omega)]; omega), e1]
    · rw [if_neg e1, if_neg (by rw [nI_leD (by omega) (by omega)]; omega), zoS_h (sh_tkA hs hk)]
      unfold btw
      by_cases c0 : m.1 (tkA s k) 2 = 0
      · rw [if_pos c0, if_pos c0]
      rw [if_neg c0, if_neg c0]
      have p1 := l1 (x - 1) (by omega) (by omega)
      have p2 := l2 (by omega)
      rw [i32_lt] at p1 p2
      have t1 := hT (x - 1) (by omega)
      have t2 := hT x (by omega)
      have v1 := hV (3 * (x - 1) + c) (by omega)
      have v2 := hV (3 * x + c) (by omega)
      rw [zoS_h (sh_tkA hs hk), zob_h (rf_tkA5 hR hs hk), zoL_e, zoS_h (sh_tkA2 hs hk), nI_ix (by omega) (by decide), nI_cl (by omega), zoL_e, zoS_h (sh_tkA hs hk), zob_h (rf_tkA4 hR hs hk), zoS_h (sh_tkA1 hs hk), nI_ix (by omega) (by decide), nI_cl (by omega), zoL_e, zoS_h (sh_tkA hs hk), zob_h (rf_tkA4 hR hs hk), zoL_e, zoS_h (sh_tkA1 hs hk), nI_ix (by omega) (by decide), nI_cl (by omega), zoS_h (sh_tkA hs hk), zob_h (rf_tkA4 hR hs hk), zoS_h (sh_tkA1 hs hk), if_neg (fun q => q.elim (nI_pos (by omega)) (by omega)), zoL_e, zoS_h (sh_tkA hs hk)]
      have u3 : (m.1 (tkA s k + 1) x - m.1 (tkA s k + 1) (x - 1)).toInt64 = (m.1 (tkA s k + 1) x).toInt64 - (m.1 (tkA s k + 1) (x - 1)).toInt64 := sub64 (by omega) (by omega)
      have u1 : (m.1 (tkA s k + 2) (3 * x + c) - m.1 (tkA s k + 2) (3 * (x - 1) + c)).toInt64 = (m.1 (tkA s k + 2) (3 * x + c)).toInt64 - (m.1 (tkA s k + 2) (3 * (x - 1) + c)).toInt64 := sub64 (by omega) (by omega)
      have u2 : (t - m.1 (tkA s k + 1) (x - 1)).toInt64 = t.toInt64 - (m.1 (tkA s k + 1) (x - 1)).toInt64 := sub64 (by omega) (by omega)
      have hpos : 0 < ((m.1 (tkA s k + 1) x).toInt64 - (m.1 (tkA s k + 1) (x - 1)).toInt64).toInt := by
        have ee := Int32.toInt_toInt64 (m.1 (tkA s k + 1) x)
        have es := Int32.toInt_toInt64 (m.1 (tkA s k + 1) (x - 1))
        rw [i64_sub (by rw [ee, es]; omega) (by rw [ee, es]; omega), ee, es]
        omega
      rw [u1, u2, u3]
      by_cases c1 : m.1 (tkA s k) 2 = 1
      · rw [if_pos c1, if_pos c1, zx_div_pos hpos]
      · rw [if_neg c1, if_neg c1, zoL_e, zoL_e, zx_div_pos hpos, zx_mul_fdiv, zx_mul_fdiv, zx_mul_fdiv]
/-- the class applies a track -/
theorem e_app {s k nk w nd : Nat} {m : zMem} {t : Int32} {V : Nat → Int32} (hs : gS s) (hk : k < 32) (hw : w < 3) (hnd : nd < 48) (hR : RF m.2.2) (h1w : m.1 (tkA s k) 1 = nI w) (h3 : m.1 (tkA s k) 3 = nI nk) (h1 : 1 ≤ nk) (hnk : nk ≤ 32) (ht : 0 ≤ t.toInt ∧ t.toInt ≤ 1000000) (hT : ∀ j, j < nk → 0 ≤ (m.1 (tkA s k + 1) j).toInt ∧ (m.1 (tkA s k + 1) j).toInt ≤ 1000000) (hV : ∀ j, j < 3 * nk → -4194304 ≤ (m.1 (tkA s k + 2) j).toInt ∧ (m.1 (tkA s k + 2) j).toInt ≤ 4194304) (hVV : ∀ c, c < 3 → vAt (m.1 (tkA s k + 1)) (m.1 (tkA s k + 2)) (m.1 (tkA s k) 2) nk t c = V c) : F_XTrack_apply (sh0 W H) m (tkA s k) t (ndA s nd + 1) = some (mI (mI (mI m (ndA s nd + 1) (3 * w) (V 0)) (ndA s nd + 1) (3 * w + 1) (V 1)) (ndA s nd + 1) (3 * w + 2) (V 2)) := by
  have far : ∀ e, e < 3 → tkA s k + e ≠ ndA s nd + 1 := fun e he => by unfold tkA ndA; omega
  have f0 : tkA s k ≠ ndA s nd + 1 := far 0 (by decide)
  have step : ∀ (m' : zMem) (c fu : Nat), c < 3 → m'.2 = m.2 → m'.1 (tkA s k) = m.1 (tkA s k) → m'.1 (tkA s k + 1) = m.1 (tkA s k + 1) → m'.1 (tkA s k + 2) = m.1 (tkA s k + 2) → L_XTrack_apply_9 (sh0 W H) (fu + 1) (tkA s k) t (ndA s nd + 1) (if nxF (m.1 (tkA s k + 1)) t nk 0 = 0 then -1 else nI (nxF (m.1 (tkA s k + 1)) t nk 0 - 1)) (nI c) m' = L_XTrack_apply_9 (sh0 W H) fu (tkA s k) t (ndA s nd + 1) (if nxF (m.1 (tkA s k + 1)) t nk 0 = 0 then -1 else nI (nxF (m.1 (tkA s k + 1)) t nk 0 - 1)) (nI (c + 1)) (mI m' (ndA s nd + 1) (3 * w + c) (V c)) := fun m' c fu hc q0 q1 q2 q3 => by
    have hv := e_val (W := W) (H := H) (m := m') (c := c) (t := t) hs hk (by rw [q0]; exact hR) (by rw [q1]; exact h3) h1 hnk hc ht (by rw [q2]; exact hT) (by rw [q3]; exact hV)
    rw [q2, q3, q1, hVV c hc] at hv
    conv => lhs; unfold L_XTrack_apply_9
    rw [if_neg (by rw [show (3 : Int32) = nI 3 from rfl, nI_leD (by omega) (by omega)]; omega), zoS_h (sh_tkA hs hk), zoS_h (sh_tkA hs hk), zob_h hv, zoL_e, q1, h1w, nI_3, zoS_h (sh_ndA1 hs hnd), nI_ix (by omega) (by decide), nI_cl (by omega), zoL_e, nI_p1]
  unfold F_XTrack_apply
  rw [zoS_h (sh_tkA hs hk), zob_h (e_key hs hk hR h3 hnk), show zfuel = 999996 + 1 + 1 + 1 + 1 from nrfl rfl, show (0 : Int32) = nI 0 from rfl, step m 0 _ (by decide) rfl rfl rfl rfl]
  rw [step (mI m (ndA s nd + 1) (3 * w + 0) (V 0)) 1 _ (by decide) rfl (mI_o f0) (mI_o (far 1 (by decide))) (mI_o (far 2 (by decide)))]
  rw [step (mI (mI m (ndA s nd + 1) (3 * w + 0) (V 0)) (ndA s nd + 1) (3 * w + 1) (V 1)) 2 _ (by decide) rfl (by rw [mI_o f0, mI_o f0]) (by rw [mI_o (far 1 (by decide)), mI_o (far 1 (by decide))]) (by rw [mI_o (far 2 (by decide)), mI_o (far 2 (by decide))])]
  rw [L_XTrack_apply_9, if_pos (by decide), zob_e]
  rfl
/-- the reference's tracks -/
theorem e_fo {k nk : Nat} {m : zMem} {t : Int32} (hk : k < 32) (hR : RF m.2.2) (hnk : nk ≤ 32) : ∀ d j fuel, j + d = nk → d < fuel → L_MScene_follow_10 (sh0 W H) fuel 1187 (nI k) t (nI nk) (nI j) m = some (1187, nI k, t, nI nk, nI (nxF (fun j => m.1 (1187 + 25) (32 * k + j)) t d j), m) := by
  have hM : gM 1187 := Or.inl rfl
  intro d
  induction d with
  | zero =>
    intro j fuel hj hf
    obtain ⟨fu, rfl⟩ : ∃ fu, fuel = fu + 1 := ⟨fuel - 1, by omega⟩
    rw [L_MScene_follow_10, if_pos (by rw [nI_leD (by omega) (by omega)]; omega)]
    rfl
  | succ d ih =>
    intro j fuel hj hf
    obtain ⟨fu, rfl⟩ : ∃ fu, fuel = fu + 1 := ⟨fuel - 1, by omega⟩
    have ix : 32 * nI k + nI j = nI (32 * k + j) := by
      rw [show (32 : Int32) = nI 32 from rfl, nI_mul]
      exact (Int32.ofNat_add _ _).symm
    rw [L_MScene_follow_10, if_neg (by rw [nI_leD (by omega) (by omega)]; omega), zoS_h (sh_m0 hM), zob_h (rf_m29 hR hM), zoL_e, ix, zoS_h (sh_m25 hM), nI_ix (by omega) (by decide), nI_cl (by omega), nxF]
    by_cases e : t < m.1 (1187 + 25) (32 * k + j)
    · rw [if_pos e, if_pos e]
    · rw [if_neg e, if_neg e, nI_p1, ih (j + 1) fu (by omega) (by omega)]
set_option maxHeartbeats 4000000 in
theorem e_btw {k x c : Nat} {m : zMem} {t : Int32} (hk : k < 32) (hR : RF m.2.2) (hx : 0 < x) (hx2 : x < 32) (hc : c < 3) (h0 : 0 ≤ (m.1 (1187 + 25) (32 * k + (x - 1))).toInt) (h1 : (m.1 (1187 + 25) (32 * k + (x - 1))).toInt ≤ t.toInt) (h2 : t.toInt < (m.1 (1187 + 25) (32 * k + x)).toInt) (h3 : (m.1 (1187 + 25) (32 * k + x)).toInt ≤ 1000000) : F_MScene_between (sh0 W H) m 1187 (nI k) (nI x) (nI c) t = some (btw (m.1 (1187 + 25) (32 * k + (x - 1))) (m.1 (1187 + 25) (32 * k + x)) (m.1 (1187 + 26) (96 * k + (3 * (x - 1) + c))) (m.1 (1187 + 26) (96 * k + (3 * x + c))) (m.1 (1187 + 23) k) t, m) := by
  have hM : gM 1187 := Or.inl rfl
  have i0 : 32 * nI k + nI x = nI (32 * k + x) := by
    rw [show (32 : Int32) = nI 32 from rfl, nI_mul]
    exact (Int32.ofNat_add _ _).symm
  have i1 : nI (32 * k + x) - 1 = nI (32 * k + (x - 1)) := i32_ext (by
    have e1 : (1 : Int32).toInt = 1 := rfl
    rw [i32_sub (by rw [nI_toInt (by omega), e1]; omega) (by rw [nI_toInt (by omega), e1]; omega), nI_toInt (by omega), nI_toInt (by omega), e1]
    omega)
  have ix : nI x - 1 = nI (x - 1) := i32_ext (by
    have e1 : (1 : Int32).toInt = 1 := rfl
    rw [i32_sub (by rw [nI_toInt (by omega), e1]; omega) (by rw [nI_toInt (by omega), e1]; omega), nI_toInt (by omega), nI_toInt (by omega), e1]
    omega)
  have a96 : ∀ y, 96 * nI k + 3 * nI y + nI c = nI (96 * k + (3 * y + c)) := fun y => by
    rw [show (96 : Int32) = nI 96 from rfl, show (3 : Int32) = nI 3 from rfl, nI_mul, nI_mul]
    have q1 : nI (96 * k) + nI (3 * y) = nI (96 * k + 3 * y) := (Int32.ofNat_add _ _).symm
    have q2 : nI (96 * k + 3 * y) + nI c = nI (96 * k + 3 * y + c) := (Int32.ofNat_add _ _).symm
    rw [q1, q2, Nat.add_assoc]
  have hpos : 0 < ((m.1 (1187 + 25) (32 * k + x)).toInt64 - (m.1 (1187 + 25) (32 * k + (x - 1))).toInt64).toInt := by
    have ee := Int32.toInt_toInt64 (m.1 (1187 + 25) (32 * k + x))
    have es := Int32.toInt_toInt64 (m.1 (1187 + 25) (32 * k + (x - 1)))
    rw [i64_sub (by rw [ee, es]; omega) (by rw [ee, es]; omega), ee, es]
    omega
  have fd : ∀ y : Int64, F_JMath_floorDiv (sh0 W H) m y ((m.1 (1187 + 25) (32 * k + x)).toInt64 - (m.1 (1187 + 25) (32 * k + (x - 1))).toInt64) = some (zx_fdiv y ((m.1 (1187 + 25) (32 * k + x)).toInt64 - (m.1 (1187 + 25) (32 * k + (x - 1))).toInt64), m) := fun y => by
    unfold F_JMath_floorDiv
    exact if_neg (i64_ne0 hpos)
  unfold F_MScene_between btw
  rw [zoS_h (sh_m0 hM), zob_h (rf_m29 hR hM), zoL_e, i0, i1, ix, a96, a96, zoS_h (sh_m25 hM), nI_ix (by omega) (by decide), nI_cl (by omega), zoL_e, zoS_h (sh_m0 hM), zob_h (rf_m29 hR hM), zoL_e, zoS_h (sh_m25 hM), nI_ix (by omega) (by decide), nI_cl (by omega), zoL_e, zoS_h (sh_m0 hM), zob_h (rf_m30 hR hM), zoL_e, zoS_h (sh_m26 hM), nI_ix (by omega) (by decide), nI_cl (by omega), zoL_e, zoS_h (sh_m0 hM), zob_h (rf_m30 hR hM), zoL_e, zoS_h (sh_m26 hM), nI_ix (by omega) (by decide), nI_cl (by omega), zoL_e, zoS_h (sh_m0 hM), zob_h (rf_m27 hR hM), zoS_h (sh_m23 hM), nI_ix (by omega) (by decide), nI_cl (by omega)]
  by_cases c0 : m.1 (1187 + 23) k = 0
  · rw [if_pos c0, if_pos c0, i32_rt]
  · rw [if_neg c0, if_neg c0, zoS_h (sh_m0 hM), zob_h (rf_m27 hR hM), zoS_h (sh_m23 hM), if_neg (fun q => q.elim (nI_pos (by omega)) (by omega))]
    by_cases c1 : m.1 (1187 + 23) k = 1
    · rw [if_pos c1, if_pos c1, zoL_e, zob_h (fd _)]
    · rw [if_neg c1, if_neg c1, zoL_e, zob_h (fd _), zoL_e, zoL_e]
end ZTK
