/-! PURE: a texture and its levels, the class's way -/
theorem e_halve_18 {W H s i : Nat} (hs : gS s) (hi : i < 8) {fr hf to j : Nat} (hfr : fr + 4 * hf * hf ≤ to) (hto : to + hf * hf ≤ 1365) (hj : j < hf) : ∀ (d x fuel : Nat) (mm : zMem), x + d = hf → d < fuel → RF mm.2.2 → L_XTexture_halve_18 (sh0 W H) fuel (txA s i) (nI fr) (nI (2 * hf)) (nI to) (nI hf) (nI j) (nI x) mm = some (txA s i, nI fr, nI (2 * hf), nI to, nI hf, nI j, nI hf, sI mm (txA s i + 1) (fun k => if to + j * hf + x ≤ k ∧ k < to + j * hf + hf then mnF (mm.1 (txA s i + 1) (fr + 2 * j * (2 * hf) + 2 * (k - (to + j * hf)))) (mm.1 (txA s i + 1) (fr + 2 * j * (2 * hf) + 2 * (k - (to + j * hf)) + 1)) (mm.1 (txA s i + 1) (fr + 2 * j * (2 * hf) + 2 * (k - (to + j * hf)) + 2 * hf)) (mm.1 (txA s i + 1) (fr + 2 * j * (2 * hf) + 2 * (k - (to + j * hf)) + 2 * hf + 1)) else mm.1 (txA s i + 1) k)) := by
  have hb1 : j * hf + hf ≤ hf * hf := by
    have := Nat.mul_le_mul_right hf (show j + 1 ≤ hf by omega)
    rw [Nat.add_mul] at this
    omega
  have e4 : 2 * j * (2 * hf) = 4 * (j * hf) := by
    rw [Nat.mul_assoc, Nat.mul_left_comm j 2 hf, ← Nat.mul_assoc]
  rw [Nat.mul_assoc] at hfr
  intro d
  induction d with
  | zero =>
    intro x fuel mm hx hf2 hR
    obtain ⟨fu, rfl⟩ : ∃ fu, fuel = fu + 1 := ⟨fuel - 1, by omega⟩
    obtain rfl : x = hf := by omega
    simp only [L_XTexture_halve_18]
    rw [if_pos (Int32.le_refl _)]
    refine congrArg (fun z => some (txA s i, nI fr, nI (2 * x), nI to, nI x, nI j, nI x, z)) ?_
    rw [sI_to (h := mm.1 (txA s i + 1)) (fun k => if_neg (by omega)), sI_id]
  | succ d ih =>
    intro x fuel mm hx hf2 hR
    obtain ⟨fu, rfl⟩ : ∃ fu, fuel = fu + 1 := ⟨fuel - 1, by omega⟩
    have hxl : ¬ hf ≤ x := by omega
    have hsz : hf * hf < 1366 := by omega
    simp (disch := first | assumption | omega) only [L_XTexture_halve_18, ↓zS_s0, ↓zS_s1, ↓zS_s2, ↓zS_s3, ↓zS_s20, ↓zS_s21, ↓zS_s22, ↓zS_s23, ↓zS_s24, ↓zS_s25, ↓zS_smt, ↓zS_txA, ↓zS_txA1, ↓zS_txA2, ↓zS_msA, ↓zS_msA1, ↓zS_msA2, ↓zS_msA3, ↓zS_msA4, ↓zS_ndA, ↓zS_ndA1, ↓zS_ndA2, ↓zS_tkA, ↓zS_tkA1, ↓zS_tkA2, ↓zS_0, ↓zS_1, ↓zS_2, ↓zS_3, ↓zS_4, ↓zS_5, ↓zS_6, ↓zS_7, ↓zS_8, ↓zS_9, ↓zS_10, ↓zS_1121, ↓zS_1122, ↓zS_1123, ↓zS_1124, ↓zS_1125, ↓zS_1126, ↓zS_1175, ↓zS_1176, ↓zS_1177, ↓zS_1178, ↓zS_1179, ↓zS_1180, ↓zS_1181, ↓zS_1182, ↓zS_1183, ↓zS_1184, ↓zS_1185, ↓zS_1186, ↓zS_1277, ↓zS_1278, ↓zS_1279, ↓zS_1280, ↓zS_1281, ↓zS_1282, ↓zS_1283, ↓zS_1284, ↓zS_1285, ↓zS_1302, ↓zS_1286, ↓zS_1287, ↓zS_1288, ↓zS_1289, ↓zS_1290, ↓zS_1291, ↓zS_1292, ↓zS_1293, ↓zS_1294, ↓zS_1295, ↓zS_1296, ↓zS_1297, ↓zS_1298, ↓zS_1299, ↓zS_1300, ↓zS_1301, ↓zS_sg, ↓zS_m0, ↓zS_m1, ↓zS_m2, ↓zS_m3, ↓zS_m4, ↓zS_m5, ↓zS_m6, ↓zS_m7, ↓zS_m8, ↓zS_m9, ↓zS_m10, ↓zS_m11, ↓zS_m12, ↓zS_m13, ↓zS_m14, ↓zS_m15, ↓zS_m16, ↓zS_m17, ↓zS_m18, ↓zS_m19, ↓zS_m20, ↓zS_m21, ↓zS_m22, ↓zS_m23, ↓zS_m24, ↓zS_m25, ↓zS_m26, ↓zS_m27, ↓zS_m28, ↓zS_m29, ↓bf_0_2, ↓bf_0_4, ↓bf_0_6, ↓bf_0_7, ↓bf_0_8, ↓bf_0_9, ↓bf_3_2, ↓bf_5_0, ↓bf_5_2, ↓bf_5_3, ↓bf_5_5, ↓bf_5_6, ↓bf_1121_0, ↓bf_1121_8, ↓bf_1121_9, ↓bf_1121_10, ↓bf_1121_13, ↓bf_1122_1, ↓bf_1181_1, ↓bf_1178_1, ↓bf_1178_2, ↓bf_1178_8, ↓bf_1178_9, ↓bf_1178_11, ↓bf_1185_2, ↓bf_1185_4, ↓bf_1185_5, ↓bf_1185_6, ↓bf_1185_7, ↓bf_1185_8, ↓bf_1185_9, ↓bf_1185_14, ↓bf_1185_16, ↓bf_1185_17, ↓bf_1185_18, ↓bf_1277_0, ↓bf_1277_1, ↓bf_1278_0, ↓bf_1278_2, ↓bf_1285_3, ↓bf_1285_4, ↓bf_1285_14, ↓bf_1285_15, ↓bf_1285_16, ↓bf_1285_17, ↓bf_1285_18, ↓bf_1285_19, ↓bf_1285_20, ↓bf_1285_21, ↓bf_1285_22, ↓bf_1285_23, ↓bf_1285_24, ↓bf_1285_25, ↓bf_1285_27, ↓bf_1285_28, ↓bf_1285_29, ↓bf_1285_30, ↓bf_2, ↓bf_2_, ↓bf_1126, ↓bf_1126_, ↓bf_s0, ↓bf_s1, ↓bf_s2, ↓bf_s3, ↓bf_s4, ↓bf_s5, ↓bf_s6, ↓bf_s7, ↓bf_s10, ↓bf_tx, ↓bf_tx_, ↓bf_mt, ↓bf_mt_, ↓bf_ms, ↓bf_ms_, ↓bf_nd, ↓bf_nd_, ↓bf_tk, ↓bf_tk_, ↓bf_txA4, ↓bf_txA5, ↓bf_msA3, ↓bf_msA4, ↓bf_msA5, ↓bf_msA6, ↓bf_ndA4, ↓bf_ndA5, ↓bf_tkA4, ↓bf_tkA5, ↓bf_m5, ↓bf_m6, ↓bf_m7, ↓bf_m8, ↓bf_m9, ↓bf_m10, ↓bf_m11, ↓bf_m12, ↓bf_m13, ↓bf_m14, ↓bf_m15, ↓bf_m16, ↓bf_m17, ↓bf_m18, ↓bf_m19, ↓bf_m20, ↓bf_m21, ↓bf_m22, ↓bf_m23, ↓bf_m24, ↓bf_m25, ↓bf_m26, ↓bf_m27, ↓bf_m28, ↓bf_m29, ↓bf_m30, ↓bf_m31, ↓bf_m32, ↓bf_m33, mI_R, sI_R, sL_R, nI_2mul, nI_mul, nI_add, nI_1, nI_leD, hxl, e4, ↓zob_h (e_mean _ _ _ _), e_mean _ _ _ _, ↓zoL_e, ↓zob_e, ↓reduceIte, zoS_e, zob_e, nI_lt0, nI_lt00, nI_cl, nle_f, or_self, or_false, false_or]
    rw [mI_sI, ih (x + 1) fu _ (by omega) (by omega) (show RF (sI mm _ _).2.2 from hR)]
    refine congrArg (fun z => some (txA s i, nI fr, nI (2 * hf), nI to, nI hf, nI j, nI hf, z)) ?_
    rw [sI_sI]
    refine sI_to (fun k => ?_)
    simp only [sI_at, e4]
    by_cases hk : k = to + j * hf + x
    · subst hk
      rw [if_neg (by omega), if_pos (show to + j * hf + x ≤ to + j * hf + x ∧ to + j * hf + x < to + j * hf + hf by omega), upd_at, show to + j * hf + x - (to + j * hf) = x by omega]
    · by_cases hk2 : to + j * hf + x ≤ k ∧ k < to + j * hf + hf
      · rw [if_pos (show to + j * hf + (x + 1) ≤ k ∧ k < to + j * hf + hf by omega), if_pos hk2, upd_ne (by omega), upd_ne (by omega), upd_ne (by omega), upd_ne (by omega)]
      · rw [if_neg (by omega), if_neg hk2, upd_ne hk]
theorem e_halve_8 {W H s i : Nat} (hs : gS s) (hi : i < 8) {fr hf to : Nat} (hfr : fr + 4 * hf * hf ≤ to) (hto : to + hf * hf ≤ 1365) : ∀ (d j fuel : Nat) (mm : zMem), j + d = hf → d < fuel → RF mm.2.2 → L_XTexture_halve_8 (sh0 W H) fuel (txA s i) (nI fr) (nI (2 * hf)) (nI to) (nI hf) (nI j) mm = some (txA s i, nI fr, nI (2 * hf), nI to, nI hf, nI hf, sI mm (txA s i + 1) (fun k => if to + j * hf ≤ k ∧ k < to + hf * hf then mnF (mm.1 (txA s i + 1) (fr + 2 * ((k - to) / hf) * (2 * hf) + 2 * ((k - to) % hf))) (mm.1 (txA s i + 1) (fr + 2 * ((k - to) / hf) * (2 * hf) + 2 * ((k - to) % hf) + 1)) (mm.1 (txA s i + 1) (fr + 2 * ((k - to) / hf) * (2 * hf) + 2 * ((k - to) % hf) + 2 * hf)) (mm.1 (txA s i + 1) (fr + 2 * ((k - to) / hf) * (2 * hf) + 2 * ((k - to) % hf) + 2 * hf + 1)) else mm.1 (txA s i + 1) k)) := by
  intro d
  induction d with
  | zero =>
    intro j fuel mm hx hf2 hR
    obtain ⟨fu, rfl⟩ : ∃ fu, fuel = fu + 1 := ⟨fuel - 1, by omega⟩
    obtain rfl : j = hf := by omega
    simp only [L_XTexture_halve_8]
    rw [if_pos (Int32.le_refl _)]
    refine congrArg (fun z => some (txA s i, nI fr, nI (2 * j), nI to, nI j, nI j, z)) ?_
    rw [sI_to (h := mm.1 (txA s i + 1)) (fun k => if_neg (by omega)), sI_id]
  | succ d ih =>
    intro j fuel mm hx hf2 hR
    obtain ⟨fu, rfl⟩ : ∃ fu, fuel = fu + 1 := ⟨fuel - 1, by omega⟩
    have hj : j < hf := by omega
    have hsz : hf ≤ hf * hf := Nat.le_mul_of_pos_left hf (by omega)
    have hb1 : j * hf + hf ≤ hf * hf := by
      have := Nat.mul_le_mul_right hf (show j + 1 ≤ hf by omega)
      rw [Nat.add_mul] at this
      omega
    simp only [L_XTexture_halve_8]
    rw [if_neg (by rw [nI_leD (by omega) (by omega)]; omega), nI_k0, e_halve_18 hs hi hfr hto hj hf 0 zfuel mm (by omega) (zf_lt (by omega)) hR]
    simp only [zob_e, nI_1]
    rw [ih (j + 1) fu _ (by omega) (by omega) (show RF (sI mm _ _).2.2 from hR)]
    refine congrArg (fun z => some (txA s i, nI fr, nI (2 * hf), nI to, nI hf, nI hf, z)) ?_
    rw [sI_sI]
    refine sI_to (fun k => ?_)
    have ej : (j + 1) * hf = j * hf + hf := by rw [Nat.add_mul, Nat.one_mul]
    have e4 : ∀ z, 2 * z * (2 * hf) = 4 * (z * hf) := fun z => by rw [Nat.mul_assoc, Nat.mul_left_comm z 2 hf, ← Nat.mul_assoc]
    simp only [sI_at, ej, e4]
    rw [Nat.mul_assoc] at hfr
    by_cases hk : to + (j * hf + hf) ≤ k ∧ k < to + hf * hf
    · have hd : (k - to) / hf * hf + (k - to) % hf = k - to := Nat.div_add_mod' (k - to) hf
      have hm : (k - to) % hf < hf := Nat.mod_lt _ (by omega)
      have hq : (k - to) / hf < hf := Nat.div_lt_of_lt_mul (by omega)
      have hq2 : ((k - to) / hf) * hf + hf ≤ hf * hf := by
        have := Nat.mul_le_mul_right hf (show (k - to) / hf + 1 ≤ hf by omega)
        rw [Nat.add_mul] at this
        omega
      rw [if_pos hk, if_pos (show to + j * hf ≤ k ∧ k < to + hf * hf by omega), if_neg (by omega), if_neg (by omega), if_neg (by omega), if_neg (by omega)]
    · rw [if_neg hk]
      by_cases hk2 : to + j * hf + 0 ≤ k ∧ k < to + j * hf + hf
      · have hd : (k - to) / hf = j := by
          rw [show k - to = (k - (to + j * hf)) + hf * j by rw [Nat.mul_comm hf j]; omega, Nat.add_mul_div_left _ _ (by omega), Nat.div_eq_of_lt (by omega), Nat.zero_add]
        have hm : (k - to) % hf = k - (to + j * hf) := by
          rw [show k - to = (k - (to + j * hf)) + hf * j by rw [Nat.mul_comm hf j]; omega, Nat.add_mul_mod_self_left, Nat.mod_eq_of_lt (by omega)]
        rw [if_pos hk2, if_pos (show to + j * hf ≤ k ∧ k < to + hf * hf by omega), hd, hm]
      · rw [if_neg hk2, if_neg (by omega)]
theorem e_halve {W H s i : Nat} {mm : zMem} (hR : RF mm.2.2) (hs : gS s) (hi : i < 8) {fr hf to : Nat} (h0 : 0 < hf) (hfr : fr + 4 * hf * hf ≤ to) (hto : to + hf * hf ≤ 1365) : F_XTexture_halve (sh0 W H) mm (txA s i) (nI fr) (nI (2 * hf)) (nI to) = some (sI mm (txA s i + 1) (fun k => if to ≤ k ∧ k < to + hf * hf then mnF (mm.1 (txA s i + 1) (fr + 2 * ((k - to) / hf) * (2 * hf) + 2 * ((k - to) % hf))) (mm.1 (txA s i + 1) (fr + 2 * ((k - to) / hf) * (2 * hf) + 2 * ((k - to) % hf) + 1)) (mm.1 (txA s i + 1) (fr + 2 * ((k - to) / hf) * (2 * hf) + 2 * ((k - to) % hf) + 2 * hf)) (mm.1 (txA s i + 1) (fr + 2 * ((k - to) / hf) * (2 * hf) + 2 * ((k - to) % hf) + 2 * hf + 1)) else mm.1 (txA s i + 1) k)) := by
  have hsz : hf ≤ hf * hf := Nat.le_mul_of_pos_left hf h0
  unfold F_XTexture_halve
  simp only [zoL_e]
  rw [nI_k2, nI_div (b := 2) (by omega) (by decide) (by decide), Nat.mul_div_cancel_left hf (by decide), nI_k0, e_halve_8 hs hi hfr hto hf 0 zfuel mm (by omega) (zf_lt (by omega)) hR]
  simp only [zob_e, Nat.zero_mul, Nat.add_zero]
def sd (e l : Nat) : Nat := 2 ^ (e - l)
def st (e : Nat) : Nat → Nat
  | 0 => 0
  | l + 1 => st e l + sd e l * sd e l
/-- the levels of a texture whose first level is T -/
def cl (T : Nat → Int32) (e : Nat) : Nat → Nat → Int32
  | 0, k => T k
  | l + 1, k => mnF (cl T e l (2 * (k / sd e (l + 1)) * (2 * sd e (l + 1)) + 2 * (k % sd e (l + 1)))) (cl T e l (2 * (k / sd e (l + 1)) * (2 * sd e (l + 1)) + 2 * (k % sd e (l + 1)) + 1)) (cl T e l (2 * (k / sd e (l + 1)) * (2 * sd e (l + 1)) + 2 * (k % sd e (l + 1)) + 2 * sd e (l + 1))) (cl T e l (2 * (k / sd e (l + 1)) * (2 * sd e (l + 1)) + 2 * (k % sd e (l + 1)) + 2 * sd e (l + 1) + 1))
theorem sd_fin : ∀ e : Fin 6, ∀ l : Fin 6, l.val < e.val → sd e l = 2 * sd e (l + 1) ∧ 0 < sd e (l + 1) ∧ st e l + 4 * sd e (l + 1) * sd e (l + 1) = st e (l + 1) ∧ st e (l + 1) + sd e (l + 1) * sd e (l + 1) ≤ 1365 ∧ 1 < sd e l ∧ sd e l ≤ 32 := by decide +kernel
theorem st_fin : ∀ e : Fin 6, ∀ l : Fin 6, ∀ j : Fin 6, j.val < l.val → l.val ≤ e.val → st e j + sd e j * sd e j ≤ st e l := by decide +kernel
set_option maxHeartbeats 4000000 in
theorem e_fill_64 {W H s i e : Nat} (hs : gS s) (hi : i < 8) (he : e ≤ 5) {T : Nat → Int32} : ∀ (d l fuel : Nat) (mm : zMem), l + d = e → d < fuel → RF mm.2.2 → mm.1 (txA s i) 3 = nI l → (∀ j, j ≤ l → mm.1 (txA s i + 2) j = nI (st e j)) → (∀ j, j ≤ l → ∀ k, k < sd e j * sd e j → mm.1 (txA s i + 1) (st e j + k) = cl T e j k) → zok (L_XTexture_fill_64 (sh0 W H) fuel (txA s i) (nI (sd e l)) mm) (fun q => q.2.2.2 = mm.2 ∧ (∀ a, a ≠ txA s i → a ≠ txA s i + 1 → a ≠ txA s i + 2 → q.2.2.1 a = mm.1 a) ∧ (∀ c, c ≠ 3 → q.2.2.1 (txA s i) c = mm.1 (txA s i) c) ∧ q.2.2.1 (txA s i) 3 = nI e ∧ (∀ j, j ≤ e → q.2.2.1 (txA s i + 2) j = nI (st e j)) ∧ ∀ j, j ≤ e → ∀ k, k < sd e j * sd e j → q.2.2.1 (txA s i + 1) (st e j + k) = cl T e j k) := by
  intro d
  induction d with
  | zero =>
    intro l fuel mm hl hf hR h3 hst htx
    obtain ⟨fu, rfl⟩ : ∃ fu, fuel = fu + 1 := ⟨fuel - 1, by omega⟩
    obtain rfl : l = e := by omega
    simp only [L_XTexture_fill_64]
    rw [if_pos (show nI (sd l l) ≤ 1 by unfold sd; rw [Nat.sub_self]; decide)]
    exact zok_s ⟨rfl, fun a _ _ _ => rfl, fun c _ => rfl, h3, hst, htx⟩
  | succ d ih =>
    intro l fuel mm hl hf hR h3 hst htx
    obtain ⟨fu, rfl⟩ : ∃ fu, fuel = fu + 1 := ⟨fuel - 1, by omega⟩
    obtain ⟨f1, f2, f3, f4, f5, f6⟩ := sd_fin ⟨e, by omega⟩ ⟨l, by omega⟩ (show l < e by omega)
    simp only at f1 f2 f3 f4 f5 f6
    have hzA : ∀ K : Nat → Nat → Option (Nat × Int32 × zMem), zoA (sh0 W H (txA s i + 2)) K = K 100 6 := fun K => by
      rw [sh_txA2 hs hi]
      exact zoA_e (by decide)
    have c1 : (nI (sd e l) ≤ 1) = False := eq_false (by rw [nI_k1, nI_leD (by omega) (by decide)]; omega)
    have c2 : (Int32.ofNat 6 ≤ nI (l + 1)) = False := eq_false (show ¬ nI 6 ≤ nI (l + 1) by rw [nI_leD (by decide) (by omega)]; omega)
    have hsl := hst l (Nat.le_refl _)
    have hsq : st e l + sd e l * sd e l = st e (l + 1) := rfl
    have hs5 : st e (l + 1) ≤ 1365 := by omega
    have q3 : (mI mm (txA s i + 2) (l + 1) (nI (st e (l + 1)))).1 (txA s i) 3 = nI l := by
      rw [mI_sI, sI_ne (by omega), h3]
    have q4 : (mI mm (txA s i + 2) (l + 1) (nI (st e (l + 1)))).1 (txA s i + 2) l = nI (st e l) := by
      rw [mI_sI, sI_at, upd_ne (by omega), hsl]
    have q5 : (mI mm (txA s i + 2) (l + 1) (nI (st e (l + 1)))).1 (txA s i + 2) (l + 1) = nI (st e (l + 1)) := by
      rw [mI_sI, sI_at, upd_at]
    have hh := e_halve (W := W) (H := H) (mm := mI mm (txA s i + 2) (l + 1) (nI (st e (l + 1)))) hR hs hi (fr := st e l) (hf := sd e (l + 1)) (to := st e (l + 1)) f2 (by omega) f4
    rw [← f1] at hh
    have hd2 : nI (sd e l) / 2 = nI (sd e (l + 1)) := by
      rw [nI_k2, nI_div (b := 2) (by omega) (by decide) (by decide), f1, Nat.mul_div_cancel_left _ (by decide)]
    simp (disch := first | assumption | omega) only [L_XTexture_fill_64, ↓zS_s0, ↓zS_s1, ↓zS_s2, ↓zS_s3, ↓zS_s20, ↓zS_s21, ↓zS_s22, ↓zS_s23, ↓zS_s24, ↓zS_s25, ↓zS_smt, ↓zS_txA, ↓zS_txA1, ↓zS_txA2, ↓zS_msA, ↓zS_msA1, ↓zS_msA2, ↓zS_msA3, ↓zS_msA4, ↓zS_ndA, ↓zS_ndA1, ↓zS_ndA2, ↓zS_tkA, ↓zS_tkA1, ↓zS_tkA2, ↓zS_0, ↓zS_1, ↓zS_2, ↓zS_3, ↓zS_4, ↓zS_5, ↓zS_6, ↓zS_7, ↓zS_8, ↓zS_9, ↓zS_10, ↓zS_1121, ↓zS_1122, ↓zS_1123, ↓zS_1124, ↓zS_1125, ↓zS_1126, ↓zS_1175, ↓zS_1176, ↓zS_1177, ↓zS_1178, ↓zS_1179, ↓zS_1180, ↓zS_1181, ↓zS_1182, ↓zS_1183, ↓zS_1184, ↓zS_1185, ↓zS_1186, ↓zS_1277, ↓zS_1278, ↓zS_1279, ↓zS_1280, ↓zS_1281, ↓zS_1282, ↓zS_1283, ↓zS_1284, ↓zS_1285, ↓zS_1302, ↓zS_1286, ↓zS_1287, ↓zS_1288, ↓zS_1289, ↓zS_1290, ↓zS_1291, ↓zS_1292, ↓zS_1293, ↓zS_1294, ↓zS_1295, ↓zS_1296, ↓zS_1297, ↓zS_1298, ↓zS_1299, ↓zS_1300, ↓zS_1301, ↓zS_sg, ↓zS_m0, ↓zS_m1, ↓zS_m2, ↓zS_m3, ↓zS_m4, ↓zS_m5, ↓zS_m6, ↓zS_m7, ↓zS_m8, ↓zS_m9, ↓zS_m10, ↓zS_m11, ↓zS_m12, ↓zS_m13, ↓zS_m14, ↓zS_m15, ↓zS_m16, ↓zS_m17, ↓zS_m18, ↓zS_m19, ↓zS_m20, ↓zS_m21, ↓zS_m22, ↓zS_m23, ↓zS_m24, ↓zS_m25, ↓zS_m26, ↓zS_m27, ↓zS_m28, ↓zS_m29, ↓bf_0_2, ↓bf_0_4, ↓bf_0_6, ↓bf_0_7, ↓bf_0_8, ↓bf_0_9, ↓bf_3_2, ↓bf_5_0, ↓bf_5_2, ↓bf_5_3, ↓bf_5_5, ↓bf_5_6, ↓bf_1121_0, ↓bf_1121_8, ↓bf_1121_9, ↓bf_1121_10, ↓bf_1121_13, ↓bf_1122_1, ↓bf_1181_1, ↓bf_1178_1, ↓bf_1178_2, ↓bf_1178_8, ↓bf_1178_9, ↓bf_1178_11, ↓bf_1185_2, ↓bf_1185_4, ↓bf_1185_5, ↓bf_1185_6, ↓bf_1185_7, ↓bf_1185_8, ↓bf_1185_9, ↓bf_1185_14, ↓bf_1185_16, ↓bf_1185_17, ↓bf_1185_18, ↓bf_1277_0, ↓bf_1277_1, ↓bf_1278_0, ↓bf_1278_2, ↓bf_1285_3, ↓bf_1285_4, ↓bf_1285_14, ↓bf_1285_15, ↓bf_1285_16, ↓bf_1285_17, ↓bf_1285_18, ↓bf_1285_19, ↓bf_1285_20, ↓bf_1285_21, ↓bf_1285_22, ↓bf_1285_23, ↓bf_1285_24, ↓bf_1285_25, ↓bf_1285_27, ↓bf_1285_28, ↓bf_1285_29, ↓bf_1285_30, ↓bf_2, ↓bf_2_, ↓bf_1126, ↓bf_1126_, ↓bf_s0, ↓bf_s1, ↓bf_s2, ↓bf_s3, ↓bf_s4, ↓bf_s5, ↓bf_s6, ↓bf_s7, ↓bf_s10, ↓bf_tx, ↓bf_tx_, ↓bf_mt, ↓bf_mt_, ↓bf_ms, ↓bf_ms_, ↓bf_nd, ↓bf_nd_, ↓bf_tk, ↓bf_tk_, ↓bf_txA4, ↓bf_txA5, ↓bf_msA3, ↓bf_msA4, ↓bf_msA5, ↓bf_msA6, ↓bf_ndA4, ↓bf_ndA5, ↓bf_tkA4, ↓bf_tkA5, ↓bf_m5, ↓bf_m6, ↓bf_m7, ↓bf_m8, ↓bf_m9, ↓bf_m10, ↓bf_m11, ↓bf_m12, ↓bf_m13, ↓bf_m14, ↓bf_m15, ↓bf_m16, ↓bf_m17, ↓bf_m18, ↓bf_m19, ↓bf_m20, ↓bf_m21, ↓bf_m22, ↓bf_m23, ↓bf_m24, ↓bf_m25, ↓bf_m26, ↓bf_m27, ↓bf_m28, ↓bf_m29, ↓bf_m30, ↓bf_m31, ↓bf_m32, ↓bf_m33, mI_R, sI_R, sL_R, c1, ↓hzA _, h3, nI_1, c2, hsl, nI_mul, nI_add, hsq, q3, q4, q5, ↓zob_h hh, hh, hd2, ↓zoL_e, ↓zob_e, ↓reduceIte, zoS_e, zob_e, nI_lt0, nI_lt00, nI_cl, nle_f, or_self, or_false, false_or]
    have q3' : ∀ g, (sI (mI mm (txA s i + 2) (l + 1) (nI (st e (l + 1)))) (txA s i + 1) g).1 (txA s i) 3 = nI l := fun g => by rw [sI_ne (by omega), q3]
    simp only [q3', nI_1]
    refine zok_w (ih (l + 1) fu _ (by omega) (by omega) (show RF (mI (sI _ _ _) _ _ _).2.2 from hR) (by rw [mI_sI, sI_at, upd_at]) (fun j hj => ?_) (fun j hj k hk => ?_)) (fun q hq => ?_)
    · rw [mI_sI, sI_ne (by omega), sI_ne (by omega), mI_sI, sI_at]
      by_cases ej : j = l + 1
      · rw [ej, upd_at]
      · rw [upd_ne ej, hst j (by omega)]
    · rw [mI_sI, sI_ne (by omega), sI_at]
      by_cases ej : j = l + 1
      · subst ej
        rw [if_pos (by omega), show st e (l + 1) + k - st e (l + 1) = k by omega]
        have ep : ∀ x, x < sd e l * sd e l → (mI mm (txA s i + 2) (l + 1) (nI (st e (l + 1)))).1 (txA s i + 1) (st e l + x) = cl T e l x := fun x hx => by
          rw [mI_sI, sI_ne (by omega), htx l (Nat.le_refl _) x hx]
        have hm : k % sd e (l + 1) < sd e (l + 1) := Nat.mod_lt _ f2
        have hq : k / sd e (l + 1) < sd e (l + 1) := Nat.div_lt_of_lt_mul hk
        have hq2 : (k / sd e (l + 1)) * sd e (l + 1) + sd e (l + 1) ≤ sd e (l + 1) * sd e (l + 1) := by
          have := Nat.mul_le_mul_right (sd e (l + 1)) (show k / sd e (l + 1) + 1 ≤ sd e (l + 1) by omega)
          rw [Nat.add_mul] at this
          omega
        have e4 : 2 * (k / sd e (l + 1)) * (2 * sd e (l + 1)) = 4 * ((k / sd e (l + 1)) * sd e (l + 1)) := by rw [Nat.mul_assoc, Nat.mul_left_comm (k / sd e (l + 1)) 2 (sd e (l + 1)), ← Nat.mul_assoc]
        have e5 : sd e l * sd e l = 4 * (sd e (l + 1) * sd e (l + 1)) := by rw [f1, Nat.mul_assoc, Nat.mul_left_comm (sd e (l + 1)) 2 (sd e (l + 1)), ← Nat.mul_assoc]
        show _ = mnF _ _ _ _
        rw [← ep _ (show 2 * (k / sd e (l + 1)) * (2 * sd e (l + 1)) + 2 * (k % sd e (l + 1)) < sd e l * sd e l by omega), ← ep _ (show 2 * (k / sd e (l + 1)) * (2 * sd e (l + 1)) + 2 * (k % sd e (l + 1)) + 1 < sd e l * sd e l by omega), ← ep _ (show 2 * (k / sd e (l + 1)) * (2 * sd e (l + 1)) + 2 * (k % sd e (l + 1)) + 2 * sd e (l + 1) < sd e l * sd e l by omega), ← ep _ (show 2 * (k / sd e (l + 1)) * (2 * sd e (l + 1)) + 2 * (k % sd e (l + 1)) + 2 * sd e (l + 1) + 1 < sd e l * sd e l by omega)]
        simp only [Nat.add_assoc, f1]
      · have hb := st_fin ⟨e, by omega⟩ ⟨l + 1, by omega⟩ ⟨j, by omega⟩ (show j < l + 1 by omega) (show l + 1 ≤ e by omega)
        simp only at hb
        rw [if_neg (by omega), mI_sI, sI_ne (by omega), htx j (by omega) k hk]
    · obtain ⟨g1, g2, g3, g4, g5, g6⟩ := hq
      refine ⟨g1, fun a a1 a2 a3 => ?_, fun c hc => ?_, g4, g5, g6⟩
      · rw [g2 a a1 a2 a3, mI_sI, sI_ne a1, sI_ne a2, mI_sI, sI_ne a3]
      · rw [g3 c hc, mI_sI, sI_at, upd_ne hc, sI_ne (by omega), mI_sI, sI_ne (by omega)]
theorem e_fill_2 {W H s i sz : Nat} (hs : gS s) (hi : i < 8) (hsz : sz * sz ≤ 1024) : ∀ (d k fuel : Nat) (mm : zMem), k + d = sz * sz → d < fuel → RF mm.2.2 → mm.1 (txA s i) 0 = nI sz → L_XTexture_fill_2 (sh0 W H) fuel (txA s i) 4 (nI k) mm = some (txA s i, 4, nI (sz * sz), sI mm (txA s i + 1) (fun j => if k ≤ j ∧ j < sz * sz then ((mm.1 4 (3 * j) <<< (16 &&& 31)) ||| (mm.1 4 (3 * j + 1) <<< (8 &&& 31))) ||| mm.1 4 (3 * j + 2) else mm.1 (txA s i + 1) j)) := by
  have h4 : 4 ≠ txA s i + 1 := by unfold txA; rcases hs with e | e | e <;> omega
  have h0 : txA s i ≠ txA s i + 1 := by omega
  intro d
  induction d with
  | zero =>
    intro k fuel mm hk hf hR hq
    obtain ⟨fu, rfl⟩ : ∃ fu, fuel = fu + 1 := ⟨fuel - 1, by omega⟩
    obtain rfl : k = sz * sz := by omega
    simp (disch := first | assumption | omega) only [L_XTexture_fill_2, ↓zS_s0, ↓zS_s1, ↓zS_s2, ↓zS_s3, ↓zS_s20, ↓zS_s21, ↓zS_s22, ↓zS_s23, ↓zS_s24, ↓zS_s25, ↓zS_smt, ↓zS_txA, ↓zS_txA1, ↓zS_txA2, ↓zS_msA, ↓zS_msA1, ↓zS_msA2, ↓zS_msA3, ↓zS_msA4, ↓zS_ndA, ↓zS_ndA1, ↓zS_ndA2, ↓zS_tkA, ↓zS_tkA1, ↓zS_tkA2, ↓zS_0, ↓zS_1, ↓zS_2, ↓zS_3, ↓zS_4, ↓zS_5, ↓zS_6, ↓zS_7, ↓zS_8, ↓zS_9, ↓zS_10, ↓zS_1121, ↓zS_1122, ↓zS_1123, ↓zS_1124, ↓zS_1125, ↓zS_1126, ↓zS_1175, ↓zS_1176, ↓zS_1177, ↓zS_1178, ↓zS_1179, ↓zS_1180, ↓zS_1181, ↓zS_1182, ↓zS_1183, ↓zS_1184, ↓zS_1185, ↓zS_1186, ↓zS_1277, ↓zS_1278, ↓zS_1279, ↓zS_1280, ↓zS_1281, ↓zS_1282, ↓zS_1283, ↓zS_1284, ↓zS_1285, ↓zS_1302, ↓zS_1286, ↓zS_1287, ↓zS_1288, ↓zS_1289, ↓zS_1290, ↓zS_1291, ↓zS_1292, ↓zS_1293, ↓zS_1294, ↓zS_1295, ↓zS_1296, ↓zS_1297, ↓zS_1298, ↓zS_1299, ↓zS_1300, ↓zS_1301, ↓zS_sg, ↓zS_m0, ↓zS_m1, ↓zS_m2, ↓zS_m3, ↓zS_m4, ↓zS_m5, ↓zS_m6, ↓zS_m7, ↓zS_m8, ↓zS_m9, ↓zS_m10, ↓zS_m11, ↓zS_m12, ↓zS_m13, ↓zS_m14, ↓zS_m15, ↓zS_m16, ↓zS_m17, ↓zS_m18, ↓zS_m19, ↓zS_m20, ↓zS_m21, ↓zS_m22, ↓zS_m23, ↓zS_m24, ↓zS_m25, ↓zS_m26, ↓zS_m27, ↓zS_m28, ↓zS_m29, ↓bf_0_2, ↓bf_0_4, ↓bf_0_6, ↓bf_0_7, ↓bf_0_8, ↓bf_0_9, ↓bf_3_2, ↓bf_5_0, ↓bf_5_2, ↓bf_5_3, ↓bf_5_5, ↓bf_5_6, ↓bf_1121_0, ↓bf_1121_8, ↓bf_1121_9, ↓bf_1121_10, ↓bf_1121_13, ↓bf_1122_1, ↓bf_1181_1, ↓bf_1178_1, ↓bf_1178_2, ↓bf_1178_8, ↓bf_1178_9, ↓bf_1178_11, ↓bf_1185_2, ↓bf_1185_4, ↓bf_1185_5, ↓bf_1185_6, ↓bf_1185_7, ↓bf_1185_8, ↓bf_1185_9, ↓bf_1185_14, ↓bf_1185_16, ↓bf_1185_17, ↓bf_1185_18, ↓bf_1277_0, ↓bf_1277_1, ↓bf_1278_0, ↓bf_1278_2, ↓bf_1285_3, ↓bf_1285_4, ↓bf_1285_14, ↓bf_1285_15, ↓bf_1285_16, ↓bf_1285_17, ↓bf_1285_18, ↓bf_1285_19, ↓bf_1285_20, ↓bf_1285_21, ↓bf_1285_22, ↓bf_1285_23, ↓bf_1285_24, ↓bf_1285_25, ↓bf_1285_27, ↓bf_1285_28, ↓bf_1285_29, ↓bf_1285_30, ↓bf_2, ↓bf_2_, ↓bf_1126, ↓bf_1126_, ↓bf_s0, ↓bf_s1, ↓bf_s2, ↓bf_s3, ↓bf_s4, ↓bf_s5, ↓bf_s6, ↓bf_s7, ↓bf_s10, ↓bf_tx, ↓bf_tx_, ↓bf_mt, ↓bf_mt_, ↓bf_ms, ↓bf_ms_, ↓bf_nd, ↓bf_nd_, ↓bf_tk, ↓bf_tk_, ↓bf_txA4, ↓bf_txA5, ↓bf_msA3, ↓bf_msA4, ↓bf_msA5, ↓bf_msA6, ↓bf_ndA4, ↓bf_ndA5, ↓bf_tkA4, ↓bf_tkA5, ↓bf_m5, ↓bf_m6, ↓bf_m7, ↓bf_m8, ↓bf_m9, ↓bf_m10, ↓bf_m11, ↓bf_m12, ↓bf_m13, ↓bf_m14, ↓bf_m15, ↓bf_m16, ↓bf_m17, ↓bf_m18, ↓bf_m19, ↓bf_m20, ↓bf_m21, ↓bf_m22, ↓bf_m23, ↓bf_m24, ↓bf_m25, ↓bf_m26, ↓bf_m27, ↓bf_m28, ↓bf_m29, ↓bf_m30, ↓bf_m31, ↓bf_m32, ↓bf_m33, mI_R, sI_R, sL_R, hq, nI_mul, Int32.le_refl, ↓zoL_e, ↓zob_e, ↓reduceIte, zoS_e, zob_e, nI_lt0, nI_lt00, nI_cl, nle_f, or_self, or_false, false_or]
    refine congrArg (fun z => some (txA s i, 4, nI (sz * sz), z)) ?_
    rw [sI_to (h := mm.1 (txA s i + 1)) (fun k => if_neg (by omega)), sI_id]
  | succ d ih =>
    intro k fuel mm hk hf hR hq
    obtain ⟨fu, rfl⟩ : ∃ fu, fuel = fu + 1 := ⟨fuel - 1, by omega⟩
    have hlt : ¬ sz * sz ≤ k := by omega
    have e3 : (3 : Int32) * nI k + 2 = nI (3 * k + 2) := by rw [nI_3mul, nI_k2, nI_add]
    simp (disch := first | assumption | omega) only [L_XTexture_fill_2, ↓zS_s0, ↓zS_s1, ↓zS_s2, ↓zS_s3, ↓zS_s20, ↓zS_s21, ↓zS_s22, ↓zS_s23, ↓zS_s24, ↓zS_s25, ↓zS_smt, ↓zS_txA, ↓zS_txA1, ↓zS_txA2, ↓zS_msA, ↓zS_msA1, ↓zS_msA2, ↓zS_msA3, ↓zS_msA4, ↓zS_ndA, ↓zS_ndA1, ↓zS_ndA2, ↓zS_tkA, ↓zS_tkA1, ↓zS_tkA2, ↓zS_0, ↓zS_1, ↓zS_2, ↓zS_3, ↓zS_4, ↓zS_5, ↓zS_6, ↓zS_7, ↓zS_8, ↓zS_9, ↓zS_10, ↓zS_1121, ↓zS_1122, ↓zS_1123, ↓zS_1124, ↓zS_1125, ↓zS_1126, ↓zS_1175, ↓zS_1176, ↓zS_1177, ↓zS_1178, ↓zS_1179, ↓zS_1180, ↓zS_1181, ↓zS_1182, ↓zS_1183, ↓zS_1184, ↓zS_1185, ↓zS_1186, ↓zS_1277, ↓zS_1278, ↓zS_1279, ↓zS_1280, ↓zS_1281, ↓zS_1282, ↓zS_1283, ↓zS_1284, ↓zS_1285, ↓zS_1302, ↓zS_1286, ↓zS_1287, ↓zS_1288, ↓zS_1289, ↓zS_1290, ↓zS_1291, ↓zS_1292, ↓zS_1293, ↓zS_1294, ↓zS_1295, ↓zS_1296, ↓zS_1297, ↓zS_1298, ↓zS_1299, ↓zS_1300, ↓zS_1301, ↓zS_sg, ↓zS_m0, ↓zS_m1, ↓zS_m2, ↓zS_m3, ↓zS_m4, ↓zS_m5, ↓zS_m6, ↓zS_m7, ↓zS_m8, ↓zS_m9, ↓zS_m10, ↓zS_m11, ↓zS_m12, ↓zS_m13, ↓zS_m14, ↓zS_m15, ↓zS_m16, ↓zS_m17, ↓zS_m18, ↓zS_m19, ↓zS_m20, ↓zS_m21, ↓zS_m22, ↓zS_m23, ↓zS_m24, ↓zS_m25, ↓zS_m26, ↓zS_m27, ↓zS_m28, ↓zS_m29, ↓bf_0_2, ↓bf_0_4, ↓bf_0_6, ↓bf_0_7, ↓bf_0_8, ↓bf_0_9, ↓bf_3_2, ↓bf_5_0, ↓bf_5_2, ↓bf_5_3, ↓bf_5_5, ↓bf_5_6, ↓bf_1121_0, ↓bf_1121_8, ↓bf_1121_9, ↓bf_1121_10, ↓bf_1121_13, ↓bf_1122_1, ↓bf_1181_1, ↓bf_1178_1, ↓bf_1178_2, ↓bf_1178_8, ↓bf_1178_9, ↓bf_1178_11, ↓bf_1185_2, ↓bf_1185_4, ↓bf_1185_5, ↓bf_1185_6, ↓bf_1185_7, ↓bf_1185_8, ↓bf_1185_9, ↓bf_1185_14, ↓bf_1185_16, ↓bf_1185_17, ↓bf_1185_18, ↓bf_1277_0, ↓bf_1277_1, ↓bf_1278_0, ↓bf_1278_2, ↓bf_1285_3, ↓bf_1285_4, ↓bf_1285_14, ↓bf_1285_15, ↓bf_1285_16, ↓bf_1285_17, ↓bf_1285_18, ↓bf_1285_19, ↓bf_1285_20, ↓bf_1285_21, ↓bf_1285_22, ↓bf_1285_23, ↓bf_1285_24, ↓bf_1285_25, ↓bf_1285_27, ↓bf_1285_28, ↓bf_1285_29, ↓bf_1285_30, ↓bf_2, ↓bf_2_, ↓bf_1126, ↓bf_1126_, ↓bf_s0, ↓bf_s1, ↓bf_s2, ↓bf_s3, ↓bf_s4, ↓bf_s5, ↓bf_s6, ↓bf_s7, ↓bf_s10, ↓bf_tx, ↓bf_tx_, ↓bf_mt, ↓bf_mt_, ↓bf_ms, ↓bf_ms_, ↓bf_nd, ↓bf_nd_, ↓bf_tk, ↓bf_tk_, ↓bf_txA4, ↓bf_txA5, ↓bf_msA3, ↓bf_msA4, ↓bf_msA5, ↓bf_msA6, ↓bf_ndA4, ↓bf_ndA5, ↓bf_tkA4, ↓bf_tkA5, ↓bf_m5, ↓bf_m6, ↓bf_m7, ↓bf_m8, ↓bf_m9, ↓bf_m10, ↓bf_m11, ↓bf_m12, ↓bf_m13, ↓bf_m14, ↓bf_m15, ↓bf_m16, ↓bf_m17, ↓bf_m18, ↓bf_m19, ↓bf_m20, ↓bf_m21, ↓bf_m22, ↓bf_m23, ↓bf_m24, ↓bf_m25, ↓bf_m26, ↓bf_m27, ↓bf_m28, ↓bf_m29, ↓bf_m30, ↓bf_m31, ↓bf_m32, ↓bf_m33, mI_R, sI_R, sL_R, hq, nI_mul, nI_leD, hlt, nI_3mul, e3, nI_1, show nI (3 * k) + 2 = nI (3 * k + 2) by rw [nI_k2, nI_add], ↓zoL_e, ↓zob_e, ↓reduceIte, zoS_e, zob_e, nI_lt0, nI_lt00, nI_cl, nle_f, or_self, or_false, false_or]
    rw [mI_sI, ih (k + 1) fu _ (by omega) (by omega) (show RF (sI mm _ _).2.2 from hR) (by rw [sI_ne h0, hq])]
    refine congrArg (fun z => some (txA s i, 4, nI (sz * sz), z)) ?_
    rw [sI_sI]
    refine sI_to (fun j => ?_)
    simp only [sI_at, sI_ne h4]
    by_cases hj : j = k
    · subst hj
      rw [if_neg (by omega), if_pos (show j ≤ j ∧ j < sz * sz by omega), upd_at]
    · by_cases hj2 : k ≤ j ∧ j < sz * sz
      · rw [if_pos (show k + 1 ≤ j ∧ j < sz * sz by omega), if_pos hj2]
      · rw [if_neg (by omega), if_neg hj2, upd_ne hj]
/-- the class's texture i is made of the bytes B: its sides, its levels -/
def RtxL (f : Nat → Nat → Int32) (s i e : Nat) (B : Nat → Int32) : Prop := f (txA s i) 3 = nI e ∧ (∀ j, j ≤ e → f (txA s i + 2) j = nI (st e j)) ∧ ∀ j, j ≤ e → ∀ k, k < sd e j * sd e j → f (txA s i + 1) (st e j + k) = cl (fun q => ((B (3 * q) <<< (16 &&& 31)) ||| (B (3 * q + 1) <<< (8 &&& 31))) ||| B (3 * q + 2)) e j k
theorem cl_c {T T' : Nat → Int32} {e : Nat} (he : e ≤ 5) (h : ∀ k, k < sd e 0 * sd e 0 → T k = T' k) : ∀ l, l ≤ e → ∀ k, k < sd e l * sd e l → cl T e l k = cl T' e l k := by
  intro l
  induction l with
  | zero => intro _ k hk; exact h k hk
  | succ l ih =>
    intro hl k hk
    obtain ⟨f1, f2, f3, f4, f5, f6⟩ := sd_fin ⟨e, by omega⟩ ⟨l, by omega⟩ (show l < e by omega)
    simp only at f1 f2 f3 f4 f5 f6
    have hm : k % sd e (l + 1) < sd e (l + 1) := Nat.mod_lt _ f2
    have hq : k / sd e (l + 1) < sd e (l + 1) := Nat.div_lt_of_lt_mul hk
    have hq2 : (k / sd e (l + 1)) * sd e (l + 1) + sd e (l + 1) ≤ sd e (l + 1) * sd e (l + 1) := by
      have := Nat.mul_le_mul_right (sd e (l + 1)) (show k / sd e (l + 1) + 1 ≤ sd e (l + 1) by omega)
      rw [Nat.add_mul] at this
      omega
    have e4 : 2 * (k / sd e (l + 1)) * (2 * sd e (l + 1)) = 4 * ((k / sd e (l + 1)) * sd e (l + 1)) := by rw [Nat.mul_assoc, Nat.mul_left_comm (k / sd e (l + 1)) 2 (sd e (l + 1)), ← Nat.mul_assoc]
    have e5 : sd e l * sd e l = 4 * (sd e (l + 1) * sd e (l + 1)) := by rw [f1, Nat.mul_assoc, Nat.mul_left_comm (sd e (l + 1)) 2 (sd e (l + 1)), ← Nat.mul_assoc]
    have ih := ih (by omega)
    simp only [cl]
    rw [ih _ (by omega), ih _ (by omega), ih _ (by omega), ih _ (by omega)]
theorem e_fill {W H s i e : Nat} {mm : zMem} (hs : gS s) (hi : i < 8) (he : e ≤ 5) (hR : RF mm.2.2) (h0 : mm.1 (txA s i) 0 = nI (sd e 0)) (hst : mm.1 (txA s i + 2) 0 = 0) {B : Nat → Int32} (hB : ∀ j, j < 3 * (sd e 0 * sd e 0) → mm.1 4 j = B j) : zok (F_XTexture_fill (sh0 W H) mm (txA s i) 4) (fun m' => m'.2 = mm.2 ∧ (∀ a, a ≠ txA s i → a ≠ txA s i + 1 → a ≠ txA s i + 2 → m'.1 a = mm.1 a) ∧ (∀ c, c ≠ 3 → m'.1 (txA s i) c = mm.1 (txA s i) c) ∧ RtxL m'.1 s i e B) := by
  have hs32 : sd e 0 ≤ 32 := (show ∀ e : Fin 6, sd e 0 ≤ 32 by decide) ⟨e, by omega⟩
  have hsq : sd e 0 * sd e 0 ≤ 1024 := Nat.mul_le_mul hs32 hs32
  unfold F_XTexture_fill
  rw [nI_k0, e_fill_2 hs hi hsq (sd e 0 * sd e 0) 0 zfuel mm (by omega) (zf_lt (by omega)) hR h0]
  have q0 : ∀ g v, (mI (sI mm (txA s i + 1) g) (txA s i) 3 v).1 (txA s i) 0 = nI (sd e 0) := fun g v => by
    rw [mI_sI, sI_at, upd_ne (by decide), sI_ne (by omega), h0]
  simp (disch := first | assumption | omega) only [↓zS_s0, ↓zS_s1, ↓zS_s2, ↓zS_s3, ↓zS_s20, ↓zS_s21, ↓zS_s22, ↓zS_s23, ↓zS_s24, ↓zS_s25, ↓zS_smt, ↓zS_txA, ↓zS_txA1, ↓zS_txA2, ↓zS_msA, ↓zS_msA1, ↓zS_msA2, ↓zS_msA3, ↓zS_msA4, ↓zS_ndA, ↓zS_ndA1, ↓zS_ndA2, ↓zS_tkA, ↓zS_tkA1, ↓zS_tkA2, ↓zS_0, ↓zS_1, ↓zS_2, ↓zS_3, ↓zS_4, ↓zS_5, ↓zS_6, ↓zS_7, ↓zS_8, ↓zS_9, ↓zS_10, ↓zS_1121, ↓zS_1122, ↓zS_1123, ↓zS_1124, ↓zS_1125, ↓zS_1126, ↓zS_1175, ↓zS_1176, ↓zS_1177, ↓zS_1178, ↓zS_1179, ↓zS_1180, ↓zS_1181, ↓zS_1182, ↓zS_1183, ↓zS_1184, ↓zS_1185, ↓zS_1186, ↓zS_1277, ↓zS_1278, ↓zS_1279, ↓zS_1280, ↓zS_1281, ↓zS_1282, ↓zS_1283, ↓zS_1284, ↓zS_1285, ↓zS_1302, ↓zS_1286, ↓zS_1287, ↓zS_1288, ↓zS_1289, ↓zS_1290, ↓zS_1291, ↓zS_1292, ↓zS_1293, ↓zS_1294, ↓zS_1295, ↓zS_1296, ↓zS_1297, ↓zS_1298, ↓zS_1299, ↓zS_1300, ↓zS_1301, ↓zS_sg, ↓zS_m0, ↓zS_m1, ↓zS_m2, ↓zS_m3, ↓zS_m4, ↓zS_m5, ↓zS_m6, ↓zS_m7, ↓zS_m8, ↓zS_m9, ↓zS_m10, ↓zS_m11, ↓zS_m12, ↓zS_m13, ↓zS_m14, ↓zS_m15, ↓zS_m16, ↓zS_m17, ↓zS_m18, ↓zS_m19, ↓zS_m20, ↓zS_m21, ↓zS_m22, ↓zS_m23, ↓zS_m24, ↓zS_m25, ↓zS_m26, ↓zS_m27, ↓zS_m28, ↓zS_m29, ↓bf_0_2, ↓bf_0_4, ↓bf_0_6, ↓bf_0_7, ↓bf_0_8, ↓bf_0_9, ↓bf_3_2, ↓bf_5_0, ↓bf_5_2, ↓bf_5_3, ↓bf_5_5, ↓bf_5_6, ↓bf_1121_0, ↓bf_1121_8, ↓bf_1121_9, ↓bf_1121_10, ↓bf_1121_13, ↓bf_1122_1, ↓bf_1181_1, ↓bf_1178_1, ↓bf_1178_2, ↓bf_1178_8, ↓bf_1178_9, ↓bf_1178_11, ↓bf_1185_2, ↓bf_1185_4, ↓bf_1185_5, ↓bf_1185_6, ↓bf_1185_7, ↓bf_1185_8, ↓bf_1185_9, ↓bf_1185_14, ↓bf_1185_16, ↓bf_1185_17, ↓bf_1185_18, ↓bf_1277_0, ↓bf_1277_1, ↓bf_1278_0, ↓bf_1278_2, ↓bf_1285_3, ↓bf_1285_4, ↓bf_1285_14, ↓bf_1285_15, ↓bf_1285_16, ↓bf_1285_17, ↓bf_1285_18, ↓bf_1285_19, ↓bf_1285_20, ↓bf_1285_21, ↓bf_1285_22, ↓bf_1285_23, ↓bf_1285_24, ↓bf_1285_25, ↓bf_1285_27, ↓bf_1285_28, ↓bf_1285_29, ↓bf_1285_30, ↓bf_2, ↓bf_2_, ↓bf_1126, ↓bf_1126_, ↓bf_s0, ↓bf_s1, ↓bf_s2, ↓bf_s3, ↓bf_s4, ↓bf_s5, ↓bf_s6, ↓bf_s7, ↓bf_s10, ↓bf_tx, ↓bf_tx_, ↓bf_mt, ↓bf_mt_, ↓bf_ms, ↓bf_ms_, ↓bf_nd, ↓bf_nd_, ↓bf_tk, ↓bf_tk_, ↓bf_txA4, ↓bf_txA5, ↓bf_msA3, ↓bf_msA4, ↓bf_msA5, ↓bf_msA6, ↓bf_ndA4, ↓bf_ndA5, ↓bf_tkA4, ↓bf_tkA5, ↓bf_m5, ↓bf_m6, ↓bf_m7, ↓bf_m8, ↓bf_m9, ↓bf_m10, ↓bf_m11, ↓bf_m12, ↓bf_m13, ↓bf_m14, ↓bf_m15, ↓bf_m16, ↓bf_m17, ↓bf_m18, ↓bf_m19, ↓bf_m20, ↓bf_m21, ↓bf_m22, ↓bf_m23, ↓bf_m24, ↓bf_m25, ↓bf_m26, ↓bf_m27, ↓bf_m28, ↓bf_m29, ↓bf_m30, ↓bf_m31, ↓bf_m32, ↓bf_m33, mI_R, sI_R, sL_R, q0, ↓zoL_e, ↓zob_e, ↓reduceIte, zoS_e, zob_e, nI_lt0, nI_lt00, nI_cl, nle_f, or_self, or_false, false_or]
  refine zok_b (e_fill_64 hs hi he (T := fun q => ((B (3 * q) <<< (16 &&& 31)) ||| (B (3 * q + 1) <<< (8 &&& 31))) ||| B (3 * q + 2)) e 0 zfuel _ (by omega) (zf_lt (by omega)) (show RF (mI (sI mm _ _) _ _ _).2.2 from hR) (by rw [mI_sI, sI_at, upd_at]) (fun j hj => ?_) (fun j hj k hk => ?_)) (fun q hq => ?_)
  · obtain rfl : j = 0 := by omega
    rw [mI_sI, sI_ne (by omega), sI_ne (by omega), hst]
    rfl
  · obtain rfl : j = 0 := by omega
    rw [mI_sI, sI_ne (by omega), sI_at, show st e 0 + k = k from Nat.zero_add k, if_pos ⟨by omega, hk⟩, hB _ (by omega), hB _ (by omega), hB _ (by omega)]
    rfl
  · obtain ⟨g1, g2, g3, g4, g5, g6⟩ := hq
    refine zok_s ⟨g1, fun a a1 a2 a3 => ?_, fun c hc => ?_, g4, g5, g6⟩
    · rw [g2 a a1 a2 a3, mI_sI, sI_ne a1, sI_ne a2]
    · rw [g3 c hc, mI_sI, sI_at, upd_ne hc, sI_ne (by omega)]
