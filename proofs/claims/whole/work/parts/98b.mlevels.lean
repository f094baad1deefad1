/-! PURE: the reference makes all levels of all its textures -/
section ZNA
variable {W H r : Nat}
theorem e_lv17 {e l i : Nat} (he : e ≤ 5) (hl : l ≤ e) (hi : i < 8) {m : zMem} : ∀ (d j fuel : Nat), j + d = l → d < fuel → L_MScene_levelAt_17 (sh0 W H) fuel (nI l) (nI (4095 * i + 3 * st e j)) (nI j) (nI (sd e j)) m = some (nI l, nI (4095 * i + 3 * st e l), nI l, nI (sd e l), m) := by
  intro d
  induction d with
  | zero =>
    intro j fuel hj hf
    obtain ⟨fu, rfl⟩ : ∃ fu, fuel = fu + 1 := ⟨fuel - 1, by omega⟩
    obtain rfl : j = l := by omega
    simp only [L_MScene_levelAt_17]
    rw [if_pos (Int32.le_refl _)]
  | succ d ih =>
    intro j fuel hj hf
    obtain ⟨fu, rfl⟩ : ∃ fu, fuel = fu + 1 := ⟨fuel - 1, by omega⟩
    obtain ⟨f1, f2, f3, f4, f5, f6⟩ := sd_fin ⟨e, by omega⟩ ⟨j, by omega⟩ (show j < e by omega)
    simp only at f1 f2 f3 f4 f5 f6
    have hle : (nI l ≤ nI j) = False := eq_false (by rw [nI_leD (by omega) (by omega)]; omega)
    have e1 : nI (4095 * i + 3 * st e j) + 3 * nI (sd e j) * nI (sd e j) = nI (4095 * i + 3 * st e (j + 1)) := by
      rw [nI_3mul, nI_mul, nI_add, Nat.mul_assoc]
      congr 1
      show _ = 4095 * i + 3 * (st e j + sd e j * sd e j)
      omega
    have e2 : nI (sd e j) / 2 = nI (sd e (j + 1)) := by
      rw [show (2 : Int32) = nI 2 from rfl, nI_div (by omega) (by decide) (by decide), f1]
      congr 1
      omega
    simp only [L_MScene_levelAt_17, hle, ↓reduceIte, zoL_e, e1, e2, nI_1]
    exact ih (j + 1) fu (by omega) (by omega)
theorem e_lvAt (hr : gM r) {m : zMem} (hR : RF m.2.2) {e l i : Nat} (he : e ≤ 5) (hl : l ≤ e) (hi : i < 8) (h1 : m.1 (r + 1) i = nI (sd e 0)) : F_MScene_levelAt (sh0 W H) m r (nI i) (nI l) = some (nI (4095 * i + 3 * st e l), m) := by
  have h0 := e_lv17 (W := W) (H := H) he hl hi (m := m) l 0 zfuel (by omega) (zf_lt (by omega))
  rw [show 4095 * i + 3 * st e 0 = 4095 * i from rfl, ← nI_k0] at h0
  unfold F_MScene_levelAt
  simp (disch := first | assumption | omega) only [↓zS_s0, ↓zS_s1, ↓zS_s2, ↓zS_s3, ↓zS_s20, ↓zS_s21, ↓zS_s22, ↓zS_s23, ↓zS_s24, ↓zS_s25, ↓zS_smt, ↓zS_txA, ↓zS_txA1, ↓zS_txA2, ↓zS_msA, ↓zS_msA1, ↓zS_msA2, ↓zS_msA3, ↓zS_msA4, ↓zS_ndA, ↓zS_ndA1, ↓zS_ndA2, ↓zS_tkA, ↓zS_tkA1, ↓zS_tkA2, ↓zS_0, ↓zS_1, ↓zS_2, ↓zS_3, ↓zS_4, ↓zS_5, ↓zS_6, ↓zS_7, ↓zS_8, ↓zS_9, ↓zS_10, ↓zS_1121, ↓zS_1122, ↓zS_1123, ↓zS_1124, ↓zS_1125, ↓zS_1126, ↓zS_1175, ↓zS_1176, ↓zS_1177, ↓zS_1178, ↓zS_1179, ↓zS_1180, ↓zS_1181, ↓zS_1182, ↓zS_1183, ↓zS_1184, ↓zS_1185, ↓zS_1186, ↓zS_1277, ↓zS_1278, ↓zS_1279, ↓zS_1280, ↓zS_1281, ↓zS_1282, ↓zS_1283, ↓zS_1284, ↓zS_1285, ↓zS_1302, ↓zS_1286, ↓zS_1287, ↓zS_1288, ↓zS_1289, ↓zS_1290, ↓zS_1291, ↓zS_1292, ↓zS_1293, ↓zS_1294, ↓zS_1295, ↓zS_1296, ↓zS_1297, ↓zS_1298, ↓zS_1299, ↓zS_1300, ↓zS_1301, ↓zS_sg, ↓zS_m0, ↓zS_m1, ↓zS_m2, ↓zS_m3, ↓zS_m4, ↓zS_m5, ↓zS_m6, ↓zS_m7, ↓zS_m8, ↓zS_m9, ↓zS_m10, ↓zS_m11, ↓zS_m12, ↓zS_m13, ↓zS_m14, ↓zS_m15, ↓zS_m16, ↓zS_m17, ↓zS_m18, ↓zS_m19, ↓zS_m20, ↓zS_m21, ↓zS_m22, ↓zS_m23, ↓zS_m24, ↓zS_m25, ↓zS_m26, ↓zS_m27, ↓zS_m28, ↓zS_m29, ↓bf_0_2, ↓bf_0_4, ↓bf_0_6, ↓bf_0_7, ↓bf_0_8, ↓bf_0_9, ↓bf_3_2, ↓bf_5_0, ↓bf_5_2, ↓bf_5_3, ↓bf_5_5, ↓bf_5_6, ↓bf_1121_0, ↓bf_1121_8, ↓bf_1121_9, ↓bf_1121_10, ↓bf_1121_13, ↓bf_1122_1, ↓bf_1181_1, ↓bf_1178_1, ↓bf_1178_2, ↓bf_1178_8, ↓bf_1178_9, ↓bf_1178_11, ↓bf_1185_2, ↓bf_1185_4, ↓bf_1185_5, ↓bf_1185_6, ↓bf_1185_7, ↓bf_1185_8, ↓bf_1185_9, ↓bf_1185_14, ↓bf_1185_16, ↓bf_1185_17, ↓bf_1185_18, ↓bf_1277_0, ↓bf_1277_1, ↓bf_1278_0, ↓bf_1278_2, ↓bf_1285_3, ↓bf_1285_4, ↓bf_1285_14, ↓bf_1285_15, ↓bf_1285_16, ↓bf_1285_17, ↓bf_1285_18, ↓bf_1285_19, ↓bf_1285_20, ↓bf_1285_21, ↓bf_1285_22, ↓bf_1285_23, ↓bf_1285_24, ↓bf_1285_25, ↓bf_1285_27, ↓bf_1285_28, ↓bf_1285_29, ↓bf_1285_30, ↓bf_2, ↓bf_2_, ↓bf_1126, ↓bf_1126_, ↓bf_s0, ↓bf_s1, ↓bf_s2, ↓bf_s3, ↓bf_s4, ↓bf_s5, ↓bf_s6, ↓bf_s7, ↓bf_s10, ↓bf_tx, ↓bf_tx_, ↓bf_mt, ↓bf_mt_, ↓bf_ms, ↓bf_ms_, ↓bf_nd, ↓bf_nd_, ↓bf_tk, ↓bf_tk_, ↓bf_txA4, ↓bf_txA5, ↓bf_msA3, ↓bf_msA4, ↓bf_msA5, ↓bf_msA6, ↓bf_ndA4, ↓bf_ndA5, ↓bf_tkA4, ↓bf_tkA5, ↓bf_m5, ↓bf_m6, ↓bf_m7, ↓bf_m8, ↓bf_m9, ↓bf_m10, ↓bf_m11, ↓bf_m12, ↓bf_m13, ↓bf_m14, ↓bf_m15, ↓bf_m16, ↓bf_m17, ↓bf_m18, ↓bf_m19, ↓bf_m20, ↓bf_m21, ↓bf_m22, ↓bf_m23, ↓bf_m24, ↓bf_m25, ↓bf_m26, ↓bf_m27, ↓bf_m28, ↓bf_m29, ↓bf_m30, ↓bf_m31, ↓bf_m32, ↓bf_m33, mI_R, sI_R, sL_R, nI_4095mul, h1, ↓zob_h h0, h0, ↓zoL_e, ↓zob_e, ↓reduceIte, zoS_e, zob_e, nI_lt0, nI_lt00, nI_cl, nle_f, or_self, or_false, false_or]
/-- all levels from l on -/
theorem e_mk21 (hr : gM r) {i e : Nat} (hi : i < 8) (he : e ≤ 5) {B : Nat → Nat} (hB : ∀ k, k < 3 * (sd e 0 * sd e 0) → B k < 256) : ∀ (d l fuel : Nat) (m : zMem), l + d = e → d + 1 < fuel → RF m.2.2 → m.1 (r + 1) i = nI (sd e 0) → (∀ j, j ≤ l → ∀ k, k < 3 * (sd e j * sd e j) → m.1 (r + 4) (4095 * i + 3 * st e j + k) = nI (lvN B e j k)) → zok (L_MScene_makeLevels_21 (sh0 W H) fuel r (nI i) (nI (sd e l / 2)) (nI (l + 1)) m) (fun q => q.1 = r ∧ q.2.1 = nI i ∧ q.2.2.2.2.2 = m.2 ∧ (∀ a, a ≠ r + 4 → q.2.2.2.2.1 a = m.1 a) ∧ (∀ b, ¬ (4095 * i ≤ b ∧ b < 4095 * i + 4095) → q.2.2.2.2.1 (r + 4) b = m.1 (r + 4) b) ∧ ∀ j, j ≤ e → ∀ k, k < 3 * (sd e j * sd e j) → q.2.2.2.2.1 (r + 4) (4095 * i + 3 * st e j + k) = nI (lvN B e j k)) := by
  intro d
  induction d with
  | zero =>
    intro l fuel m hl hf hR h1 hm
    obtain ⟨fu, rfl⟩ : ∃ fu, fuel = fu + 1 := ⟨fuel - 1, by omega⟩
    obtain rfl : l = e := by omega
    have e0 : sd l l / 2 = 0 := by unfold sd; rw [Nat.sub_self]
    simp only [L_MScene_makeLevels_21, e0]
    rw [if_pos (by decide)]
    exact zok_s ⟨rfl, rfl, rfl, fun _ _ => rfl, fun _ _ => rfl, hm⟩
  | succ d ih =>
    intro l fuel m hl hf hR h1 hm
    obtain ⟨fu, rfl⟩ : ∃ fu, fuel = fu + 1 := ⟨fuel - 1, by omega⟩
    obtain ⟨f1, f2, f3, f4, f5, f6⟩ := sd_fin ⟨e, by omega⟩ ⟨l, by omega⟩ (show l < e by omega)
    simp only at f1 f2 f3 f4 f5 f6
    have e5 : sd e l * sd e l = 4 * (sd e (l + 1) * sd e (l + 1)) := by rw [f1, Nat.mul_assoc, Nat.mul_left_comm (sd e (l + 1)) 2 (sd e (l + 1)), ← Nat.mul_assoc]
    have f3' : st e l + 4 * (sd e (l + 1) * sd e (l + 1)) = st e (l + 1) := by rw [← Nat.mul_assoc]; exact f3
    have bl := lv_255 he hB l (by omega)
    have e2 : sd e l / 2 = sd e (l + 1) := by omega
    have hlt : (nI (sd e (l + 1)) < 1) = False := eq_false (fun z => by
      have := i32_lt.mp z
      rw [nI_toInt (by omega), show (1 : Int32).toInt = 1 by decide] at this
      omega)
    have hd2 : nI (sd e (l + 1)) / 2 = nI (sd e (l + 1) / 2) := nI_div (b := 2) (by omega) (by decide) (by decide)
    have hpr : nI (l + 1) - 1 = nI l := nI_pred l
    have k47 := e_mk47 (W := W) (H := H) hr (i := i) (lv := l + 1) (h := sd e (l + 1)) (F := 4095 * i + 3 * st e l) (T := 4095 * i + 3 * st e (l + 1)) f2 (by omega) (by omega) (by omega) (S := lvN B e l) (fun q hq => bl q (by omega)) (3 * (sd e (l + 1) * sd e (l + 1))) 0 zfuel m (by omega) (zf_lt (by omega)) hR (fun q hq => hm l (Nat.le_refl _) q (by omega))
    rw [← nI_k0] at k47
    rw [e2]
    simp only [L_MScene_makeLevels_21, hlt, ↓reduceIte, sh_m0 hr, zoS_e, hpr, e_lvAt hr hR he (show l ≤ e by omega) hi h1, zob_e, e_lvAt hr hR he (show l + 1 ≤ e by omega) hi h1, k47, zoL_e, hd2, nI_1]
    have hst : ∀ j, j ≤ l → st e j + sd e j * sd e j ≤ st e (l + 1) := fun j hj => st_fin ⟨e, by omega⟩ ⟨l + 1, by omega⟩ ⟨j, by omega⟩ (show j < l + 1 by omega) (show l + 1 ≤ e by omega)
    refine zok_w (ih (l + 1) fu _ (by omega) (by omega) (show RF (sI m _ _).2.2 from hR) (by rw [sI_ne (by omega)]; exact h1) (fun j hj k hk => ?_)) (fun q hq => ?_)
    · rw [sI_at]
      by_cases hjl : j = l + 1
      · subst hjl
        rw [if_pos (by omega), show 4095 * i + 3 * st e (l + 1) + k - (4095 * i + 3 * st e (l + 1)) = k by omega]
        rfl
      · have := hst j (by omega)
        rw [if_neg (by omega)]
        exact hm j (by omega) k hk
    · obtain ⟨q1, q2, q3, q4, q5, q6⟩ := hq
      refine ⟨q1, q2, q3, fun a ha => ?_, fun b hb => ?_, q6⟩
      · rw [q4 a ha, sI_ne ha]
      · rw [q5 b hb, sI_at, if_neg (by omega)]
set_option maxHeartbeats 1000000 in
theorem e_mk2 (hr : gM r) {c : Nat} (hc : c ≤ 8) {E : Nat → Nat} {BB : Nat → Nat → Nat} (hE : ∀ t, t < c → E t ≤ 5) (hB : ∀ t, t < c → ∀ k, k < 3 * (sd (E t) 0 * sd (E t) 0) → BB t k < 256) : ∀ (d i fuel : Nat) (m : zMem), i + d = c → d < fuel → RF m.2.2 → m.1 r 0 = nI c → (∀ t, t < c → m.1 (r + 1) t = nI (sd (E t) 0)) → (∀ t, i ≤ t → t < c → ∀ k, k < 3 * (sd (E t) 0 * sd (E t) 0) → m.1 (r + 4) (4095 * t + k) = nI (BB t k)) → zok (L_MScene_makeLevels_2 (sh0 W H) fuel r (nI i) m) (fun q => q.2.2.2 = m.2 ∧ (∀ a, a ≠ r + 4 → q.2.2.1 a = m.1 a) ∧ (∀ b, b < 4095 * i → q.2.2.1 (r + 4) b = m.1 (r + 4) b) ∧ ∀ t, i ≤ t → t < c → ∀ j, j ≤ E t → ∀ k, k < 3 * (sd (E t) j * sd (E t) j) → q.2.2.1 (r + 4) (4095 * t + 3 * st (E t) j + k) = nI (lvN (BB t) (E t) j k)) := by
  intro d
  induction d with
  | zero =>
    intro i fuel m hi hf hR h0 h1 hm
    obtain ⟨fu, rfl⟩ : ∃ fu, fuel = fu + 1 := ⟨fuel - 1, by omega⟩
    obtain rfl : i = c := by omega
    simp only [L_MScene_makeLevels_2, sh_m0 hr, zoS_e, h0]
    rw [if_pos (Int32.le_refl _)]
    exact zok_s ⟨rfl, fun _ _ => rfl, fun _ _ => rfl, fun t h2 h3 => by omega⟩
  | succ d ih =>
    intro i fuel m hi hf hR h0 h1 hm
    obtain ⟨fu, rfl⟩ : ∃ fu, fuel = fu + 1 := ⟨fuel - 1, by omega⟩
    have hic : i < c := by omega
    have hle : (nI c ≤ nI i) = False := eq_false (by rw [nI_leD (by omega) (by omega)]; omega)
    have h1i := h1 i hic
    have hEi := hE i hic
    have hsd : sd (E i) 0 ≤ 32 := (show ∀ e : Fin 6, sd e 0 ≤ 32 by decide) ⟨E i, by omega⟩
    have hd2 : nI (sd (E i) 0) / 2 = nI (sd (E i) 0 / 2) := nI_div (b := 2) (by omega) (by decide) (by decide)
    have k21 := e_mk21 (W := W) (H := H) hr (i := i) (e := E i) (by omega) hEi (hB i hic) (E i) 0 zfuel m (by omega) (zf_lt (by omega)) hR h1i (fun j hj k hk => by
      obtain rfl : j = 0 := by omega
      rw [show 4095 * i + 3 * st (E i) 0 + k = 4095 * i + k from rfl]
      exact hm i (Nat.le_refl _) hic k hk)
    rw [show nI (0 + 1) = 1 from rfl] at k21
    obtain ⟨q, e, q1, q2, q3, q4, q5, q6⟩ := k21
    simp (disch := first | assumption | omega) only [L_MScene_makeLevels_2, ↓zS_s0, ↓zS_s1, ↓zS_s2, ↓zS_s3, ↓zS_s20, ↓zS_s21, ↓zS_s22, ↓zS_s23, ↓zS_s24, ↓zS_s25, ↓zS_smt, ↓zS_txA, ↓zS_txA1, ↓zS_txA2, ↓zS_msA, ↓zS_msA1, ↓zS_msA2, ↓zS_msA3, ↓zS_msA4, ↓zS_ndA, ↓zS_ndA1, ↓zS_ndA2, ↓zS_tkA, ↓zS_tkA1, ↓zS_tkA2, ↓zS_0, ↓zS_1, ↓zS_2, ↓zS_3, ↓zS_4, ↓zS_5, ↓zS_6, ↓zS_7, ↓zS_8, ↓zS_9, ↓zS_10, ↓zS_1121, ↓zS_1122, ↓zS_1123, ↓zS_1124, ↓zS_1125, ↓zS_1126, ↓zS_1175, ↓zS_1176, ↓zS_1177, ↓zS_1178, ↓zS_1179, ↓zS_1180, ↓zS_1181, ↓zS_1182, ↓zS_1183, ↓zS_1184, ↓zS_1185, ↓zS_1186, ↓zS_1277, ↓zS_1278, ↓zS_1279, ↓zS_1280, ↓zS_1281, ↓zS_1282, ↓zS_1283, ↓zS_1284, ↓zS_1285, ↓zS_1302, ↓zS_1286, ↓zS_1287, ↓zS_1288, ↓zS_1289, ↓zS_1290, ↓zS_1291, ↓zS_1292, ↓zS_1293, ↓zS_1294, ↓zS_1295, ↓zS_1296, ↓zS_1297, ↓zS_1298, ↓zS_1299, ↓zS_1300, ↓zS_1301, ↓zS_sg, ↓zS_m0, ↓zS_m1, ↓zS_m2, ↓zS_m3, ↓zS_m4, ↓zS_m5, ↓zS_m6, ↓zS_m7, ↓zS_m8, ↓zS_m9, ↓zS_m10, ↓zS_m11, ↓zS_m12, ↓zS_m13, ↓zS_m14, ↓zS_m15, ↓zS_m16, ↓zS_m17, ↓zS_m18, ↓zS_m19, ↓zS_m20, ↓zS_m21, ↓zS_m22, ↓zS_m23, ↓zS_m24, ↓zS_m25, ↓zS_m26, ↓zS_m27, ↓zS_m28, ↓zS_m29, ↓bf_0_2, ↓bf_0_4, ↓bf_0_6, ↓bf_0_7, ↓bf_0_8, ↓bf_0_9, ↓bf_3_2, ↓bf_5_0, ↓bf_5_2, ↓bf_5_3, ↓bf_5_5, ↓bf_5_6, ↓bf_1121_0, ↓bf_1121_8, ↓bf_1121_9, ↓bf_1121_10, ↓bf_1121_13, ↓bf_1122_1, ↓bf_1181_1, ↓bf_1178_1, ↓bf_1178_2, ↓bf_1178_8, ↓bf_1178_9, ↓bf_1178_11, ↓bf_1185_2, ↓bf_1185_4, ↓bf_1185_5, ↓bf_1185_6, ↓bf_1185_7, ↓bf_1185_8, ↓bf_1185_9, ↓bf_1185_14, ↓bf_1185_16, ↓bf_1185_17, ↓bf_1185_18, ↓bf_1277_0, ↓bf_1277_1, ↓bf_1278_0, ↓bf_1278_2, ↓bf_1285_3, ↓bf_1285_4, ↓bf_1285_14, ↓bf_1285_15, ↓bf_1285_16, ↓bf_1285_17, ↓bf_1285_18, ↓bf_1285_19, ↓bf_1285_20, ↓bf_1285_21, ↓bf_1285_22, ↓bf_1285_23, ↓bf_1285_24, ↓bf_1285_25, ↓bf_1285_27, ↓bf_1285_28, ↓bf_1285_29, ↓bf_1285_30, ↓bf_2, ↓bf_2_, ↓bf_1126, ↓bf_1126_, ↓bf_s0, ↓bf_s1, ↓bf_s2, ↓bf_s3, ↓bf_s4, ↓bf_s5, ↓bf_s6, ↓bf_s7, ↓bf_s10, ↓bf_tx, ↓bf_tx_, ↓bf_mt, ↓bf_mt_, ↓bf_ms, ↓bf_ms_, ↓bf_nd, ↓bf_nd_, ↓bf_tk, ↓bf_tk_, ↓bf_txA4, ↓bf_txA5, ↓bf_msA3, ↓bf_msA4, ↓bf_msA5, ↓bf_msA6, ↓bf_ndA4, ↓bf_ndA5, ↓bf_tkA4, ↓bf_tkA5, ↓bf_m5, ↓bf_m6, ↓bf_m7, ↓bf_m8, ↓bf_m9, ↓bf_m10, ↓bf_m11, ↓bf_m12, ↓bf_m13, ↓bf_m14, ↓bf_m15, ↓bf_m16, ↓bf_m17, ↓bf_m18, ↓bf_m19, ↓bf_m20, ↓bf_m21, ↓bf_m22, ↓bf_m23, ↓bf_m24, ↓bf_m25, ↓bf_m26, ↓bf_m27, ↓bf_m28, ↓bf_m29, ↓bf_m30, ↓bf_m31, ↓bf_m32, ↓bf_m33, mI_R, sI_R, sL_R, h0, hle, h1i, hd2, ↓zob_h e, e, q1, q2, nI_1, ↓zoL_e, ↓zob_e, ↓reduceIte, zoS_e, zob_e, nI_lt0, nI_lt00, nI_cl, nle_f, or_self, or_false, false_or]
    have hR2 : RF q.2.2.2.2.2.2 := by rw [q3]; exact hR
    refine zok_w (ih (i + 1) fu q.2.2.2.2 (by omega) (by omega) hR2 (by rw [q4 r (by omega)]; exact h0) (fun t ht => by rw [q4 (r + 1) (by omega)]; exact h1 t ht) (fun t h2 h3 k hk => ?_)) (fun z hz => ?_)
    · rw [q5 _ (by omega)]
      exact hm t (by omega) h3 k hk
    · obtain ⟨z1, z2, z3, z4⟩ := hz
      refine ⟨by rw [z1, q3], fun a ha => by rw [z2 a ha, q4 a ha], fun b hb => by rw [z3 b (by omega), q5 b (by omega)], fun t h2 h3 j hj k hk => ?_⟩
      by_cases hti : t = i
      · subst hti
        have hb2 : 3 * st (E t) j + k < 4095 := by
          have := (show ∀ e : Fin 6, ∀ j : Fin 6, j.val ≤ e.val → 3 * (st e j + sd e j * sd e j) ≤ 4095 by decide +kernel) ⟨E t, by omega⟩ ⟨j, by omega⟩ hj
          simp only at this
          omega
        rw [z3 _ (by omega)]
        exact q6 j hj k hk
      · exact z4 t (by omega) h3 j hj k hk
/-- the reference makes the levels of every texture -/
theorem e_mkL (hr : gM r) {m : zMem} (hR : RF m.2.2) {c : Nat} (hc : c ≤ 8) {E : Nat → Nat} {BB : Nat → Nat → Nat} (hE : ∀ t, t < c → E t ≤ 5) (hB : ∀ t, t < c → ∀ k, k < 3 * (sd (E t) 0 * sd (E t) 0) → BB t k < 256) (h0 : m.1 r 0 = nI c) (h1 : ∀ t, t < c → m.1 (r + 1) t = nI (sd (E t) 0)) (hm : ∀ t, t < c → ∀ k, k < 3 * (sd (E t) 0 * sd (E t) 0) → m.1 (r + 4) (4095 * t + k) = nI (BB t k)) : zok (F_MScene_makeLevels (sh0 W H) m r) (fun m' => m'.2 = m.2 ∧ (∀ a, a ≠ r + 4 → m'.1 a = m.1 a) ∧ ∀ t, t < c → ∀ j, j ≤ E t → ∀ k, k < 3 * (sd (E t) j * sd (E t) j) → m'.1 (r + 4) (4095 * t + 3 * st (E t) j + k) = nI (lvN (BB t) (E t) j k)) := by
  unfold F_MScene_makeLevels
  rw [nI_k0]
  refine zok_b (e_mk2 hr hc hE hB c 0 zfuel m (by omega) (zf_lt (by omega)) hR h0 h1 (fun t _ h3 => hm t h3)) (fun q hq => ?_)
  exact zok_s ⟨hq.1, hq.2.1, fun t ht => hq.2.2.2 t (Nat.zero_le _) ht⟩
end ZNA
