/-! PURE: the reference makes its levels -/
theorem nI_rm {a b : Nat} (ha : a < 2147483648) (hb : b < 2147483648) (h0 : 0 < b) : nI a - nI (a / b) * nI b = nI (a % b) := by
  rw [nI_mul, nI_sub (Nat.div_mul_le_self a b)]
  congr 1
  have := Nat.div_add_mod a b
  rw [Nat.mul_comm] at this
  omega
theorem ix4 {h q : Nat} (h0 : 0 < h) (hq : q < h * h) : 2 * (q / h) * (2 * h) + 2 * (q % h) + 2 * h + 1 < 4 * (h * h) := by
  have hm : q % h < h := Nat.mod_lt _ h0
  have hq1 : q / h < h := Nat.div_lt_of_lt_mul hq
  have hq2 : (q / h) * h + h ≤ h * h := by
    have := Nat.mul_le_mul_right h (show q / h + 1 ≤ h by omega)
    rw [Nat.add_mul] at this
    omega
  have e4 : 2 * (q / h) * (2 * h) = 4 * ((q / h) * h) := by rw [Nat.mul_assoc, Nat.mul_left_comm (q / h) 2 h, ← Nat.mul_assoc]
  omega
def mn4 (S : Nat → Nat) (h k : Nat) : Nat := (S (3 * (2 * (k / 3 / h) * (2 * h) + 2 * (k / 3 % h)) + k % 3) + S (3 * (2 * (k / 3 / h) * (2 * h) + 2 * (k / 3 % h) + 1) + k % 3) + S (3 * (2 * (k / 3 / h) * (2 * h) + 2 * (k / 3 % h) + 2 * h) + k % 3) + S (3 * (2 * (k / 3 / h) * (2 * h) + 2 * (k / 3 % h) + 2 * h + 1) + k % 3)) / 4
section ZMZ
variable {W H r : Nat}
set_option maxHeartbeats 4000000 in
theorem e_mk47 (hr : gM r) {i h F T lv : Nat} (h0 : 0 < h) (h16 : h ≤ 16) (hF : F + 12 * (h * h) ≤ T) (hT : T + 3 * (h * h) ≤ 32760) {S : Nat → Nat} (hS : ∀ q, q < 12 * (h * h) → S q < 256) : ∀ (d k fuel : Nat) (m : zMem), k + d = 3 * (h * h) → d < fuel → RF m.2.2 → (∀ q, q < 12 * (h * h) → m.1 (r + 4) (F + q) = nI (S q)) → L_MScene_makeLevels_47 (sh0 W H) fuel r (nI i) (nI h) (nI lv) (nI F) (nI T) (nI k) m = some (r, nI i, nI h, nI lv, nI F, nI T, nI (3 * (h * h)), sI m (r + 4) (fun q => if T + k ≤ q ∧ q < T + 3 * (h * h) then nI (mn4 S h (q - T)) else m.1 (r + 4) q)) := by
  have hhh : h * h ≤ 256 := Nat.mul_le_mul h16 h16
  have h33 : 3 * h * h = 3 * (h * h) := Nat.mul_assoc 3 h h
  have hz : (nI h = 0) = False := eq_false (nI_ne0 (by omega) (by omega))
  intro d
  induction d with
  | zero =>
    intro k fuel m hk hf hR hm
    obtain ⟨fu, rfl⟩ : ∃ fu, fuel = fu + 1 := ⟨fuel - 1, by omega⟩
    obtain rfl : k = 3 * (h * h) := by omega
    simp only [L_MScene_makeLevels_47, nI_3mul, nI_mul, h33]
    rw [if_pos (Int32.le_refl _)]
    refine congrArg (fun z => some (r, nI i, nI h, nI lv, nI F, nI T, nI (3 * (h * h)), z)) ?_
    rw [sI_to (h := m.1 (r + 4)) (fun k => if_neg (by omega)), sI_id]
  | succ d ih =>
    intro k fuel m hk hf hR hm
    obtain ⟨fu, rfl⟩ : ∃ fu, fuel = fu + 1 := ⟨fuel - 1, by omega⟩
    have hle : (3 * nI h * nI h ≤ nI k) = False := eq_false (by rw [nI_3mul, nI_mul, h33, nI_leD (by omega) (by omega)]; omega)
    have hx := ix4 (q := k / 3) h0 (by omega)
    have h3 : k % 3 < 3 := Nat.mod_lt _ (by decide)
    have e1 : nI k - nI (k / 3) * 3 = nI (k % 3) := nI_rm (b := 3) (by omega) (by decide) (by decide)
    have e2 : nI k / 3 = nI (k / 3) := nI_d3 (by omega)
    have e3 : nI (k / 3) - nI (k / 3 / h) * nI h = nI (k / 3 % h) := nI_rm (by omega) (by omega) h0
    have e4 : nI (k / 3) / nI h = nI (k / 3 / h) := nI_div (by omega) (by omega) h0
    have e5 : nI F + 3 * (2 * nI h * 2 * nI (k / 3 / h) + 2 * nI (k / 3 % h)) + nI (k % 3) = nI (F + (3 * (2 * (k / 3 / h) * (2 * h) + 2 * (k / 3 % h)) + k % 3)) := by
      rw [nI_2mul, nI_k2, nI_mul, nI_mul, nI_mul, nI_add, nI_3mul, nI_add, nI_add]
      congr 1
      have : 2 * h * 2 * (k / 3 / h) = 2 * (k / 3 / h) * (2 * h) := by
        rw [Nat.mul_assoc (2 * h) 2 (k / 3 / h), Nat.mul_comm]
      omega
    have hval : (nI (S (3 * (2 * (k / 3 / h) * (2 * h) + 2 * (k / 3 % h)) + k % 3)) + nI (S (3 * (2 * (k / 3 / h) * (2 * h) + 2 * (k / 3 % h) + 1) + k % 3)) + nI (S (3 * (2 * (k / 3 / h) * (2 * h) + 2 * (k / 3 % h) + 2 * h) + k % 3)) + nI (S (3 * (2 * (k / 3 / h) * (2 * h) + 2 * (k / 3 % h) + 2 * h + 1) + k % 3))) / 4 = nI (mn4 S h k) := by
      unfold mn4
      generalize 2 * (k / 3 / h) * (2 * h) + 2 * (k / 3 % h) = x at hx
      have b1 := hS (3 * x + k % 3) (by omega)
      have b2 := hS (3 * (x + 1) + k % 3) (by omega)
      have b3 := hS (3 * (x + 2 * h) + k % 3) (by omega)
      have b4 := hS (3 * (x + 2 * h + 1) + k % 3) (by omega)
      rw [nI_add, nI_add, nI_add]
      exact nI_div (b := 4) (by omega) (by decide) (by decide)
    have g1 := hm (3 * (2 * (k / 3 / h) * (2 * h) + 2 * (k / 3 % h)) + k % 3) (by omega)
    have g2 := hm (3 * (2 * (k / 3 / h) * (2 * h) + 2 * (k / 3 % h) + 1) + k % 3) (by omega)
    have g3 := hm (3 * (2 * (k / 3 / h) * (2 * h) + 2 * (k / 3 % h) + 2 * h) + k % 3) (by omega)
    have g4 := hm (3 * (2 * (k / 3 / h) * (2 * h) + 2 * (k / 3 % h) + 2 * h + 1) + k % 3) (by omega)
    generalize nI (S (3 * (2 * (k / 3 / h) * (2 * h) + 2 * (k / 3 % h)) + k % 3)) = s1 at hval g1
    generalize nI (S (3 * (2 * (k / 3 / h) * (2 * h) + 2 * (k / 3 % h) + 1) + k % 3)) = s2 at hval g2
    generalize nI (S (3 * (2 * (k / 3 / h) * (2 * h) + 2 * (k / 3 % h) + 2 * h) + k % 3)) = s3 at hval g3
    generalize nI (S (3 * (2 * (k / 3 / h) * (2 * h) + 2 * (k / 3 % h) + 2 * h + 1) + k % 3)) = s4 at hval g4
    generalize hX : 2 * (k / 3 / h) * (2 * h) + 2 * (k / 3 % h) = x at hx e5 g1 g2 g3 g4
    have f2 : F + (3 * x + k % 3) + 3 = F + (3 * (x + 1) + k % 3) := by omega
    have f3 : F + (3 * x + k % 3) + 6 * h = F + (3 * (x + 2 * h) + k % 3) := by omega
    have f4 : F + (3 * (x + 2 * h) + k % 3) + 3 = F + (3 * (x + 2 * h + 1) + k % 3) := by omega
    have k3 : ∀ y : Nat, nI y + 3 = nI (y + 3) := fun y => by rw [nI_k3, nI_add]
    have k6 : nI (F + (3 * x + k % 3)) + 6 * nI h = nI (F + (3 * x + k % 3) + 6 * h) := by rw [nI_k6, nI_mul, nI_add]
    simp (disch := first | assumption | omega) only [L_MScene_makeLevels_47, hle, hz, e1, e2, e3, e4, e5, k3, k6, f2, f3, f4, g1, g2, g3, g4, hval, nI_add, nI_1, ↓zS_s0, ↓zS_s1, ↓zS_s2, ↓zS_s3, ↓zS_s20, ↓zS_s21, ↓zS_s22, ↓zS_s23, ↓zS_s24, ↓zS_s25, ↓zS_smt, ↓zS_txA, ↓zS_txA1, ↓zS_txA2, ↓zS_msA, ↓zS_msA1, ↓zS_msA2, ↓zS_msA3, ↓zS_msA4, ↓zS_ndA, ↓zS_ndA1, ↓zS_ndA2, ↓zS_tkA, ↓zS_tkA1, ↓zS_tkA2, ↓zS_0, ↓zS_1, ↓zS_2, ↓zS_3, ↓zS_4, ↓zS_5, ↓zS_6, ↓zS_7, ↓zS_8, ↓zS_9, ↓zS_10, ↓zS_1121, ↓zS_1122, ↓zS_1123, ↓zS_1124, ↓zS_1125, ↓zS_1126, ↓zS_1175, ↓zS_1176, ↓zS_1177, ↓zS_1178, ↓zS_1179, ↓zS_1180, ↓zS_1181, ↓zS_1182, ↓zS_1183, ↓zS_1184, ↓zS_1185, ↓zS_1186, ↓zS_1277, ↓zS_1278, ↓zS_1279, ↓zS_1280, ↓zS_1281, ↓zS_1282, ↓zS_1283, ↓zS_1284, ↓zS_1285, ↓zS_1302, ↓zS_1286, ↓zS_1287, ↓zS_1288, ↓zS_1289, ↓zS_1290, ↓zS_1291, ↓zS_1292, ↓zS_1293, ↓zS_1294, ↓zS_1295, ↓zS_1296, ↓zS_1297, ↓zS_1298, ↓zS_1299, ↓zS_1300, ↓zS_1301, ↓zS_sg, ↓zS_m0, ↓zS_m1, ↓zS_m2, ↓zS_m3, ↓zS_m4, ↓zS_m5, ↓zS_m6, ↓zS_m7, ↓zS_m8, ↓zS_m9, ↓zS_m10, ↓zS_m11, ↓zS_m12, ↓zS_m13, ↓zS_m14, ↓zS_m15, ↓zS_m16, ↓zS_m17, ↓zS_m18, ↓zS_m19, ↓zS_m20, ↓zS_m21, ↓zS_m22, ↓zS_m23, ↓zS_m24, ↓zS_m25, ↓zS_m26, ↓zS_m27, ↓zS_m28, ↓zS_m29, ↓bf_0_2, ↓bf_0_4, ↓bf_0_6, ↓bf_0_7, ↓bf_0_8, ↓bf_0_9, ↓bf_3_2, ↓bf_5_0, ↓bf_5_2, ↓bf_5_3, ↓bf_5_5, ↓bf_5_6, ↓bf_1121_0, ↓bf_1121_8, ↓bf_1121_9, ↓bf_1121_10, ↓bf_1121_13, ↓bf_1122_1, ↓bf_1181_1, ↓bf_1178_1, ↓bf_1178_2, ↓bf_1178_8, ↓bf_1178_9, ↓bf_1178_11, ↓bf_1185_2, ↓bf_1185_4, ↓bf_1185_5, ↓bf_1185_6, ↓bf_1185_7, ↓bf_1185_8, ↓bf_1185_9, ↓bf_1185_14, ↓bf_1185_16, ↓bf_1185_17, ↓bf_1185_18, ↓bf_1277_0, ↓bf_1277_1, ↓bf_1278_0, ↓bf_1278_2, ↓bf_1285_3, ↓bf_1285_4, ↓bf_1285_14, ↓bf_1285_15, ↓bf_1285_16, ↓bf_1285_17, ↓bf_1285_18, ↓bf_1285_19, ↓bf_1285_20, ↓bf_1285_21, ↓bf_1285_22, ↓bf_1285_23, ↓bf_1285_24, ↓bf_1285_25, ↓bf_1285_27, ↓bf_1285_28, ↓bf_1285_29, ↓bf_1285_30, ↓bf_2, ↓bf_2_, ↓bf_1126, ↓bf_1126_, ↓bf_s0, ↓bf_s1, ↓bf_s2, ↓bf_s3, ↓bf_s4, ↓bf_s5, ↓bf_s6, ↓bf_s7, ↓bf_s10, ↓bf_tx, ↓bf_tx_, ↓bf_mt, ↓bf_mt_, ↓bf_ms, ↓bf_ms_, ↓bf_nd, ↓bf_nd_, ↓bf_tk, ↓bf_tk_, ↓bf_txA4, ↓bf_txA5, ↓bf_msA3, ↓bf_msA4, ↓bf_msA5, ↓bf_msA6, ↓bf_ndA4, ↓bf_ndA5, ↓bf_tkA4, ↓bf_tkA5, ↓bf_m5, ↓bf_m6, ↓bf_m7, ↓bf_m8, ↓bf_m9, ↓bf_m10, ↓bf_m11, ↓bf_m12, ↓bf_m13, ↓bf_m14, ↓bf_m15, ↓bf_m16, ↓bf_m17, ↓bf_m18, ↓bf_m19, ↓bf_m20, ↓bf_m21, ↓bf_m22, ↓bf_m23, ↓bf_m24, ↓bf_m25, ↓bf_m26, ↓bf_m27, ↓bf_m28, ↓bf_m29, ↓bf_m30, ↓bf_m31, ↓bf_m32, ↓bf_m33, mI_R, sI_R, sL_R, ↓zoL_e, ↓zob_e, ↓reduceIte, zoS_e, zob_e, nI_lt0, nI_lt00, nI_cl, nle_f, or_self, or_false, false_or]
    rw [mI_sI, ih (k + 1) fu _ (by omega) (by omega) (show RF (sI m _ _).2.2 from hR) (fun q hq => by rw [sI_at, upd_ne (by omega)]; exact hm q hq)]
    refine congrArg (fun z => some (r, nI i, nI h, nI lv, nI F, nI T, nI (3 * (h * h)), z)) ?_
    rw [sI_sI]
    refine sI_to (fun q => ?_)
    simp only [sI_at]
    by_cases hq : q = T + k
    · subst hq
      rw [if_neg (by omega), if_pos (by omega), upd_at, show T + k - T = k by omega]
    · by_cases hq2 : T + k ≤ q ∧ q < T + 3 * (h * h)
      · rw [if_pos (by omega), if_pos hq2]
      · rw [if_neg (by omega), if_neg hq2, upd_ne hq]
end ZMZ
