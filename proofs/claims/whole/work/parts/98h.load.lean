/-! PURE: what holds between two calls; both loads -/
/-- the numbers that never change -/
def vK (W H : Nat) (f : Nat → Nat → Int32) : Prop := (f 0 0 = nI W ∧ f 0 1 = nI H) ∧ (f 1121 5 = nI W ∧ f 1121 6 = nI H) ∧ (f 1178 0 = nI ((W + 7) / 8 * ((H + 7) / 8)) ∧ f 1178 4 = nI W ∧ f 1178 5 = nI H ∧ f 1178 6 = nI ((W + 7) / 8)) ∧ (f 1185 0 = nI W ∧ f 1185 1 = nI H) ∧ (f 1285 1 = nI W ∧ f 1285 2 = nI H)
/-- the tape -/
def vT (f : Nat → Nat → Int32) : Prop := f 1186 = f 1 ∧ (∃ n, n ≤ 65536 ∧ f 0 3 = nI n ∧ f 1185 3 = nI n) ∧ btB (f 1) 65536
/-- the scene -/
def vS (mm : zMem) : Prop := ∃ s, gS s ∧ mm.2.2 0 5 = some s ∧ Rsc mm.1 s (fun a => mm.1 (1187 + a)) ∧ mm.1 s 8 = mm.1 1185 10 ∧ (¬ mm.1 s 9 = 0 → Plc mm.1 s 1187 (cn (fun a => mm.1 (1187 + a)) 3))
def vQ (f : Nat → Nat → Int32) : Prop := ∀ s, gS s → ∀ i, i < 8 → f (txA s i + 2) 0 = 0
/-- errors, background, what was picked, the file -/
def vO (f : Nat → Nat → Int32) : Prop := (f 3 0 = f 1185 12 ∧ f 3 1 = f 1185 13) ∧ (∃ r g b, r < 256 ∧ g < 256 ∧ b < 256 ∧ f 0 10 = pk r g b ∧ f 1281 0 = nI r ∧ f 1281 1 = nI g ∧ f 1281 2 = nI b) ∧ f 0 11 = f 1185 19 ∧ ∃ z, z ≤ 7958 ∧ f 5 1 = nI z ∧ f 1278 3 = nI z ∧ ∀ k, k < z → f 6 k = f 1280 k
def PB (W H : Nat) (mm : zMem) : Prop := RF mm.2.2 ∧ vK W H mm.1 ∧ vT mm.1 ∧ vS mm ∧ vQ mm.1 ∧ vO mm.1 ∧ ∀ p, mm.2.2 1178 3 = some p → gS p
/-- what the picture is made of stays -/
def agP (m m' : zMem) : Prop := (m'.2.2 1178 3, m'.2.2 1121 2, m'.2.2 1121 14) = (m.2.2 1178 3, m.2.2 1121 2, m.2.2 1121 14) ∧ m'.2.1 1178 = m.2.1 1178 ∧ m'.2.1 1284 = m.2.1 1284 ∧ (∀ a, (1178 ≤ a ∧ a < 1185 ∨ 1247 ≤ a ∧ a < 1277 ∨ a = 1282 ∨ a = 1283) → m'.1 a = m.1 a) ∧ m'.1 1185 15 = m.1 1185 15 ∧ ∀ p, m.2.2 1178 3 = some p → ∀ a, (p + 4 ≤ a ∧ a < p + 20 ∨ p + 26 ≤ a ∧ a < p + 50) → m'.1 a = m.1 a
theorem Plc_c {f f' : Nat → Nat → Int32} {s r n : Nat} (hn : n ≤ 48) (F : ∀ b, s < b → b < s + 370 → f' b = f b) (G : ∀ q, q < 30 → f' (r + q) = f (r + q)) (h : Plc f s r n) : Plc f' s r n := by
  intro i hi
  obtain ⟨a1, a2⟩ := h i hi
  refine ⟨?_, fun k hk => ?_⟩
  · rw [F _ (by unfold ndA; omega) (by unfold ndA; omega), a1, shn_c G]
  · rw [F _ (by unfold ndA; omega) (by unfold ndA; omega), a2 k hk, wW_c G]
section ZLD
variable {W H : Nat} {mm : zMem}
theorem m_clr2 {m m2 : zMem} (hR : RF m.2.2) (hR2 : RF m2.2.2) (he : ∀ a, m2.1 (1217 + a) = m.1 (1217 + a)) : ∃ m1 m3, F_MScene_clear (sh0 W H) m 1217 = some m1 ∧ F_MScene_clear (sh0 W H) m2 1217 = some m3 ∧ ∀ a, m3.1 (1217 + a) = m1.1 (1217 + a) := by
  have hM : gM 1217 := Or.inr (Or.inl rfl)
  have a1 : (0 : Int32) + 1 = 1 := rfl
  have a2 : (1 : Int32) + 1 = 2 := rfl
  have a3 : (2 : Int32) + 1 = 3 := rfl
  have l0 : ((3 : Int32) ≤ 0) = False := eq_false (by decide)
  have l1 : ((3 : Int32) ≤ 1) = False := eq_false (by decide)
  have l2 : ((3 : Int32) ≤ 2) = False := eq_false (by decide)
  have l3 : ((3 : Int32) ≤ 3) = True := eq_true (by decide)
  have q0 : ((0 : Int32) = 2) = False := eq_false (by decide)
  have q1 : ((1 : Int32) = 2) = False := eq_false (by decide)
  have q2 : ((2 : Int32) = 2) = True := eq_true rfl
  unfold F_MScene_clear
  rw [show zfuel = 999996 + 1 + 1 + 1 + 1 from nrfl rfl]
  simp (disch := first | assumption | omega) only [L_MScene_clear_27, a1, a2, a3, l0, l1, l2, l3, q0, q1, q2, ↓zS_s0, ↓zS_s1, ↓zS_s2, ↓zS_s3, ↓zS_s20, ↓zS_s21, ↓zS_s22, ↓zS_s23, ↓zS_s24, ↓zS_s25, ↓zS_smt, ↓zS_txA, ↓zS_txA1, ↓zS_txA2, ↓zS_msA, ↓zS_msA1, ↓zS_msA2, ↓zS_msA3, ↓zS_msA4, ↓zS_ndA, ↓zS_ndA1, ↓zS_ndA2, ↓zS_tkA, ↓zS_tkA1, ↓zS_tkA2, ↓zS_0, ↓zS_1, ↓zS_2, ↓zS_3, ↓zS_4, ↓zS_5, ↓zS_6, ↓zS_7, ↓zS_8, ↓zS_9, ↓zS_10, ↓zS_1121, ↓zS_1122, ↓zS_1123, ↓zS_1124, ↓zS_1125, ↓zS_1126, ↓zS_1175, ↓zS_1176, ↓zS_1177, ↓zS_1178, ↓zS_1179, ↓zS_1180, ↓zS_1181, ↓zS_1182, ↓zS_1183, ↓zS_1184, ↓zS_1185, ↓zS_1186, ↓zS_1277, ↓zS_1278, ↓zS_1279, ↓zS_1280, ↓zS_1281, ↓zS_1282, ↓zS_1283, ↓zS_1284, ↓zS_1285, ↓zS_1302, ↓zS_1286, ↓zS_1287, ↓zS_1288, ↓zS_1289, ↓zS_1290, ↓zS_1291, ↓zS_1292, ↓zS_1293, ↓zS_1294, ↓zS_1295, ↓zS_1296, ↓zS_1297, ↓zS_1298, ↓zS_1299, ↓zS_1300, ↓zS_1301, ↓zS_sg, ↓zS_m0, ↓zS_m1, ↓zS_m2, ↓zS_m3, ↓zS_m4, ↓zS_m5, ↓zS_m6, ↓zS_m7, ↓zS_m8, ↓zS_m9, ↓zS_m10, ↓zS_m11, ↓zS_m12, ↓zS_m13, ↓zS_m14, ↓zS_m15, ↓zS_m16, ↓zS_m17, ↓zS_m18, ↓zS_m19, ↓zS_m20, ↓zS_m21, ↓zS_m22, ↓zS_m23, ↓zS_m24, ↓zS_m25, ↓zS_m26, ↓zS_m27, ↓zS_m28, ↓zS_m29, ↓bf_0_2, ↓bf_0_4, ↓bf_0_6, ↓bf_0_7, ↓bf_0_8, ↓bf_0_9, ↓bf_3_2, ↓bf_5_0, ↓bf_5_2, ↓bf_5_3, ↓bf_5_5, ↓bf_5_6, ↓bf_1121_0, ↓bf_1121_8, ↓bf_1121_9, ↓bf_1121_10, ↓bf_1121_13, ↓bf_1122_1, ↓bf_1181_1, ↓bf_1178_1, ↓bf_1178_2, ↓bf_1178_8, ↓bf_1178_9, ↓bf_1178_11, ↓bf_1185_2, ↓bf_1185_4, ↓bf_1185_5, ↓bf_1185_6, ↓bf_1185_7, ↓bf_1185_8, ↓bf_1185_9, ↓bf_1185_14, ↓bf_1185_16, ↓bf_1185_17, ↓bf_1185_18, ↓bf_1277_0, ↓bf_1277_1, ↓bf_1278_0, ↓bf_1278_2, ↓bf_1285_3, ↓bf_1285_4, ↓bf_1285_14, ↓bf_1285_15, ↓bf_1285_16, ↓bf_1285_17, ↓bf_1285_18, ↓bf_1285_19, ↓bf_1285_20, ↓bf_1285_21, ↓bf_1285_22, ↓bf_1285_23, ↓bf_1285_24, ↓bf_1285_25, ↓bf_1285_27, ↓bf_1285_28, ↓bf_1285_29, ↓bf_1285_30, ↓bf_2, ↓bf_2_, ↓bf_1126, ↓bf_1126_, ↓bf_s0, ↓bf_s1, ↓bf_s2, ↓bf_s3, ↓bf_s4, ↓bf_s5, ↓bf_s6, ↓bf_s7, ↓bf_s10, ↓bf_tx, ↓bf_tx_, ↓bf_mt, ↓bf_mt_, ↓bf_ms, ↓bf_ms_, ↓bf_nd, ↓bf_nd_, ↓bf_tk, ↓bf_tk_, ↓bf_txA4, ↓bf_txA5, ↓bf_msA3, ↓bf_msA4, ↓bf_msA5, ↓bf_msA6, ↓bf_ndA4, ↓bf_ndA5, ↓bf_tkA4, ↓bf_tkA5, ↓bf_m5, ↓bf_m6, ↓bf_m7, ↓bf_m8, ↓bf_m9, ↓bf_m10, ↓bf_m11, ↓bf_m12, ↓bf_m13, ↓bf_m14, ↓bf_m15, ↓bf_m16, ↓bf_m17, ↓bf_m18, ↓bf_m19, ↓bf_m20, ↓bf_m21, ↓bf_m22, ↓bf_m23, ↓bf_m24, ↓bf_m25, ↓bf_m26, ↓bf_m27, ↓bf_m28, ↓bf_m29, ↓bf_m30, ↓bf_m31, ↓bf_m32, ↓bf_m33, mI_R, sI_R, sL_R, kl_0, kl_1, kl_2, kl_3, kl_4, kl_5, kl_6, kl_7, kl_8, kl_9, kl_10, kl_11, kl_12, kc_0, kc_1, kc_2, kc_3, kc_4, kc_5, kc_6, kc_7, kc_8, kc_9, kc_10, kc_11, kc_12, Nat.reduceAdd, Nat.reduceLeDiff, Nat.reduceLT, not_false_eq_true, and_self, and_true, true_and, ↓zoL_e, ↓zob_e, ↓reduceIte, zoS_e, zob_e, nI_lt0, nI_lt00, nI_cl, nle_f, or_self, or_false, false_or]
  refine ⟨_, _, rfl, rfl, fun a => ?_⟩
  funext j
  simp only [mI_v, he]
/-- the class finds a free scene -/
theorem e_free {s : Nat} (hR : RF mm.2.2) (hs : gS s) (h5 : mm.2.2 0 5 = some s) (hp : ∀ p, mm.2.2 1178 3 = some p → gS p) : zok (F_OB_freeScene (sh0 W H) mm 0) (fun z => z.2 = mm ∧ gS z.1 ∧ z.1 ≠ s ∧ mm.2.2 1178 3 ≠ some z.1) := by
  have r2 : mm.2.2 0 4 = some 2 := rf_0_4 hR
  have s0 : mm.2.2 2 0 = some 11 := (hR _ _ (by unfold rMut; omega)).trans rfl
  have s1 : mm.2.2 2 1 = some 381 := (hR _ _ (by unfold rMut; omega)).trans rfl
  have s2 : mm.2.2 2 2 = some 751 := (hR _ _ (by unfold rMut; omega)).trans rfl
  have a1 : (0 : Int32) + 1 = 1 := rfl
  have a2 : (1 : Int32) + 1 = 2 := rfl
  have a3 : (2 : Int32) + 1 = 3 := rfl
  have l0 : ((3 : Int32) ≤ 0) = False := eq_false (by decide)
  have l1 : ((3 : Int32) ≤ 1) = False := eq_false (by decide)
  have l2 : ((3 : Int32) ≤ 2) = False := eq_false (by decide)
  have l3 : ((3 : Int32) ≤ 3) = True := eq_true (by decide)
  have o3 : Int32.ofNat 3 = 3 := rfl
  have k8 := rf_0_8 hR
  have cl0 : (0 : Int32).toNatClampNeg = 0 := rfl
  have cl1 : (1 : Int32).toNatClampNeg = 1 := rfl
  have cl2 : (2 : Int32).toNatClampNeg = 2 := rfl
  have n0 : ((0 : Int32) < 0) = False := eq_false (by decide)
  have n1 : ((1 : Int32) < 0) = False := eq_false (by decide)
  have n2 : ((2 : Int32) < 0) = False := eq_false (by decide)
  unfold F_OB_freeScene
  obtain ⟨N, hN⟩ : ∃ N, zfuel = N + 1 + 1 + 1 + 1 := ⟨999996, nrfl rfl⟩
  rw [hN]
  have hp' : mm.2.2 1178 3 = none ∨ mm.2.2 1178 3 = some 11 ∨ mm.2.2 1178 3 = some 381 ∨ mm.2.2 1178 3 = some 751 := by
    cases hq : mm.2.2 1178 3 with
    | none => exact Or.inl rfl
    | some p => rcases hp p hq with rfl | rfl | rfl <;> simp
  rcases hs with rfl | rfl | rfl <;> rcases hp' with e | e | e | e <;> simp [L_OB_freeScene_9, zoN, sh_0, sh_2, sh_1178, zoS_e, zoR_e, zoR, r2, s0, s1, s2, k8, h5, e, a1, a2, a3, l0, l1, l2, l3, o3, cl0, cl1, cl2, n0, n1, n2, zok, gS]
end ZLD
