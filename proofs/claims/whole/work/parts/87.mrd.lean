/-! PURE: the reference's reader, its small steps -/
/-- a byte of the text, or -1 -/
def bb (t : Nat → Int32) (n k : Nat) : Int32 := if k < n then t k &&& 255 else -1
def btB (t : Nat → Int32) (n : Nat) : Prop := ∀ j, j < n → -128 ≤ (t j).toInt ∧ (t j).toInt ≤ 127
theorem bb_eq {t : Nat → Int32} {n k : Nat} (hb : btB t n) {c : Int32} (h1 : 0 ≤ c.toInt) (h2 : c.toInt ≤ 127) : (bb t n k = c) = (k < n ∧ t k = c) := by
  apply propext
  unfold bb
  by_cases h : k < n
  · rw [if_pos h]
    have := hb k h
    constructor
    · intro e
      refine ⟨h, i32_ext ?_⟩
      have e2 := congrArg Int32.toInt e
      rw [i32_and255] at e2
      omega
    · intro e
      apply i32_ext
      rw [i32_and255, e.2]
      omega
  · rw [if_neg h]
    constructor
    · intro e
      rw [← e] at h1
      exact absurd h1 (by decide)
    · intro e
      exact absurd e.1 h
/-- the reader stands at q and nothing is wrong yet -/
def mS0 (m : zMem) (n q : Nat) : Prop := RF m.2.2 ∧ m.1 1277 2 = nI n ∧ m.1 1277 3 = nI q ∧ n ≤ 65536 ∧ q ≤ n ∧ btB (m.1 1186) n
def mP (m : zMem) (q : Nat) : zMem := sI m 1277 (upd (m.1 1277) 3 (nI q))
theorem mP_o {m : zMem} {q a : Nat} (h : a ≠ 1277) : (mP m q).1 a = m.1 a := sI_ne h
theorem mP_P (m : zMem) (p q : Nat) : mP (mP m p) q = mP m q := by
  unfold mP
  rw [sI_sI, sI_at]
  refine sI_to (fun j => ?_)
  unfold upd
  by_cases h : j = 3
  · rw [if_pos h, if_pos h]
  · rw [if_neg h, if_neg h, if_neg h]
theorem mP_S {m : zMem} {n p q : Nat} (h : mS0 m n p) (hq : q ≤ n) : mS0 (mP m q) n q := by
  obtain ⟨hR, h2, h3, hn, hp, hb⟩ := h
  refine ⟨hR, ?_, ?_, hn, hq, by rw [mP_o (by decide)]; exact hb⟩
  · show (sI m 1277 _).1 1277 2 = _
    rw [sI_at]
    exact h2
  · show (sI m 1277 _).1 1277 3 = _
    rw [sI_at]
    rfl
theorem mP_id {m : zMem} {n p : Nat} (h : mS0 m n p) : mP m p = m := by
  unfold mP
  rw [sI_to (h := m.1 1277) (fun j => ?_), sI_id]
  unfold upd
  by_cases e : j = 3
  · rw [if_pos e, e, h.2.2.1]
  · rw [if_neg e]
theorem m_byteAt {W H : Nat} {m : zMem} {n p k : Nat} (h : mS0 m n p) (hk : k < 2147483648) : F_MReader_byteAt (sh0 W H) m 1277 (nI k) = some (bb (m.1 1186) n k, m) := by
  obtain ⟨hR, h2, h3, hn, hp, hb⟩ := h
  unfold F_MReader_byteAt bb
  simp (disch := first | assumption | omega) only [↓zS_s0, ↓zS_s1, ↓zS_s2, ↓zS_s3, ↓zS_s20, ↓zS_s21, ↓zS_s22, ↓zS_s23, ↓zS_s24, ↓zS_s25, ↓zS_smt, ↓zS_txA, ↓zS_txA1, ↓zS_txA2, ↓zS_msA, ↓zS_msA1, ↓zS_msA2, ↓zS_msA3, ↓zS_msA4, ↓zS_ndA, ↓zS_ndA1, ↓zS_ndA2, ↓zS_tkA, ↓zS_tkA1, ↓zS_tkA2, ↓zS_0, ↓zS_1, ↓zS_2, ↓zS_3, ↓zS_4, ↓zS_5, ↓zS_6, ↓zS_7, ↓zS_8, ↓zS_9, ↓zS_10, ↓zS_1121, ↓zS_1122, ↓zS_1123, ↓zS_1124, ↓zS_1125, ↓zS_1126, ↓zS_1175, ↓zS_1176, ↓zS_1177, ↓zS_1178, ↓zS_1179, ↓zS_1180, ↓zS_1181, ↓zS_1182, ↓zS_1183, ↓zS_1184, ↓zS_1185, ↓zS_1186, ↓zS_1277, ↓zS_1278, ↓zS_1279, ↓zS_1280, ↓zS_1281, ↓zS_1282, ↓zS_1283, ↓zS_1284, ↓zS_1285, ↓zS_1302, ↓zS_1286, ↓zS_1287, ↓zS_1288, ↓zS_1289, ↓zS_1290, ↓zS_1291, ↓zS_1292, ↓zS_1293, ↓zS_1294, ↓zS_1295, ↓zS_1296, ↓zS_1297, ↓zS_1298, ↓zS_1299, ↓zS_1300, ↓zS_1301, ↓zS_sg, ↓zS_m0, ↓zS_m1, ↓zS_m2, ↓zS_m3, ↓zS_m4, ↓zS_m5, ↓zS_m6, ↓zS_m7, ↓zS_m8, ↓zS_m9, ↓zS_m10, ↓zS_m11, ↓zS_m12, ↓zS_m13, ↓zS_m14, ↓zS_m15, ↓zS_m16, ↓zS_m17, ↓zS_m18, ↓zS_m19, ↓zS_m20, ↓zS_m21, ↓zS_m22, ↓zS_m23, ↓zS_m24, ↓zS_m25, ↓zS_m26, ↓zS_m27, ↓zS_m28, ↓zS_m29, ↓bf_0_2, ↓bf_0_4, ↓bf_0_6, ↓bf_0_7, ↓bf_0_8, ↓bf_0_9, ↓bf_3_2, ↓bf_5_0, ↓bf_5_2, ↓bf_5_3, ↓bf_5_5, ↓bf_5_6, ↓bf_1121_0, ↓bf_1121_8, ↓bf_1121_9, ↓bf_1121_10, ↓bf_1121_13, ↓bf_1122_1, ↓bf_1181_1, ↓bf_1178_1, ↓bf_1178_2, ↓bf_1178_8, ↓bf_1178_9, ↓bf_1178_11, ↓bf_1185_2, ↓bf_1185_4, ↓bf_1185_5, ↓bf_1185_6, ↓bf_1185_7, ↓bf_1185_8, ↓bf_1185_9, ↓bf_1185_14, ↓bf_1185_16, ↓bf_1185_17, ↓bf_1185_18, ↓bf_1277_0, ↓bf_1277_1, ↓bf_1278_0, ↓bf_1278_2, ↓bf_1285_3, ↓bf_1285_4, ↓bf_1285_14, ↓bf_1285_15, ↓bf_1285_16, ↓bf_1285_17, ↓bf_1285_18, ↓bf_1285_19, ↓bf_1285_20, ↓bf_1285_21, ↓bf_1285_22, ↓bf_1285_23, ↓bf_1285_24, ↓bf_1285_25, ↓bf_1285_27, ↓bf_1285_28, ↓bf_1285_29, ↓bf_1285_30, ↓bf_2, ↓bf_2_, ↓bf_1126, ↓bf_1126_, ↓bf_s0, ↓bf_s1, ↓bf_s2, ↓bf_s3, ↓bf_s4, ↓bf_s5, ↓bf_s6, ↓bf_s7, ↓bf_s10, ↓bf_tx, ↓bf_tx_, ↓bf_mt, ↓bf_mt_, ↓bf_ms, ↓bf_ms_, ↓bf_nd, ↓bf_nd_, ↓bf_tk, ↓bf_tk_, ↓bf_txA4, ↓bf_txA5, ↓bf_msA3, ↓bf_msA4, ↓bf_msA5, ↓bf_msA6, ↓bf_ndA4, ↓bf_ndA5, ↓bf_tkA4, ↓bf_tkA5, ↓bf_m5, ↓bf_m6, ↓bf_m7, ↓bf_m8, ↓bf_m9, ↓bf_m10, ↓bf_m11, ↓bf_m12, ↓bf_m13, ↓bf_m14, ↓bf_m15, ↓bf_m16, ↓bf_m17, ↓bf_m18, ↓bf_m19, ↓bf_m20, ↓bf_m21, ↓bf_m22, ↓bf_m23, ↓bf_m24, ↓bf_m25, ↓bf_m26, ↓bf_m27, ↓bf_m28, ↓bf_m29, ↓bf_m30, ↓bf_m31, ↓bf_m32, ↓bf_m33, mI_R, sI_R, sL_R, h2, nI_leD, ↓zoL_e, ↓zob_e, ↓reduceIte, zoS_e, zob_e, nI_lt0, nI_lt00, nI_cl, nle_f, or_self, or_false, false_or]
  by_cases e : n ≤ k
  · rw [if_pos e, if_neg (by omega)]
  · rw [if_neg e, if_pos (by omega)]
theorem m_next_0 {W H n : Nat} : ∀ (d p fuel : Nat) (m : zMem), p + d = n → d < fuel → mS0 m n p → L_MReader_next_0 (sh0 W H) fuel 1277 m = some (1277, mP m (wp (m.1 1186) n p)) := by
  intro d
  induction d with
  | zero =>
    intro p fuel m hd hf h
    obtain ⟨fu, rfl⟩ : ∃ fu, fuel = fu + 1 := ⟨fuel - 1, by omega⟩
    have hid := mP_id h
    have hby := m_byteAt (W := W) (H := H) h (k := p) (by have := h.2.2.2.1; omega)
    have b32 := bb_eq (k := p) h.2.2.2.2.2 (c := 32) (by decide) (by decide)
    have b10 := bb_eq (k := p) h.2.2.2.2.2 (c := 10) (by decide) (by decide)
    have b13 := bb_eq (k := p) h.2.2.2.2.2 (c := 13) (by decide) (by decide)
    have b9 := bb_eq (k := p) h.2.2.2.2.2 (c := 9) (by decide) (by decide)
    have hf : (p < n) = False := eq_false (by omega)
    obtain ⟨hR, h2, h3, hn, hp, hb⟩ := h
    simp (disch := first | assumption | omega) only [L_MReader_next_0, ↓zS_s0, ↓zS_s1, ↓zS_s2, ↓zS_s3, ↓zS_s20, ↓zS_s21, ↓zS_s22, ↓zS_s23, ↓zS_s24, ↓zS_s25, ↓zS_smt, ↓zS_txA, ↓zS_txA1, ↓zS_txA2, ↓zS_msA, ↓zS_msA1, ↓zS_msA2, ↓zS_msA3, ↓zS_msA4, ↓zS_ndA, ↓zS_ndA1, ↓zS_ndA2, ↓zS_tkA, ↓zS_tkA1, ↓zS_tkA2, ↓zS_0, ↓zS_1, ↓zS_2, ↓zS_3, ↓zS_4, ↓zS_5, ↓zS_6, ↓zS_7, ↓zS_8, ↓zS_9, ↓zS_10, ↓zS_1121, ↓zS_1122, ↓zS_1123, ↓zS_1124, ↓zS_1125, ↓zS_1126, ↓zS_1175, ↓zS_1176, ↓zS_1177, ↓zS_1178, ↓zS_1179, ↓zS_1180, ↓zS_1181, ↓zS_1182, ↓zS_1183, ↓zS_1184, ↓zS_1185, ↓zS_1186, ↓zS_1277, ↓zS_1278, ↓zS_1279, ↓zS_1280, ↓zS_1281, ↓zS_1282, ↓zS_1283, ↓zS_1284, ↓zS_1285, ↓zS_1302, ↓zS_1286, ↓zS_1287, ↓zS_1288, ↓zS_1289, ↓zS_1290, ↓zS_1291, ↓zS_1292, ↓zS_1293, ↓zS_1294, ↓zS_1295, ↓zS_1296, ↓zS_1297, ↓zS_1298, ↓zS_1299, ↓zS_1300, ↓zS_1301, ↓zS_sg, ↓zS_m0, ↓zS_m1, ↓zS_m2, ↓zS_m3, ↓zS_m4, ↓zS_m5, ↓zS_m6, ↓zS_m7, ↓zS_m8, ↓zS_m9, ↓zS_m10, ↓zS_m11, ↓zS_m12, ↓zS_m13, ↓zS_m14, ↓zS_m15, ↓zS_m16, ↓zS_m17, ↓zS_m18, ↓zS_m19, ↓zS_m20, ↓zS_m21, ↓zS_m22, ↓zS_m23, ↓zS_m24, ↓zS_m25, ↓zS_m26, ↓zS_m27, ↓zS_m28, ↓zS_m29, ↓bf_0_2, ↓bf_0_4, ↓bf_0_6, ↓bf_0_7, ↓bf_0_8, ↓bf_0_9, ↓bf_3_2, ↓bf_5_0, ↓bf_5_2, ↓bf_5_3, ↓bf_5_5, ↓bf_5_6, ↓bf_1121_0, ↓bf_1121_8, ↓bf_1121_9, ↓bf_1121_10, ↓bf_1121_13, ↓bf_1122_1, ↓bf_1181_1, ↓bf_1178_1, ↓bf_1178_2, ↓bf_1178_8, ↓bf_1178_9, ↓bf_1178_11, ↓bf_1185_2, ↓bf_1185_4, ↓bf_1185_5, ↓bf_1185_6, ↓bf_1185_7, ↓bf_1185_8, ↓bf_1185_9, ↓bf_1185_14, ↓bf_1185_16, ↓bf_1185_17, ↓bf_1185_18, ↓bf_1277_0, ↓bf_1277_1, ↓bf_1278_0, ↓bf_1278_2, ↓bf_1285_3, ↓bf_1285_4, ↓bf_1285_14, ↓bf_1285_15, ↓bf_1285_16, ↓bf_1285_17, ↓bf_1285_18, ↓bf_1285_19, ↓bf_1285_20, ↓bf_1285_21, ↓bf_1285_22, ↓bf_1285_23, ↓bf_1285_24, ↓bf_1285_25, ↓bf_1285_27, ↓bf_1285_28, ↓bf_1285_29, ↓bf_1285_30, ↓bf_2, ↓bf_2_, ↓bf_1126, ↓bf_1126_, ↓bf_s0, ↓bf_s1, ↓bf_s2, ↓bf_s3, ↓bf_s4, ↓bf_s5, ↓bf_s6, ↓bf_s7, ↓bf_s10, ↓bf_tx, ↓bf_tx_, ↓bf_mt, ↓bf_mt_, ↓bf_ms, ↓bf_ms_, ↓bf_nd, ↓bf_nd_, ↓bf_tk, ↓bf_tk_, ↓bf_txA4, ↓bf_txA5, ↓bf_msA3, ↓bf_msA4, ↓bf_msA5, ↓bf_msA6, ↓bf_ndA4, ↓bf_ndA5, ↓bf_tkA4, ↓bf_tkA5, ↓bf_m5, ↓bf_m6, ↓bf_m7, ↓bf_m8, ↓bf_m9, ↓bf_m10, ↓bf_m11, ↓bf_m12, ↓bf_m13, ↓bf_m14, ↓bf_m15, ↓bf_m16, ↓bf_m17, ↓bf_m18, ↓bf_m19, ↓bf_m20, ↓bf_m21, ↓bf_m22, ↓bf_m23, ↓bf_m24, ↓bf_m25, ↓bf_m26, ↓bf_m27, ↓bf_m28, ↓bf_m29, ↓bf_m30, ↓bf_m31, ↓bf_m32, ↓bf_m33, mI_R, sI_R, sL_R, h3, ↓zob_h hby, hby, b32, b10, b13, b9, hf, false_and, ↓zoL_e, ↓zob_e, ↓reduceIte, zoS_e, zob_e, nI_lt0, nI_lt00, nI_cl, nle_f, or_self, or_false, false_or]
    rw [wp_end (by omega), hid]
  | succ d ih =>
    intro p fuel m hd hf h
    obtain ⟨fu, rfl⟩ : ∃ fu, fuel = fu + 1 := ⟨fuel - 1, by omega⟩
    have hid := mP_id h
    have hby := m_byteAt (W := W) (H := H) h (k := p) (by have := h.2.2.2.1; omega)
    have b32 := bb_eq (k := p) h.2.2.2.2.2 (c := 32) (by decide) (by decide)
    have b10 := bb_eq (k := p) h.2.2.2.2.2 (c := 10) (by decide) (by decide)
    have b13 := bb_eq (k := p) h.2.2.2.2.2 (c := 13) (by decide) (by decide)
    have b9 := bb_eq (k := p) h.2.2.2.2.2 (c := 9) (by decide) (by decide)
    have hf2 : (p < n) = True := eq_true (by omega)
    have hnext : isW (m.1 1186 p) = true → L_MReader_next_0 (sh0 W H) fu 1277 (mP m (p + 1)) = some (1277, mP m (wp (m.1 1186) n p)) := by
      intro hw
      rw [ih (p + 1) fu (mP m (p + 1)) (by omega) (by omega) (mP_S h (by omega)), mP_P, mP_o (by decide), wp_sp (by omega) hw]
    obtain ⟨hR, h2, h3, hn, hp, hb⟩ := h
    simp (disch := first | assumption | omega) only [L_MReader_next_0, ↓zS_s0, ↓zS_s1, ↓zS_s2, ↓zS_s3, ↓zS_s20, ↓zS_s21, ↓zS_s22, ↓zS_s23, ↓zS_s24, ↓zS_s25, ↓zS_smt, ↓zS_txA, ↓zS_txA1, ↓zS_txA2, ↓zS_msA, ↓zS_msA1, ↓zS_msA2, ↓zS_msA3, ↓zS_msA4, ↓zS_ndA, ↓zS_ndA1, ↓zS_ndA2, ↓zS_tkA, ↓zS_tkA1, ↓zS_tkA2, ↓zS_0, ↓zS_1, ↓zS_2, ↓zS_3, ↓zS_4, ↓zS_5, ↓zS_6, ↓zS_7, ↓zS_8, ↓zS_9, ↓zS_10, ↓zS_1121, ↓zS_1122, ↓zS_1123, ↓zS_1124, ↓zS_1125, ↓zS_1126, ↓zS_1175, ↓zS_1176, ↓zS_1177, ↓zS_1178, ↓zS_1179, ↓zS_1180, ↓zS_1181, ↓zS_1182, ↓zS_1183, ↓zS_1184, ↓zS_1185, ↓zS_1186, ↓zS_1277, ↓zS_1278, ↓zS_1279, ↓zS_1280, ↓zS_1281, ↓zS_1282, ↓zS_1283, ↓zS_1284, ↓zS_1285, ↓zS_1302, ↓zS_1286, ↓zS_1287, ↓zS_1288, ↓zS_1289, ↓zS_1290, ↓zS_1291, ↓zS_1292, ↓zS_1293, ↓zS_1294, ↓zS_1295, ↓zS_1296, ↓zS_1297, ↓zS_1298, ↓zS_1299, ↓zS_1300, ↓zS_1301, ↓zS_sg, ↓zS_m0, ↓zS_m1, ↓zS_m2, ↓zS_m3, ↓zS_m4, ↓zS_m5, ↓zS_m6, ↓zS_m7, ↓zS_m8, ↓zS_m9, ↓zS_m10, ↓zS_m11, ↓zS_m12, ↓zS_m13, ↓zS_m14, ↓zS_m15, ↓zS_m16, ↓zS_m17, ↓zS_m18, ↓zS_m19, ↓zS_m20, ↓zS_m21, ↓zS_m22, ↓zS_m23, ↓zS_m24, ↓zS_m25, ↓zS_m26, ↓zS_m27, ↓zS_m28, ↓zS_m29, ↓bf_0_2, ↓bf_0_4, ↓bf_0_6, ↓bf_0_7, ↓bf_0_8, ↓bf_0_9, ↓bf_3_2, ↓bf_5_0, ↓bf_5_2, ↓bf_5_3, ↓bf_5_5, ↓bf_5_6, ↓bf_1121_0, ↓bf_1121_8, ↓bf_1121_9, ↓bf_1121_10, ↓bf_1121_13, ↓bf_1122_1, ↓bf_1181_1, ↓bf_1178_1, ↓bf_1178_2, ↓bf_1178_8, ↓bf_1178_9, ↓bf_1178_11, ↓bf_1185_2, ↓bf_1185_4, ↓bf_1185_5, ↓bf_1185_6, ↓bf_1185_7, ↓bf_1185_8, ↓bf_1185_9, ↓bf_1185_14, ↓bf_1185_16, ↓bf_1185_17, ↓bf_1185_18, ↓bf_1277_0, ↓bf_1277_1, ↓bf_1278_0, ↓bf_1278_2, ↓bf_1285_3, ↓bf_1285_4, ↓bf_1285_14, ↓bf_1285_15, ↓bf_1285_16, ↓bf_1285_17, ↓bf_1285_18, ↓bf_1285_19, ↓bf_1285_20, ↓bf_1285_21, ↓bf_1285_22, ↓bf_1285_23, ↓bf_1285_24, ↓bf_1285_25, ↓bf_1285_27, ↓bf_1285_28, ↓bf_1285_29, ↓bf_1285_30, ↓bf_2, ↓bf_2_, ↓bf_1126, ↓bf_1126_, ↓bf_s0, ↓bf_s1, ↓bf_s2, ↓bf_s3, ↓bf_s4, ↓bf_s5, ↓bf_s6, ↓bf_s7, ↓bf_s10, ↓bf_tx, ↓bf_tx_, ↓bf_mt, ↓bf_mt_, ↓bf_ms, ↓bf_ms_, ↓bf_nd, ↓bf_nd_, ↓bf_tk, ↓bf_tk_, ↓bf_txA4, ↓bf_txA5, ↓bf_msA3, ↓bf_msA4, ↓bf_msA5, ↓bf_msA6, ↓bf_ndA4, ↓bf_ndA5, ↓bf_tkA4, ↓bf_tkA5, ↓bf_m5, ↓bf_m6, ↓bf_m7, ↓bf_m8, ↓bf_m9, ↓bf_m10, ↓bf_m11, ↓bf_m12, ↓bf_m13, ↓bf_m14, ↓bf_m15, ↓bf_m16, ↓bf_m17, ↓bf_m18, ↓bf_m19, ↓bf_m20, ↓bf_m21, ↓bf_m22, ↓bf_m23, ↓bf_m24, ↓bf_m25, ↓bf_m26, ↓bf_m27, ↓bf_m28, ↓bf_m29, ↓bf_m30, ↓bf_m31, ↓bf_m32, ↓bf_m33, mI_R, sI_R, sL_R, h3, ↓zob_h hby, hby, b32, b10, b13, b9, hf2, true_and, nI_1, mI_sI, ↓zoL_e, ↓zob_e, ↓reduceIte, zoS_e, zob_e, nI_lt0, nI_lt00, nI_cl, nle_f, or_self, or_false, false_or]
    by_cases a1 : m.1 1186 p = 32
    · rw [if_pos a1]
      exact hnext (by simp [isW, a1])
    · rw [if_neg a1]
      by_cases a2 : m.1 1186 p = 10
      · rw [if_pos a2]
        exact hnext (by simp [isW, a2])
      · rw [if_neg a2]
        by_cases a3 : m.1 1186 p = 13
        · rw [if_pos a3]
          exact hnext (by simp [isW, a3])
        · rw [if_neg a3]
          by_cases a4 : m.1 1186 p = 9
          · rw [if_pos a4]
            exact hnext (by simp [isW, a4])
          · rw [if_neg a4, wp_no (by simp [isW, a1, a2, a3, a4]), hid]
theorem m_next {W H : Nat} {m : zMem} {n p : Nat} (h : mS0 m n p) : F_MReader_next (sh0 W H) m 1277 = some (bb (m.1 1186) n (wp (m.1 1186) n p), mP m (wp (m.1 1186) n p)) := by
  have hn := h.2.2.2.1
  have hp := h.2.2.2.2.1
  have hw := wp_2 (t := m.1 1186) hp
  have hS := mP_S h hw
  have hby := m_byteAt (W := W) (H := H) hS (k := wp (m.1 1186) n p) (by omega)
  rw [mP_o (by decide)] at hby
  unfold F_MReader_next
  rw [m_next_0 (n - p) p zfuel m (by omega) (zf_lt (by omega)) h]
  simp (disch := first | assumption | omega) only [↓zS_s0, ↓zS_s1, ↓zS_s2, ↓zS_s3, ↓zS_s20, ↓zS_s21, ↓zS_s22, ↓zS_s23, ↓zS_s24, ↓zS_s25, ↓zS_smt, ↓zS_txA, ↓zS_txA1, ↓zS_txA2, ↓zS_msA, ↓zS_msA1, ↓zS_msA2, ↓zS_msA3, ↓zS_msA4, ↓zS_ndA, ↓zS_ndA1, ↓zS_ndA2, ↓zS_tkA, ↓zS_tkA1, ↓zS_tkA2, ↓zS_0, ↓zS_1, ↓zS_2, ↓zS_3, ↓zS_4, ↓zS_5, ↓zS_6, ↓zS_7, ↓zS_8, ↓zS_9, ↓zS_10, ↓zS_1121, ↓zS_1122, ↓zS_1123, ↓zS_1124, ↓zS_1125, ↓zS_1126, ↓zS_1175, ↓zS_1176, ↓zS_1177, ↓zS_1178, ↓zS_1179, ↓zS_1180, ↓zS_1181, ↓zS_1182, ↓zS_1183, ↓zS_1184, ↓zS_1185, ↓zS_1186, ↓zS_1277, ↓zS_1278, ↓zS_1279, ↓zS_1280, ↓zS_1281, ↓zS_1282, ↓zS_1283, ↓zS_1284, ↓zS_1285, ↓zS_1302, ↓zS_1286, ↓zS_1287, ↓zS_1288, ↓zS_1289, ↓zS_1290, ↓zS_1291, ↓zS_1292, ↓zS_1293, ↓zS_1294, ↓zS_1295, ↓zS_1296, ↓zS_1297, ↓zS_1298, ↓zS_1299, ↓zS_1300, ↓zS_1301, ↓zS_sg, ↓zS_m0, ↓zS_m1, ↓zS_m2, ↓zS_m3, ↓zS_m4, ↓zS_m5, ↓zS_m6, ↓zS_m7, ↓zS_m8, ↓zS_m9, ↓zS_m10, ↓zS_m11, ↓zS_m12, ↓zS_m13, ↓zS_m14, ↓zS_m15, ↓zS_m16, ↓zS_m17, ↓zS_m18, ↓zS_m19, ↓zS_m20, ↓zS_m21, ↓zS_m22, ↓zS_m23, ↓zS_m24, ↓zS_m25, ↓zS_m26, ↓zS_m27, ↓zS_m28, ↓zS_m29, ↓bf_0_2, ↓bf_0_4, ↓bf_0_6, ↓bf_0_7, ↓bf_0_8, ↓bf_0_9, ↓bf_3_2, ↓bf_5_0, ↓bf_5_2, ↓bf_5_3, ↓bf_5_5, ↓bf_5_6, ↓bf_1121_0, ↓bf_1121_8, ↓bf_1121_9, ↓bf_1121_10, ↓bf_1121_13, ↓bf_1122_1, ↓bf_1181_1, ↓bf_1178_1, ↓bf_1178_2, ↓bf_1178_8, ↓bf_1178_9, ↓bf_1178_11, ↓bf_1185_2, ↓bf_1185_4, ↓bf_1185_5, ↓bf_1185_6, ↓bf_1185_7, ↓bf_1185_8, ↓bf_1185_9, ↓bf_1185_14, ↓bf_1185_16, ↓bf_1185_17, ↓bf_1185_18, ↓bf_1277_0, ↓bf_1277_1, ↓bf_1278_0, ↓bf_1278_2, ↓bf_1285_3, ↓bf_1285_4, ↓bf_1285_14, ↓bf_1285_15, ↓bf_1285_16, ↓bf_1285_17, ↓bf_1285_18, ↓bf_1285_19, ↓bf_1285_20, ↓bf_1285_21, ↓bf_1285_22, ↓bf_1285_23, ↓bf_1285_24, ↓bf_1285_25, ↓bf_1285_27, ↓bf_1285_28, ↓bf_1285_29, ↓bf_1285_30, ↓bf_2, ↓bf_2_, ↓bf_1126, ↓bf_1126_, ↓bf_s0, ↓bf_s1, ↓bf_s2, ↓bf_s3, ↓bf_s4, ↓bf_s5, ↓bf_s6, ↓bf_s7, ↓bf_s10, ↓bf_tx, ↓bf_tx_, ↓bf_mt, ↓bf_mt_, ↓bf_ms, ↓bf_ms_, ↓bf_nd, ↓bf_nd_, ↓bf_tk, ↓bf_tk_, ↓bf_txA4, ↓bf_txA5, ↓bf_msA3, ↓bf_msA4, ↓bf_msA5, ↓bf_msA6, ↓bf_ndA4, ↓bf_ndA5, ↓bf_tkA4, ↓bf_tkA5, ↓bf_m5, ↓bf_m6, ↓bf_m7, ↓bf_m8, ↓bf_m9, ↓bf_m10, ↓bf_m11, ↓bf_m12, ↓bf_m13, ↓bf_m14, ↓bf_m15, ↓bf_m16, ↓bf_m17, ↓bf_m18, ↓bf_m19, ↓bf_m20, ↓bf_m21, ↓bf_m22, ↓bf_m23, ↓bf_m24, ↓bf_m25, ↓bf_m26, ↓bf_m27, ↓bf_m28, ↓bf_m29, ↓bf_m30, ↓bf_m31, ↓bf_m32, ↓bf_m33, mI_R, sI_R, sL_R, hS.2.2.1, ↓zob_h hby, hby, ↓zoL_e, ↓zob_e, ↓reduceIte, zoS_e, zob_e, nI_lt0, nI_lt00, nI_cl, nle_f, or_self, or_false, false_or]
/-- the reference is told: what the text says, and what it has done -/
def oR {α : Type} (s : Except (Nat × Nat) α) (F : Option zMem) (P : α → zMem → Prop) (E : Nat → Nat → zMem → Prop) : Prop := match s with
  | .ok a => zok F (P a)
  | .error e => zok F (E e.1 e.2)
theorem oR_k {α γ : Type} {s : Except (Nat × Nat) α} {F : Option zMem} {P : α → zMem → Prop} {E : Nat → Nat → zMem → Prop} {s' : α → Except (Nat × Nat) γ} {K : zMem → Option zMem} {P' : γ → zMem → Prop} (h : oR s F P E) (k : ∀ a m, s = .ok a → P a m → oR (s' a) (K m) P' E) (ke : ∀ a b m, E a b m → zok (K m) (E a b)) : oR (s.bind s') (Option.bind F K) P' E := by
  cases s with
  | error e => exact zok_b h (fun m hm => ke _ _ m hm)
  | ok a =>
    obtain ⟨m, h1, h2⟩ := h
    rw [h1]
    exact k a m rfl h2
/-- nothing is wrong: the reader's token is at p, the draft is g -/
def mS (mm : zMem) (n p : Nat) (g : Nat → Nat → Int32) (m : zMem) : Prop := (∃ q, mS0 m n q ∧ wp (mm.1 1186) n q = p) ∧ m.1 1277 4 = 0 ∧ m.1 1277 5 = 0 ∧ m.2 = mm.2 ∧ (∀ a, a < 30 → m.1 (1217 + a) = g a) ∧ ∀ a, a ≠ 1277 → ¬ (1217 ≤ a ∧ a < 1247) → m.1 a = mm.1 a
/-- something is wrong, and that stays -/
def mE (mm : zMem) (k q : Nat) (m : zMem) : Prop := (k ≠ 0 ∧ k < 4) ∧ m.1 1277 4 = nI k ∧ m.1 1277 5 = nI q ∧ RF m.2.2 ∧ m.2 = mm.2 ∧ ∀ a, a ≠ 1277 → ¬ (1217 ≤ a ∧ a < 1247) → m.1 a = mm.1 a
section ZMR
variable {W H : Nat} {mm m : zMem} {n p : Nat} {g : Nat → Nat → Int32}
theorem mS_t (h : mS mm n p g m) : m.1 1186 = mm.1 1186 := h.2.2.2.2.2 1186 (by decide) (by omega)
theorem mS_R (h : mS mm n p g m) : RF m.2.2 := by
  obtain ⟨q, hq, _⟩ := h.1
  exact hq.1
theorem mS_tok (h : mS mm n p g m) : wp (mm.1 1186) n p = p ∧ p ≤ n := by
  obtain ⟨q, hq, e⟩ := h.1
  rw [← e]
  exact ⟨wp_id hq.2.2.2.2.1, wp_2 hq.2.2.2.2.1⟩
theorem mE_w {k q : Nat} (h : mE mm k q m) : (m.1 1277 4 = 0) = False := by
  refine eq_false ?_
  rw [h.2.1]
  exact nI_ne0 (by have := h.1.1; omega) (by have := h.1.2; omega)
theorem mE_R {k q : Nat} (h : mE mm k q m) : RF m.2.2 := h.2.2.2.1
/-- a cell of the draft is written -/
theorem mE_p {k q a j : Nat} {v : Int32} (h : mE mm k q m) (ha : 1217 ≤ a ∧ a < 1247) : mE mm k q (mI m a j v) := by
  obtain ⟨h1, h2, h3, h4, h5, h6⟩ := h
  rw [mI_sI]
  refine ⟨h1, by rw [sI_ne (by omega)]; exact h2, by rw [sI_ne (by omega)]; exact h3, h4, h5, fun b h7 h8 => ?_⟩
  rw [sI_ne (fun e => h8 (by rw [e]; exact ha))]
  exact h6 b h7 h8
theorem mE_l {k q j : Nat} {v : Int32} (h : mE mm k q m) (h4 : j ≠ 4) (h5 : j ≠ 5) : mE mm k q (mI m 1277 j v) := by
  obtain ⟨h1, h2, h3, h6, h7, h8⟩ := h
  rw [mI_sI]
  refine ⟨h1, by rw [sI_at, upd_ne (Ne.symm h4)]; exact h2, by rw [sI_at, upd_ne (Ne.symm h5)]; exact h3, h6, h7, fun b h9 h10 => ?_⟩
  rw [sI_ne h9]
  exact h8 b h9 h10
theorem mS_p {a j : Nat} {v : Int32} (h : mS mm n p g m) (ha : a < 30) : mS mm n p (gI g a j v) (mI m (1217 + a) j v) := by
  obtain ⟨⟨q, h0, hq⟩, h1, h2, h3, h4, h5⟩ := h
  rw [mI_sI]
  have n77 : 1277 ≠ 1217 + a := by omega
  refine ⟨⟨q, ⟨h0.1, by rw [sI_ne n77]; exact h0.2.1, by rw [sI_ne n77]; exact h0.2.2.1, h0.2.2.2.1, h0.2.2.2.2.1, by rw [sI_ne (by omega)]; exact h0.2.2.2.2.2⟩, hq⟩, by rw [sI_ne n77]; exact h1, by rw [sI_ne n77]; exact h2, h3, fun b hb => ?_, fun b h6 h7 => ?_⟩
  · by_cases e : b = a
    · subst e
      rw [sI_at, h4 b hb]
      exact (fS_at _ _ _).symm
    · rw [sI_ne (by omega), h4 b hb]
      exact (fS_ne e).symm
  · rw [sI_ne (by omega)]
    exact h5 b h6 h7
theorem mS_l {j : Nat} {v : Int32} (h : mS mm n p g m) (h2 : j ≠ 2) (h3 : j ≠ 3) (h4 : j ≠ 4) (h5 : j ≠ 5) : mS mm n p g (mI m 1277 j v) := by
  obtain ⟨⟨q, h0, hq⟩, h6, h7, h8, h9, h10⟩ := h
  rw [mI_sI]
  refine ⟨⟨q, ⟨h0.1, by rw [sI_at, upd_ne (Ne.symm h2)]; exact h0.2.1, by rw [sI_at, upd_ne (Ne.symm h3)]; exact h0.2.2.1, h0.2.2.2.1, h0.2.2.2.2.1, by rw [sI_ne (by decide)]; exact h0.2.2.2.2.2⟩, hq⟩, by rw [sI_at, upd_ne (Ne.symm h4)]; exact h6, by rw [sI_at, upd_ne (Ne.symm h5)]; exact h7, h8, fun b hb => ?_, fun b h11 h12 => ?_⟩
  · rw [sI_ne (by omega)]
    exact h9 b hb
  · rw [sI_ne h11]
    exact h10 b h11 h12
theorem mS_P {q : Nat} (h : mS mm n p g m) (hq : q ≤ n) : mS mm n (wp (mm.1 1186) n q) g (mP m q) := by
  obtain ⟨⟨q0, h0, hq0⟩, h6, h7, h8, h9, h10⟩ := h
  refine ⟨⟨q, mP_S h0 hq, rfl⟩, ?_, ?_, h8, fun b hb => ?_, fun b h11 h12 => ?_⟩
  · show (sI m 1277 _).1 1277 4 = 0
    rw [sI_at]
    exact h6
  · show (sI m 1277 _).1 1277 5 = 0
    rw [sI_at]
    exact h7
  · rw [mP_o (by omega)]
    exact h9 b hb
  · rw [mP_o h11]
    exact h10 b h11 h12
theorem m_fail {k q : Nat} (h : mS mm n p g m) (hk : k ≠ 0 ∧ k < 4) : zok (F_MReader_fail (sh0 W H) m 1277 (nI k) (nI q)) (mE mm k q) := by
  obtain ⟨⟨q0, h0, hq0⟩, h6, h7, h8, h9, h10⟩ := h
  unfold F_MReader_fail
  simp (disch := first | assumption | omega) only [↓zS_s0, ↓zS_s1, ↓zS_s2, ↓zS_s3, ↓zS_s20, ↓zS_s21, ↓zS_s22, ↓zS_s23, ↓zS_s24, ↓zS_s25, ↓zS_smt, ↓zS_txA, ↓zS_txA1, ↓zS_txA2, ↓zS_msA, ↓zS_msA1, ↓zS_msA2, ↓zS_msA3, ↓zS_msA4, ↓zS_ndA, ↓zS_ndA1, ↓zS_ndA2, ↓zS_tkA, ↓zS_tkA1, ↓zS_tkA2, ↓zS_0, ↓zS_1, ↓zS_2, ↓zS_3, ↓zS_4, ↓zS_5, ↓zS_6, ↓zS_7, ↓zS_8, ↓zS_9, ↓zS_10, ↓zS_1121, ↓zS_1122, ↓zS_1123, ↓zS_1124, ↓zS_1125, ↓zS_1126, ↓zS_1175, ↓zS_1176, ↓zS_1177, ↓zS_1178, ↓zS_1179, ↓zS_1180, ↓zS_1181, ↓zS_1182, ↓zS_1183, ↓zS_1184, ↓zS_1185, ↓zS_1186, ↓zS_1277, ↓zS_1278, ↓zS_1279, ↓zS_1280, ↓zS_1281, ↓zS_1282, ↓zS_1283, ↓zS_1284, ↓zS_1285, ↓zS_1302, ↓zS_1286, ↓zS_1287, ↓zS_1288, ↓zS_1289, ↓zS_1290, ↓zS_1291, ↓zS_1292, ↓zS_1293, ↓zS_1294, ↓zS_1295, ↓zS_1296, ↓zS_1297, ↓zS_1298, ↓zS_1299, ↓zS_1300, ↓zS_1301, ↓zS_sg, ↓zS_m0, ↓zS_m1, ↓zS_m2, ↓zS_m3, ↓zS_m4, ↓zS_m5, ↓zS_m6, ↓zS_m7, ↓zS_m8, ↓zS_m9, ↓zS_m10, ↓zS_m11, ↓zS_m12, ↓zS_m13, ↓zS_m14, ↓zS_m15, ↓zS_m16, ↓zS_m17, ↓zS_m18, ↓zS_m19, ↓zS_m20, ↓zS_m21, ↓zS_m22, ↓zS_m23, ↓zS_m24, ↓zS_m25, ↓zS_m26, ↓zS_m27, ↓zS_m28, ↓zS_m29, ↓bf_0_2, ↓bf_0_4, ↓bf_0_6, ↓bf_0_7, ↓bf_0_8, ↓bf_0_9, ↓bf_3_2, ↓bf_5_0, ↓bf_5_2, ↓bf_5_3, ↓bf_5_5, ↓bf_5_6, ↓bf_1121_0, ↓bf_1121_8, ↓bf_1121_9, ↓bf_1121_10, ↓bf_1121_13, ↓bf_1122_1, ↓bf_1181_1, ↓bf_1178_1, ↓bf_1178_2, ↓bf_1178_8, ↓bf_1178_9, ↓bf_1178_11, ↓bf_1185_2, ↓bf_1185_4, ↓bf_1185_5, ↓bf_1185_6, ↓bf_1185_7, ↓bf_1185_8, ↓bf_1185_9, ↓bf_1185_14, ↓bf_1185_16, ↓bf_1185_17, ↓bf_1185_18, ↓bf_1277_0, ↓bf_1277_1, ↓bf_1278_0, ↓bf_1278_2, ↓bf_1285_3, ↓bf_1285_4, ↓bf_1285_14, ↓bf_1285_15, ↓bf_1285_16, ↓bf_1285_17, ↓bf_1285_18, ↓bf_1285_19, ↓bf_1285_20, ↓bf_1285_21, ↓bf_1285_22, ↓bf_1285_23, ↓bf_1285_24, ↓bf_1285_25, ↓bf_1285_27, ↓bf_1285_28, ↓bf_1285_29, ↓bf_1285_30, ↓bf_2, ↓bf_2_, ↓bf_1126, ↓bf_1126_, ↓bf_s0, ↓bf_s1, ↓bf_s2, ↓bf_s3, ↓bf_s4, ↓bf_s5, ↓bf_s6, ↓bf_s7, ↓bf_s10, ↓bf_tx, ↓bf_tx_, ↓bf_mt, ↓bf_mt_, ↓bf_ms, ↓bf_ms_, ↓bf_nd, ↓bf_nd_, ↓bf_tk, ↓bf_tk_, ↓bf_txA4, ↓bf_txA5, ↓bf_msA3, ↓bf_msA4, ↓bf_msA5, ↓bf_msA6, ↓bf_ndA4, ↓bf_ndA5, ↓bf_tkA4, ↓bf_tkA5, ↓bf_m5, ↓bf_m6, ↓bf_m7, ↓bf_m8, ↓bf_m9, ↓bf_m10, ↓bf_m11, ↓bf_m12, ↓bf_m13, ↓bf_m14, ↓bf_m15, ↓bf_m16, ↓bf_m17, ↓bf_m18, ↓bf_m19, ↓bf_m20, ↓bf_m21, ↓bf_m22, ↓bf_m23, ↓bf_m24, ↓bf_m25, ↓bf_m26, ↓bf_m27, ↓bf_m28, ↓bf_m29, ↓bf_m30, ↓bf_m31, ↓bf_m32, ↓bf_m33, mI_R, sI_R, sL_R, h6, mI_sI, sI_sI, sI_at, ↓zoL_e, ↓zob_e, ↓reduceIte, zoS_e, zob_e, nI_lt0, nI_lt00, nI_cl, nle_f, or_self, or_false, false_or]
  refine zok_s ⟨hk, ?_, ?_, h0.1, h8, fun a h1 h2 => ?_⟩
  · rw [sI_at]
    rfl
  · rw [sI_at]
    rfl
  · rw [sI_ne h1]
    exact h10 a h1 h2
theorem m_signE {k q : Nat} (h : mE mm k q m) (c : Int32) : F_MReader_sign (sh0 W H) m 1277 c = some m := by
  unfold F_MReader_sign
  simp only [sh_1277, zoS_e, mE_w h, ↓reduceIte]
theorem m_sign (h : mS mm n p g m) {c : Int32} (h1 : 0 ≤ c.toInt) (h2 : c.toInt ≤ 127) : oR (sgn (mm.1 1186) n c p) (F_MReader_sign (sh0 W H) m 1277 c) (fun q m' => mS mm n q g m' ∧ ∀ j, j ≠ 3 → m'.1 1277 j = m.1 1277 j) (mE mm) := by
  have ht := mS_t h
  have htk := mS_tok h
  obtain ⟨q, hq, e⟩ := h.1
  have hnx := m_next (W := W) (H := H) hq
  rw [ht, e] at hnx
  have hmp : mS mm n p g (mP m p) := by
    have := mS_P h htk.2
    rw [htk.1] at this
    exact this
  have h3 : (mP m p).1 1277 3 = nI p := by
    show (sI m 1277 _).1 1277 3 = _
    rw [sI_at]
    rfl
  have hbb := bb_eq (t := mm.1 1186) (n := n) (k := p) (by rw [← ht]; exact hq.2.2.2.2.2) h1 h2
  unfold F_MReader_sign sgn
  simp only [sh_1277, zoS_e, h.2.1, ↓reduceIte, hnx, zob_e, zoL_e, hbb, h3, nI_1]
  by_cases hc : p < n ∧ mm.1 1186 p = c
  · rw [if_pos hc, if_pos hc, mI_sI]
    refine zok_s ⟨?_, fun j hj => ?_⟩
    · have := mS_P hmp (q := p + 1) (by omega)
      exact this
    · rw [sI_at, upd_ne hj]
      show (sI m 1277 _).1 1277 j = _
      rw [sI_at, upd_ne hj]
  · rw [if_neg hc, if_neg hc]
    exact zok_b (m_fail (k := 1) (q := p) hmp (by decide)) (fun m' hm => zok_s hm)
end ZMR
