/-! PURE: the reference reads a name, a number -/
theorem ztc_rng : ∀ i : Fin 67, ∀ j : Fin 12, 0 ≤ (ztxc i j).toInt ∧ (ztxc i j).toInt ≤ 127 := by decide +kernel
theorem ztx_12 : ∀ i : Fin 67, (ztxb i).length ≤ 12 := by decide +kernel
theorem ztxc_c {i i' : Nat} (h : ztxb i' = ztxb i) (j : Nat) : ztxc i' j = ztxc i j := by
  unfold ztxc
  rw [h]
theorem wrd_c {t : Nat → Int32} {n i i' p : Nat} (h : ztxb i' = ztxb i) : wrd t n i' p = wrd t n i p := by
  unfold wrd
  simp only [ztxc_c h]
  rw [h]
theorem nam_c {t : Nat → Int32} {n i i' p : Nat} (h : ztxb i' = ztxb i) : nam t n i' p = nam t n i p := by
  unfold nam
  rw [wrd_c h, h]
theorem m_isWord_33 {W H : Nat} {m : zMem} {n p i : Nat} (h : mS0 m n p) (hi : i < 67) (hl : p + (ztxb i).length + 1 < n) : ∀ (d j fuel : Nat), j + d = (ztxb i).length → d < fuel → ∃ q : Nat × Int32 × Nat × Nat × Int32 × zMem, L_MReader_isWord_33 (sh0 W H) fuel 1277 i (nI j) m = some q ∧ q.2.2.2.2.2 = m ∧ (q.1 = 1 ∨ q.1 = 0 ∧ q.2.1 = 0) ∧ (q.1 = 1 ↔ ∀ k, j ≤ k → k < (ztxb i).length → m.1 1186 (p + 1 + k) = ztxc i k) := by
  have hs := ztx_small i
  have h12 := ztx_12 ⟨i, hi⟩
  have hn := h.2.2.2.1
  have h3 := h.2.2.1
  have hb := h.2.2.2.2.2
  intro d
  induction d with
  | zero =>
    intro j fuel hj hf
    obtain ⟨fu, rfl⟩ : ∃ fu, fuel = fu + 1 := ⟨fuel - 1, by omega⟩
    obtain rfl : j = (ztxb i).length := by omega
    simp only [L_MReader_isWord_33]
    rw [if_pos hi, if_pos (show ztxn i ≤ nI (ztxb i).length from Int32.le_refl _)]
    exact ⟨_, rfl, rfl, Or.inl rfl, fun _ k h1 h2 => by omega, fun _ => rfl⟩
  | succ d ih =>
    intro j fuel hj hf
    obtain ⟨fu, rfl⟩ : ∃ fu, fuel = fu + 1 := ⟨fuel - 1, by omega⟩
    have hlt : ¬ ztxn i ≤ nI j := by
      show ¬ nI (ztxb i).length ≤ nI j
      rw [nI_leD (by omega) (by omega)]
      omega
    have hc : i < 67 ∧ ¬ nI j < 0 ∧ nI j < ztxn i := ⟨hi, nI_pos (by omega), Int32.not_le.mp hlt⟩
    have hby := m_byteAt (W := W) (H := H) h (k := p + 1 + j) (by omega)
    have hr := ztc_rng ⟨i, hi⟩ ⟨j, by simp only at h12; omega⟩
    have hbb := bb_eq (t := m.1 1186) (n := n) (k := p + 1 + j) hb hr.1 hr.2
    simp only at hbb
    have ht : (p + 1 + j < n) = True := eq_true (by omega)
    simp (disch := first | assumption | omega) only [L_MReader_isWord_33, ↓zS_s0, ↓zS_s1, ↓zS_s2, ↓zS_s3, ↓zS_s20, ↓zS_s21, ↓zS_s22, ↓zS_s23, ↓zS_s24, ↓zS_s25, ↓zS_smt, ↓zS_txA, ↓zS_txA1, ↓zS_txA2, ↓zS_msA, ↓zS_msA1, ↓zS_msA2, ↓zS_msA3, ↓zS_msA4, ↓zS_ndA, ↓zS_ndA1, ↓zS_ndA2, ↓zS_tkA, ↓zS_tkA1, ↓zS_tkA2, ↓zS_0, ↓zS_1, ↓zS_2, ↓zS_3, ↓zS_4, ↓zS_5, ↓zS_6, ↓zS_7, ↓zS_8, ↓zS_9, ↓zS_10, ↓zS_1121, ↓zS_1122, ↓zS_1123, ↓zS_1124, ↓zS_1125, ↓zS_1126, ↓zS_1175, ↓zS_1176, ↓zS_1177, ↓zS_1178, ↓zS_1179, ↓zS_1180, ↓zS_1181, ↓zS_1182, ↓zS_1183, ↓zS_1184, ↓zS_1185, ↓zS_1186, ↓zS_1277, ↓zS_1278, ↓zS_1279, ↓zS_1280, ↓zS_1281, ↓zS_1282, ↓zS_1283, ↓zS_1284, ↓zS_1285, ↓zS_1302, ↓zS_1286, ↓zS_1287, ↓zS_1288, ↓zS_1289, ↓zS_1290, ↓zS_1291, ↓zS_1292, ↓zS_1293, ↓zS_1294, ↓zS_1295, ↓zS_1296, ↓zS_1297, ↓zS_1298, ↓zS_1299, ↓zS_1300, ↓zS_1301, ↓zS_sg, ↓zS_m0, ↓zS_m1, ↓zS_m2, ↓zS_m3, ↓zS_m4, ↓zS_m5, ↓zS_m6, ↓zS_m7, ↓zS_m8, ↓zS_m9, ↓zS_m10, ↓zS_m11, ↓zS_m12, ↓zS_m13, ↓zS_m14, ↓zS_m15, ↓zS_m16, ↓zS_m17, ↓zS_m18, ↓zS_m19, ↓zS_m20, ↓zS_m21, ↓zS_m22, ↓zS_m23, ↓zS_m24, ↓zS_m25, ↓zS_m26, ↓zS_m27, ↓zS_m28, ↓zS_m29, ↓bf_0_2, ↓bf_0_4, ↓bf_0_6, ↓bf_0_7, ↓bf_0_8, ↓bf_0_9, ↓bf_3_2, ↓bf_5_0, ↓bf_5_2, ↓bf_5_3, ↓bf_5_5, ↓bf_5_6, ↓bf_1121_0, ↓bf_1121_8, ↓bf_1121_9, ↓bf_1121_10, ↓bf_1121_13, ↓bf_1122_1, ↓bf_1181_1, ↓bf_1178_1, ↓bf_1178_2, ↓bf_1178_8, ↓bf_1178_9, ↓bf_1178_11, ↓bf_1185_2, ↓bf_1185_4, ↓bf_1185_5, ↓bf_1185_6, ↓bf_1185_7, ↓bf_1185_8, ↓bf_1185_9, ↓bf_1185_14, ↓bf_1185_16, ↓bf_1185_17, ↓bf_1185_18, ↓bf_1277_0, ↓bf_1277_1, ↓bf_1278_0, ↓bf_1278_2, ↓bf_1285_3, ↓bf_1285_4, ↓bf_1285_14, ↓bf_1285_15, ↓bf_1285_16, ↓bf_1285_17, ↓bf_1285_18, ↓bf_1285_19, ↓bf_1285_20, ↓bf_1285_21, ↓bf_1285_22, ↓bf_1285_23, ↓bf_1285_24, ↓bf_1285_25, ↓bf_1285_27, ↓bf_1285_28, ↓bf_1285_29, ↓bf_1285_30, ↓bf_2, ↓bf_2_, ↓bf_1126, ↓bf_1126_, ↓bf_s0, ↓bf_s1, ↓bf_s2, ↓bf_s3, ↓bf_s4, ↓bf_s5, ↓bf_s6, ↓bf_s7, ↓bf_s10, ↓bf_tx, ↓bf_tx_, ↓bf_mt, ↓bf_mt_, ↓bf_ms, ↓bf_ms_, ↓bf_nd, ↓bf_nd_, ↓bf_tk, ↓bf_tk_, ↓bf_txA4, ↓bf_txA5, ↓bf_msA3, ↓bf_msA4, ↓bf_msA5, ↓bf_msA6, ↓bf_ndA4, ↓bf_ndA5, ↓bf_tkA4, ↓bf_tkA5, ↓bf_m5, ↓bf_m6, ↓bf_m7, ↓bf_m8, ↓bf_m9, ↓bf_m10, ↓bf_m11, ↓bf_m12, ↓bf_m13, ↓bf_m14, ↓bf_m15, ↓bf_m16, ↓bf_m17, ↓bf_m18, ↓bf_m19, ↓bf_m20, ↓bf_m21, ↓bf_m22, ↓bf_m23, ↓bf_m24, ↓bf_m25, ↓bf_m26, ↓bf_m27, ↓bf_m28, ↓bf_m29, ↓bf_m30, ↓bf_m31, ↓bf_m32, ↓bf_m33, mI_R, sI_R, sL_R, hi, hlt, h3, nI_1, nI_add, ↓zob_h hby, hby, ↓zoL_e, ↓zob_e, ↓reduceIte, zoS_e, zob_e, nI_lt0, nI_lt00, nI_cl, nle_f, or_self, or_false, false_or]
    rw [if_pos (by simp [hc, hi])]
    simp only [hbb]
    by_cases e : m.1 1186 (p + 1 + j) = ztxc i j
    · rw [if_pos ⟨by omega, e⟩]
      obtain ⟨q, a1, a2, a3, a4⟩ := ih (j + 1) fu (by omega) (by omega)
      refine ⟨q, a1, a2, a3, fun hq k h1 h2 => ?_, fun hq => a4.mpr (fun k h1 h2 => hq k (by omega) h2)⟩
      by_cases ek : k = j
      · rw [ek]
        exact e
      · exact a4.mp hq k (by omega) h2
    · rw [if_neg (fun q => e q.2)]
      exact ⟨_, rfl, rfl, Or.inr ⟨rfl, rfl⟩, fun hq => absurd (show (0 : Nat) = 1 from hq) (by decide), fun hq => absurd (hq j (Nat.le_refl _) (by omega)) e⟩
theorem m_isWord {W H : Nat} {m : zMem} {n p q0 i : Nat} (h : mS0 m n q0) (hq : wp (m.1 1186) n q0 = p) (hi : i < 67) : F_MReader_isWord (sh0 W H) m 1277 i = some (if wrd (m.1 1186) n i p then 1 else 0, mP m p) := by
  have hs := ztx_small i
  have hn := h.2.2.2.1
  have hb := h.2.2.2.2.2
  have hp : p ≤ n := by rw [← hq]; exact wp_2 h.2.2.2.2.1
  have hS := mP_S h hp
  have h3 := hS.2.2.1
  have hnx := m_next (W := W) (H := H) h
  rw [hq] at hnx
  have hby := m_byteAt (W := W) (H := H) hS (k := p + 1 + (ztxb i).length) (by omega)
  rw [mP_o (by decide)] at hby
  have b34 := bb_eq (t := m.1 1186) (n := n) (k := p) hb (c := 34) (by decide) (by decide)
  have b34' := bb_eq (t := m.1 1186) (n := n) (k := p + 1 + (ztxb i).length) hb (c := 34) (by decide) (by decide)
  have ez : ztxn i = nI (ztxb i).length := rfl
  unfold F_MReader_isWord wrd
  simp only [sh_1277, zoS_e, hnx, zob_e, zoL_e, b34, hi, ↓reduceIte, h3, nI_1, ez, nI_add, hby, b34']
  by_cases hl : p + (ztxb i).length + 1 < n
  · rw [decide_eq_true hl]
    by_cases a1 : m.1 1186 p = 34
    · rw [if_pos ⟨by omega, a1⟩, decide_eq_true a1, show p + 1 + (ztxb i).length = p + (ztxb i).length + 1 by omega]
      by_cases a2 : m.1 1186 (p + (ztxb i).length + 1) = 34
      · rw [if_pos ⟨hl, a2⟩, decide_eq_true a2]
        obtain ⟨q, b1, b2, b3, b4⟩ := m_isWord_33 (W := W) (H := H) hS hi hl (ztxb i).length 0 zfuel (by omega) (zf_lt (by omega))
        rw [mP_o (by decide)] at b4
        rw [nI_k0, b1, zob_e, b2]
        rcases b3 with c1 | ⟨c1, c2⟩
        · rw [if_pos c1, if_pos]
          simp only [Bool.true_and, List.all_eq_true, List.mem_range, decide_eq_true_eq]
          exact fun k hk => b4.mp c1 k (by omega) hk
        · rw [if_neg (show ¬ q.1 = 1 by omega), if_neg, c2]
          · rfl
          intro hk
          simp only [Bool.true_and, List.all_eq_true, List.mem_range, decide_eq_true_eq] at hk
          have := b4.mpr (fun k _ h2 => hk k h2)
          omega
      · rw [if_neg (fun q => a2 q.2), decide_eq_false a2]
        rfl
    · rw [if_neg (fun q => a1 q.2), decide_eq_false a1]
      rfl
  · rw [decide_eq_false hl]
    by_cases a1 : p < n ∧ m.1 1186 p = 34
    · rw [if_pos a1, if_neg (by omega)]
      rfl
    · rw [if_neg a1]
      rfl
section ZMN
variable {W H : Nat} {mm m : zMem} {n p : Nat} {g : Nat → Nat → Int32}
theorem m_nameE {k q : Nat} (h : mE mm k q m) (i : Nat) : F_MReader_name (sh0 W H) m 1277 i = some m := by
  unfold F_MReader_name
  simp only [sh_1277, zoS_e, mE_w h, ↓reduceIte]
theorem mS_Pp (h : mS mm n p g m) : mS mm n p g (mP m p) := by
  have htk := mS_tok h
  have := mS_P h htk.2
  rw [htk.1] at this
  exact this
theorem m_name (h : mS mm n p g m) {i i' : Nat} (hi : i' < 67) (hz : ztxb i' = ztxb i) : oR (nam (mm.1 1186) n i p) (F_MReader_name (sh0 W H) m 1277 i') (fun q m' => mS mm n q g m' ∧ ∀ j, j ≠ 3 → m'.1 1277 j = m.1 1277 j) (mE mm) := by
  rw [← nam_c hz]
  have hs := ztx_small i'
  have ht := mS_t h
  have htk := mS_tok h
  obtain ⟨q, hq, e⟩ := h.1
  have hn := hq.2.2.2.1
  have hiw := m_isWord (W := W) (H := H) (p := p) hq (by rw [ht]; exact e) hi
  rw [ht] at hiw
  have hmp := mS_Pp h
  have h3 : (mP m p).1 1277 3 = nI p := by
    show (sI m 1277 _).1 1277 3 = _
    rw [sI_at]
    rfl
  have ez : ztxn i' + 2 = nI ((ztxb i').length + 2) := by
    show nI (ztxb i').length + 2 = _
    rw [nI_k2, nI_add]
  unfold F_MReader_name nam
  simp only [sh_1277, zoS_e, h.2.1, ↓reduceIte, hiw, zob_e, zoL_e, h3, hi, ez, nI_add]
  by_cases hw : wrd (mm.1 1186) n i' p = true
  · have hl := wrd_lt hw
    simp only [hw, i1ne0, ↓reduceIte, mI_sI]
    have h4 : mS mm n (wp (mm.1 1186) n (p + ((ztxb i').length + 2))) g (mP (mP m p) (p + ((ztxb i').length + 2))) := mS_P hmp (by omega)
    have hx := m_sign (W := W) (H := H) h4 (c := 58) (by decide) (by decide)
    rw [show p + (ztxb i').length + 2 = p + ((ztxb i').length + 2) by omega]
    show oR _ (Option.bind (F_MReader_sign (sh0 W H) (mP (mP m p) (p + ((ztxb i').length + 2))) 1277 58) (fun p17 => some p17)) _ _
    cases hsg : sgn (mm.1 1186) n 58 (wp (mm.1 1186) n (p + ((ztxb i').length + 2))) with
    | error e =>
      rw [hsg] at hx
      exact zok_b hx (fun m' hm => zok_s hm)
    | ok q' =>
      rw [hsg] at hx
      refine zok_b hx (fun m' hm => zok_s ⟨hm.1, fun j hj => ?_⟩)
      rw [hm.2 j hj, mP_P]
      show (sI m 1277 _).1 1277 j = _
      rw [sI_at, upd_ne hj]
  · have hw' : wrd (mm.1 1186) n i' p = false := by simpa using hw
    simp only [hw', Bool.false_eq_true, ↓reduceIte]
    exact zok_b (m_fail (k := 1) (q := p) hmp (by decide)) (fun m' hm => zok_s hm)
theorem dig_bb {t : Nat → Int32} {k : Nat} (hb : btB t n) : (sp_MReader_digit (bb t n k) = 0) = ¬ (k < n ∧ isD (t k) = true) := by
  apply propext
  have e48 : (48 : Int32).toInt = 48 := by decide
  have e57 : (57 : Int32).toInt = 57 := by decide
  unfold sp_MReader_digit bb
  by_cases h : k < n
  · rw [if_pos h]
    have hr := hb k h
    have hv := i32_and255 (t k)
    by_cases hd : isD (t k) = true
    · have := isD_rng hd
      rw [if_neg (by rw [i32_lt, hv, e48]; omega), if_neg (by rw [i32_lt, hv, e57]; omega)]
      exact ⟨fun q => absurd q (by decide), fun q => absurd ⟨h, hd⟩ q⟩
    · refine ⟨fun _ q => hd q.2, fun _ => ?_⟩
      by_cases h1 : t k &&& 255 < 48
      · rw [if_pos h1]
      · rw [if_neg h1]
        by_cases h2 : 57 < t k &&& 255
        · rw [if_pos h2]
        · exfalso
          rw [i32_lt, hv, e48] at h1
          rw [i32_lt, hv, e57] at h2
          exact hd (isD_of (by omega) (by omega))
  · rw [if_neg h, if_pos (by decide)]
    exact ⟨fun _ q => h q.1, fun _ => rfl⟩
theorem dg_ne0 {t : Nat → Int32} {k : Nat} : (k < n ∧ isD (t k) = true) ↔ dg t n k ≠ 0 := by
  constructor
  · intro h
    rw [dg_yes h.1 h.2]
    omega
  · intro h
    have h1 : k < n := Nat.lt_of_not_le (fun q => h (dg_end q))
    refine ⟨h1, ?_⟩
    cases e : isD (t k) with
    | true => rfl
    | false => exact absurd (dg_no e) h
theorem m_numberNext (h : mS mm n p g m) : F_MReader_numberNext (sh0 W H) m 1277 = some (if dg (mm.1 1186) n (nst (mm.1 1186) n p) = 0 then 0 else 1, mP m p) := by
  have ht := mS_t h
  have htk := mS_tok h
  obtain ⟨q, hq, e⟩ := h.1
  have hn := hq.2.2.2.1
  have hb : btB (mm.1 1186) n := by rw [← ht]; exact hq.2.2.2.2.2
  have hnx := m_next (W := W) (H := H) hq
  rw [ht, e] at hnx
  have hS := mP_S hq htk.2
  have h3 := hS.2.2.1
  have hby := m_byteAt (W := W) (H := H) hS (k := p + 1) (by omega)
  rw [mP_o (by decide), ht] at hby
  have b45 := bb_eq (t := mm.1 1186) (n := n) (k := p) hb (c := 45) (by decide) (by decide)
  unfold F_MReader_numberNext nst
  simp only [sh_1277, zoS_e, hnx, zob_e, h3, nI_1, hby, b45, dig_bb hb]
  by_cases hm : p < n ∧ mm.1 1186 p = 45
  · have hnd : ¬ (p < n ∧ isD (mm.1 1186 p) = true) := fun q => by
      have := q.2
      rw [hm.2] at this
      exact absurd this (by decide)
    rw [if_pos hnd, if_pos hm, if_pos hm]
    by_cases hd : p + 1 < n ∧ isD (mm.1 1186 (p + 1)) = true
    · rw [if_neg (fun q => q hd), if_neg (dg_ne0.mp hd)]
    · rw [if_pos hd, if_pos (Classical.not_not.mp (fun q => hd (dg_ne0.mpr q)))]
  · rw [if_neg hm, if_neg hm]
    by_cases hd : p < n ∧ isD (mm.1 1186 p) = true
    · rw [if_neg (fun q => q hd), if_neg (dg_ne0.mp hd)]
    · rw [if_pos hd, if_pos (Classical.not_not.mp (fun q => hd (dg_ne0.mpr q)))]
/-- digits by and by -/
theorem m_take48 {v1 : Int32} : ∀ (d q fuel : Nat) (x : Int64) (a : Int) (m : zMem), q + d = n → d < fuel → mS0 m n q → 0 ≤ a → 0 ≤ x.toInt → x.toInt < 1000000000000 → (x.toInt = a ∨ (10000000000 ≤ x.toInt ∧ 10000000000 ≤ a)) → ∃ X : Int64, L_MReader_takeNumber_48 (sh0 W H) fuel 1277 v1 x m = some (1277, v1, X, mP m (q + dg (m.1 1186) n q)) ∧ 0 ≤ X.toInt ∧ X.toInt < 1000000000000 ∧ (X.toInt = dv (m.1 1186) (dg (m.1 1186) n q) q a ∨ (10000000000 ≤ X.toInt ∧ 10000000000 ≤ dv (m.1 1186) (dg (m.1 1186) n q) q a)) := by
  intro d
  induction d with
  | zero =>
    intro q fuel x a m hd hf h ha hx0 hx1 hx
    obtain ⟨fu, rfl⟩ : ∃ fu, fuel = fu + 1 := ⟨fuel - 1, by omega⟩
    have hid := mP_id h
    have hby := m_byteAt (W := W) (H := H) h (k := q) (by have := h.2.2.2.1; omega)
    have hdg : (sp_MReader_digit (bb (m.1 1186) n q) = 0) = True := by
      rw [dig_bb h.2.2.2.2.2]
      exact eq_true (fun z => by omega)
    have h3 := h.2.2.1
    have hR := h.1
    simp (disch := first | assumption | omega) only [L_MReader_takeNumber_48, ↓zS_s0, ↓zS_s1, ↓zS_s2, ↓zS_s3, ↓zS_s20, ↓zS_s21, ↓zS_s22, ↓zS_s23, ↓zS_s24, ↓zS_s25, ↓zS_smt, ↓zS_txA, ↓zS_txA1, ↓zS_txA2, ↓zS_msA, ↓zS_msA1, ↓zS_msA2, ↓zS_msA3, ↓zS_msA4, ↓zS_ndA, ↓zS_ndA1, ↓zS_ndA2, ↓zS_tkA, ↓zS_tkA1, ↓zS_tkA2, ↓zS_0, ↓zS_1, ↓zS_2, ↓zS_3, ↓zS_4, ↓zS_5, ↓zS_6, ↓zS_7, ↓zS_8, ↓zS_9, ↓zS_10, ↓zS_1121, ↓zS_1122, ↓zS_1123, ↓zS_1124, ↓zS_1125, ↓zS_1126, ↓zS_1175, ↓zS_1176, ↓zS_1177, ↓zS_1178, ↓zS_1179, ↓zS_1180, ↓zS_1181, ↓zS_1182, ↓zS_1183, ↓zS_1184, ↓zS_1185, ↓zS_1186, ↓zS_1277, ↓zS_1278, ↓zS_1279, ↓zS_1280, ↓zS_1281, ↓zS_1282, ↓zS_1283, ↓zS_1284, ↓zS_1285, ↓zS_1302, ↓zS_1286, ↓zS_1287, ↓zS_1288, ↓zS_1289, ↓zS_1290, ↓zS_1291, ↓zS_1292, ↓zS_1293, ↓zS_1294, ↓zS_1295, ↓zS_1296, ↓zS_1297, ↓zS_1298, ↓zS_1299, ↓zS_1300, ↓zS_1301, ↓zS_sg, ↓zS_m0, ↓zS_m1, ↓zS_m2, ↓zS_m3, ↓zS_m4, ↓zS_m5, ↓zS_m6, ↓zS_m7, ↓zS_m8, ↓zS_m9, ↓zS_m10, ↓zS_m11, ↓zS_m12, ↓zS_m13, ↓zS_m14, ↓zS_m15, ↓zS_m16, ↓zS_m17, ↓zS_m18, ↓zS_m19, ↓zS_m20, ↓zS_m21, ↓zS_m22, ↓zS_m23, ↓zS_m24, ↓zS_m25, ↓zS_m26, ↓zS_m27, ↓zS_m28, ↓zS_m29, ↓bf_0_2, ↓bf_0_4, ↓bf_0_6, ↓bf_0_7, ↓bf_0_8, ↓bf_0_9, ↓bf_3_2, ↓bf_5_0, ↓bf_5_2, ↓bf_5_3, ↓bf_5_5, ↓bf_5_6, ↓bf_1121_0, ↓bf_1121_8, ↓bf_1121_9, ↓bf_1121_10, ↓bf_1121_13, ↓bf_1122_1, ↓bf_1181_1, ↓bf_1178_1, ↓bf_1178_2, ↓bf_1178_8, ↓bf_1178_9, ↓bf_1178_11, ↓bf_1185_2, ↓bf_1185_4, ↓bf_1185_5, ↓bf_1185_6, ↓bf_1185_7, ↓bf_1185_8, ↓bf_1185_9, ↓bf_1185_14, ↓bf_1185_16, ↓bf_1185_17, ↓bf_1185_18, ↓bf_1277_0, ↓bf_1277_1, ↓bf_1278_0, ↓bf_1278_2, ↓bf_1285_3, ↓bf_1285_4, ↓bf_1285_14, ↓bf_1285_15, ↓bf_1285_16, ↓bf_1285_17, ↓bf_1285_18, ↓bf_1285_19, ↓bf_1285_20, ↓bf_1285_21, ↓bf_1285_22, ↓bf_1285_23, ↓bf_1285_24, ↓bf_1285_25, ↓bf_1285_27, ↓bf_1285_28, ↓bf_1285_29, ↓bf_1285_30, ↓bf_2, ↓bf_2_, ↓bf_1126, ↓bf_1126_, ↓bf_s0, ↓bf_s1, ↓bf_s2, ↓bf_s3, ↓bf_s4, ↓bf_s5, ↓bf_s6, ↓bf_s7, ↓bf_s10, ↓bf_tx, ↓bf_tx_, ↓bf_mt, ↓bf_mt_, ↓bf_ms, ↓bf_ms_, ↓bf_nd, ↓bf_nd_, ↓bf_tk, ↓bf_tk_, ↓bf_txA4, ↓bf_txA5, ↓bf_msA3, ↓bf_msA4, ↓bf_msA5, ↓bf_msA6, ↓bf_ndA4, ↓bf_ndA5, ↓bf_tkA4, ↓bf_tkA5, ↓bf_m5, ↓bf_m6, ↓bf_m7, ↓bf_m8, ↓bf_m9, ↓bf_m10, ↓bf_m11, ↓bf_m12, ↓bf_m13, ↓bf_m14, ↓bf_m15, ↓bf_m16, ↓bf_m17, ↓bf_m18, ↓bf_m19, ↓bf_m20, ↓bf_m21, ↓bf_m22, ↓bf_m23, ↓bf_m24, ↓bf_m25, ↓bf_m26, ↓bf_m27, ↓bf_m28, ↓bf_m29, ↓bf_m30, ↓bf_m31, ↓bf_m32, ↓bf_m33, mI_R, sI_R, sL_R, h3, ↓zob_h hby, hby, hdg, ↓zoL_e, ↓zob_e, ↓reduceIte, zoS_e, zob_e, nI_lt0, nI_lt00, nI_cl, nle_f, or_self, or_false, false_or]
    rw [dg_end (by omega), Nat.add_zero, hid]
    exact ⟨x, rfl, hx0, hx1, hx⟩
  | succ d ih =>
    intro q fuel x a m hd hf h ha hx0 hx1 hx
    obtain ⟨fu, rfl⟩ : ∃ fu, fuel = fu + 1 := ⟨fuel - 1, by omega⟩
    have hid := mP_id h
    have hby := m_byteAt (W := W) (H := H) h (k := q) (by have := h.2.2.2.1; omega)
    have h3 := h.2.2.1
    have hR := h.1
    by_cases hD : isD (m.1 1186 q) = true
    · obtain ⟨r1, r2⟩ := isD_rng hD
      have hdg : (sp_MReader_digit (bb (m.1 1186) n q) = 0) = False := by
        rw [dig_bb h.2.2.2.2.2]
        exact eq_false (fun z => z ⟨by omega, hD⟩)
      have hbv : (bb (m.1 1186) n q).toInt = (m.1 1186 q).toInt := by
        unfold bb
        rw [if_pos (by omega), i32_and255]
        omega
      have c10 : (10000000000 : Int64).toInt = 10000000000 := by decide
      have hS1 := mP_S h (q := q + 1) (by omega)
      have fin : ∀ X' : Int64, 0 ≤ X'.toInt → X'.toInt < 1000000000000 → (X'.toInt = 10 * a + ((m.1 1186 q).toInt - 48) ∨ (10000000000 ≤ X'.toInt ∧ 10000000000 ≤ 10 * a + ((m.1 1186 q).toInt - 48))) → ∃ X : Int64, L_MReader_takeNumber_48 (sh0 W H) fu 1277 v1 X' (mP m (q + 1)) = some (1277, v1, X, mP m (q + dg (m.1 1186) n q)) ∧ 0 ≤ X.toInt ∧ X.toInt < 1000000000000 ∧ (X.toInt = dv (m.1 1186) (dg (m.1 1186) n q) q a ∨ (10000000000 ≤ X.toInt ∧ 10000000000 ≤ dv (m.1 1186) (dg (m.1 1186) n q) q a)) := by
        intro X' g0 g1 g2
        obtain ⟨X, e1, e2, e3, e4⟩ := ih (q + 1) fu X' (10 * a + ((m.1 1186 q).toInt - 48)) (mP m (q + 1)) (by omega) (by omega) hS1 (by omega) g0 g1 g2
        rw [mP_o (by decide)] at e1 e4
        refine ⟨X, ?_, e2, e3, ?_⟩
        · rw [e1, mP_P, dg_yes (by omega) hD, show q + 1 + dg (m.1 1186) n (q + 1) = q + (dg (m.1 1186) n (q + 1) + 1) by omega]
        · rw [dg_yes (by omega) hD]
          exact e4
      have hmP : mI m 1277 3 (nI (q + 1)) = mP m (q + 1) := mI_sI _ _ _ _
      by_cases hbig : 10000000000 ≤ x.toInt
      · have hc : (0 ≤ lg_cmp x 10000000000) = True := eq_true ((lg_cmp_ge _ _).mpr (i64_le.mpr (by rw [c10]; exact hbig)))
        simp (disch := first | assumption | omega) only [L_MReader_takeNumber_48, ↓zS_s0, ↓zS_s1, ↓zS_s2, ↓zS_s3, ↓zS_s20, ↓zS_s21, ↓zS_s22, ↓zS_s23, ↓zS_s24, ↓zS_s25, ↓zS_smt, ↓zS_txA, ↓zS_txA1, ↓zS_txA2, ↓zS_msA, ↓zS_msA1, ↓zS_msA2, ↓zS_msA3, ↓zS_msA4, ↓zS_ndA, ↓zS_ndA1, ↓zS_ndA2, ↓zS_tkA, ↓zS_tkA1, ↓zS_tkA2, ↓zS_0, ↓zS_1, ↓zS_2, ↓zS_3, ↓zS_4, ↓zS_5, ↓zS_6, ↓zS_7, ↓zS_8, ↓zS_9, ↓zS_10, ↓zS_1121, ↓zS_1122, ↓zS_1123, ↓zS_1124, ↓zS_1125, ↓zS_1126, ↓zS_1175, ↓zS_1176, ↓zS_1177, ↓zS_1178, ↓zS_1179, ↓zS_1180, ↓zS_1181, ↓zS_1182, ↓zS_1183, ↓zS_1184, ↓zS_1185, ↓zS_1186, ↓zS_1277, ↓zS_1278, ↓zS_1279, ↓zS_1280, ↓zS_1281, ↓zS_1282, ↓zS_1283, ↓zS_1284, ↓zS_1285, ↓zS_1302, ↓zS_1286, ↓zS_1287, ↓zS_1288, ↓zS_1289, ↓zS_1290, ↓zS_1291, ↓zS_1292, ↓zS_1293, ↓zS_1294, ↓zS_1295, ↓zS_1296, ↓zS_1297, ↓zS_1298, ↓zS_1299, ↓zS_1300, ↓zS_1301, ↓zS_sg, ↓zS_m0, ↓zS_m1, ↓zS_m2, ↓zS_m3, ↓zS_m4, ↓zS_m5, ↓zS_m6, ↓zS_m7, ↓zS_m8, ↓zS_m9, ↓zS_m10, ↓zS_m11, ↓zS_m12, ↓zS_m13, ↓zS_m14, ↓zS_m15, ↓zS_m16, ↓zS_m17, ↓zS_m18, ↓zS_m19, ↓zS_m20, ↓zS_m21, ↓zS_m22, ↓zS_m23, ↓zS_m24, ↓zS_m25, ↓zS_m26, ↓zS_m27, ↓zS_m28, ↓zS_m29, ↓bf_0_2, ↓bf_0_4, ↓bf_0_6, ↓bf_0_7, ↓bf_0_8, ↓bf_0_9, ↓bf_3_2, ↓bf_5_0, ↓bf_5_2, ↓bf_5_3, ↓bf_5_5, ↓bf_5_6, ↓bf_1121_0, ↓bf_1121_8, ↓bf_1121_9, ↓bf_1121_10, ↓bf_1121_13, ↓bf_1122_1, ↓bf_1181_1, ↓bf_1178_1, ↓bf_1178_2, ↓bf_1178_8, ↓bf_1178_9, ↓bf_1178_11, ↓bf_1185_2, ↓bf_1185_4, ↓bf_1185_5, ↓bf_1185_6, ↓bf_1185_7, ↓bf_1185_8, ↓bf_1185_9, ↓bf_1185_14, ↓bf_1185_16, ↓bf_1185_17, ↓bf_1185_18, ↓bf_1277_0, ↓bf_1277_1, ↓bf_1278_0, ↓bf_1278_2, ↓bf_1285_3, ↓bf_1285_4, ↓bf_1285_14, ↓bf_1285_15, ↓bf_1285_16, ↓bf_1285_17, ↓bf_1285_18, ↓bf_1285_19, ↓bf_1285_20, ↓bf_1285_21, ↓bf_1285_22, ↓bf_1285_23, ↓bf_1285_24, ↓bf_1285_25, ↓bf_1285_27, ↓bf_1285_28, ↓bf_1285_29, ↓bf_1285_30, ↓bf_2, ↓bf_2_, ↓bf_1126, ↓bf_1126_, ↓bf_s0, ↓bf_s1, ↓bf_s2, ↓bf_s3, ↓bf_s4, ↓bf_s5, ↓bf_s6, ↓bf_s7, ↓bf_s10, ↓bf_tx, ↓bf_tx_, ↓bf_mt, ↓bf_mt_, ↓bf_ms, ↓bf_ms_, ↓bf_nd, ↓bf_nd_, ↓bf_tk, ↓bf_tk_, ↓bf_txA4, ↓bf_txA5, ↓bf_msA3, ↓bf_msA4, ↓bf_msA5, ↓bf_msA6, ↓bf_ndA4, ↓bf_ndA5, ↓bf_tkA4, ↓bf_tkA5, ↓bf_m5, ↓bf_m6, ↓bf_m7, ↓bf_m8, ↓bf_m9, ↓bf_m10, ↓bf_m11, ↓bf_m12, ↓bf_m13, ↓bf_m14, ↓bf_m15, ↓bf_m16, ↓bf_m17, ↓bf_m18, ↓bf_m19, ↓bf_m20, ↓bf_m21, ↓bf_m22, ↓bf_m23, ↓bf_m24, ↓bf_m25, ↓bf_m26, ↓bf_m27, ↓bf_m28, ↓bf_m29, ↓bf_m30, ↓bf_m31, ↓bf_m32, ↓bf_m33, mI_R, sI_R, sL_R, h3, ↓zob_h hby, hby, hdg, hc, nI_1, hmP, ↓zoL_e, ↓zob_e, ↓reduceIte, zoS_e, zob_e, nI_lt0, nI_lt00, nI_cl, nle_f, or_self, or_false, false_or]
        exact fin x hx0 hx1 (Or.inr ⟨hbig, by omega⟩)
      · have hc : (0 ≤ lg_cmp x 10000000000) = False := eq_false (fun z => hbig (by have := i64_le.mp ((lg_cmp_ge _ _).mp z); rw [c10] at this; exact this))
        have ev : (10 * x + (bb (m.1 1186) n q).toInt64 - 48).toInt = 10 * x.toInt + (m.1 1186 q).toInt - 48 := by
          have e1 : (10 * x).toInt = 10 * x.toInt := by
            rw [i64_mul] <;> rw [show (10 : Int64).toInt = 10 by decide] <;> omega
          have e2 : (10 * x + (bb (m.1 1186) n q).toInt64).toInt = 10 * x.toInt + (m.1 1186 q).toInt := by
            rw [i64_add] <;> rw [e1, Int32.toInt_toInt64, hbv] <;> omega
          rw [i64_sub] <;> rw [e2, show (48 : Int64).toInt = 48 by decide] <;> omega
        simp (disch := first | assumption | omega) only [L_MReader_takeNumber_48, ↓zS_s0, ↓zS_s1, ↓zS_s2, ↓zS_s3, ↓zS_s20, ↓zS_s21, ↓zS_s22, ↓zS_s23, ↓zS_s24, ↓zS_s25, ↓zS_smt, ↓zS_txA, ↓zS_txA1, ↓zS_txA2, ↓zS_msA, ↓zS_msA1, ↓zS_msA2, ↓zS_msA3, ↓zS_msA4, ↓zS_ndA, ↓zS_ndA1, ↓zS_ndA2, ↓zS_tkA, ↓zS_tkA1, ↓zS_tkA2, ↓zS_0, ↓zS_1, ↓zS_2, ↓zS_3, ↓zS_4, ↓zS_5, ↓zS_6, ↓zS_7, ↓zS_8, ↓zS_9, ↓zS_10, ↓zS_1121, ↓zS_1122, ↓zS_1123, ↓zS_1124, ↓zS_1125, ↓zS_1126, ↓zS_1175, ↓zS_1176, ↓zS_1177, ↓zS_1178, ↓zS_1179, ↓zS_1180, ↓zS_1181, ↓zS_1182, ↓zS_1183, ↓zS_1184, ↓zS_1185, ↓zS_1186, ↓zS_1277, ↓zS_1278, ↓zS_1279, ↓zS_1280, ↓zS_1281, ↓zS_1282, ↓zS_1283, ↓zS_1284, ↓zS_1285, ↓zS_1302, ↓zS_1286, ↓zS_1287, ↓zS_1288, ↓zS_1289, ↓zS_1290, ↓zS_1291, ↓zS_1292, ↓zS_1293, ↓zS_1294, ↓zS_1295, ↓zS_1296, ↓zS_1297, ↓zS_1298, ↓zS_1299, ↓zS_1300, ↓zS_1301, ↓zS_sg, ↓zS_m0, ↓zS_m1, ↓zS_m2, ↓zS_m3, ↓zS_m4, ↓zS_m5, ↓zS_m6, ↓zS_m7, ↓zS_m8, ↓zS_m9, ↓zS_m10, ↓zS_m11, ↓zS_m12, ↓zS_m13, ↓zS_m14, ↓zS_m15, ↓zS_m16, ↓zS_m17, ↓zS_m18, ↓zS_m19, ↓zS_m20, ↓zS_m21, ↓zS_m22, ↓zS_m23, ↓zS_m24, ↓zS_m25, ↓zS_m26, ↓zS_m27, ↓zS_m28, ↓zS_m29, ↓bf_0_2, ↓bf_0_4, ↓bf_0_6, ↓bf_0_7, ↓bf_0_8, ↓bf_0_9, ↓bf_3_2, ↓bf_5_0, ↓bf_5_2, ↓bf_5_3, ↓bf_5_5, ↓bf_5_6, ↓bf_1121_0, ↓bf_1121_8, ↓bf_1121_9, ↓bf_1121_10, ↓bf_1121_13, ↓bf_1122_1, ↓bf_1181_1, ↓bf_1178_1, ↓bf_1178_2, ↓bf_1178_8, ↓bf_1178_9, ↓bf_1178_11, ↓bf_1185_2, ↓bf_1185_4, ↓bf_1185_5, ↓bf_1185_6, ↓bf_1185_7, ↓bf_1185_8, ↓bf_1185_9, ↓bf_1185_14, ↓bf_1185_16, ↓bf_1185_17, ↓bf_1185_18, ↓bf_1277_0, ↓bf_1277_1, ↓bf_1278_0, ↓bf_1278_2, ↓bf_1285_3, ↓bf_1285_4, ↓bf_1285_14, ↓bf_1285_15, ↓bf_1285_16, ↓bf_1285_17, ↓bf_1285_18, ↓bf_1285_19, ↓bf_1285_20, ↓bf_1285_21, ↓bf_1285_22, ↓bf_1285_23, ↓bf_1285_24, ↓bf_1285_25, ↓bf_1285_27, ↓bf_1285_28, ↓bf_1285_29, ↓bf_1285_30, ↓bf_2, ↓bf_2_, ↓bf_1126, ↓bf_1126_, ↓bf_s0, ↓bf_s1, ↓bf_s2, ↓bf_s3, ↓bf_s4, ↓bf_s5, ↓bf_s6, ↓bf_s7, ↓bf_s10, ↓bf_tx, ↓bf_tx_, ↓bf_mt, ↓bf_mt_, ↓bf_ms, ↓bf_ms_, ↓bf_nd, ↓bf_nd_, ↓bf_tk, ↓bf_tk_, ↓bf_txA4, ↓bf_txA5, ↓bf_msA3, ↓bf_msA4, ↓bf_msA5, ↓bf_msA6, ↓bf_ndA4, ↓bf_ndA5, ↓bf_tkA4, ↓bf_tkA5, ↓bf_m5, ↓bf_m6, ↓bf_m7, ↓bf_m8, ↓bf_m9, ↓bf_m10, ↓bf_m11, ↓bf_m12, ↓bf_m13, ↓bf_m14, ↓bf_m15, ↓bf_m16, ↓bf_m17, ↓bf_m18, ↓bf_m19, ↓bf_m20, ↓bf_m21, ↓bf_m22, ↓bf_m23, ↓bf_m24, ↓bf_m25, ↓bf_m26, ↓bf_m27, ↓bf_m28, ↓bf_m29, ↓bf_m30, ↓bf_m31, ↓bf_m32, ↓bf_m33, mI_R, sI_R, sL_R, h3, ↓zob_h hby, hby, hdg, hc, nI_1, hmP, ↓zoL_e, ↓zob_e, ↓reduceIte, zoS_e, zob_e, nI_lt0, nI_lt00, nI_cl, nle_f, or_self, or_false, false_or]
        exact fin _ (by rw [ev]; omega) (by rw [ev]; omega) (Or.inl (by rw [ev]; omega))
    · have hdg : (sp_MReader_digit (bb (m.1 1186) n q) = 0) = True := by
        rw [dig_bb h.2.2.2.2.2]
        exact eq_true (fun z => hD z.2)
      simp (disch := first | assumption | omega) only [L_MReader_takeNumber_48, ↓zS_s0, ↓zS_s1, ↓zS_s2, ↓zS_s3, ↓zS_s20, ↓zS_s21, ↓zS_s22, ↓zS_s23, ↓zS_s24, ↓zS_s25, ↓zS_smt, ↓zS_txA, ↓zS_txA1, ↓zS_txA2, ↓zS_msA, ↓zS_msA1, ↓zS_msA2, ↓zS_msA3, ↓zS_msA4, ↓zS_ndA, ↓zS_ndA1, ↓zS_ndA2, ↓zS_tkA, ↓zS_tkA1, ↓zS_tkA2, ↓zS_0, ↓zS_1, ↓zS_2, ↓zS_3, ↓zS_4, ↓zS_5, ↓zS_6, ↓zS_7, ↓zS_8, ↓zS_9, ↓zS_10, ↓zS_1121, ↓zS_1122, ↓zS_1123, ↓zS_1124, ↓zS_1125, ↓zS_1126, ↓zS_1175, ↓zS_1176, ↓zS_1177, ↓zS_1178, ↓zS_1179, ↓zS_1180, ↓zS_1181, ↓zS_1182, ↓zS_1183, ↓zS_1184, ↓zS_1185, ↓zS_1186, ↓zS_1277, ↓zS_1278, ↓zS_1279, ↓zS_1280, ↓zS_1281, ↓zS_1282, ↓zS_1283, ↓zS_1284, ↓zS_1285, ↓zS_1302, ↓zS_1286, ↓zS_1287, ↓zS_1288, ↓zS_1289, ↓zS_1290, ↓zS_1291, ↓zS_1292, ↓zS_1293, ↓zS_1294, ↓zS_1295, ↓zS_1296, ↓zS_1297, ↓zS_1298, ↓zS_1299, ↓zS_1300, ↓zS_1301, ↓zS_sg, ↓zS_m0, ↓zS_m1, ↓zS_m2, ↓zS_m3, ↓zS_m4, ↓zS_m5, ↓zS_m6, ↓zS_m7, ↓zS_m8, ↓zS_m9, ↓zS_m10, ↓zS_m11, ↓zS_m12, ↓zS_m13, ↓zS_m14, ↓zS_m15, ↓zS_m16, ↓zS_m17, ↓zS_m18, ↓zS_m19, ↓zS_m20, ↓zS_m21, ↓zS_m22, ↓zS_m23, ↓zS_m24, ↓zS_m25, ↓zS_m26, ↓zS_m27, ↓zS_m28, ↓zS_m29, ↓bf_0_2, ↓bf_0_4, ↓bf_0_6, ↓bf_0_7, ↓bf_0_8, ↓bf_0_9, ↓bf_3_2, ↓bf_5_0, ↓bf_5_2, ↓bf_5_3, ↓bf_5_5, ↓bf_5_6, ↓bf_1121_0, ↓bf_1121_8, ↓bf_1121_9, ↓bf_1121_10, ↓bf_1121_13, ↓bf_1122_1, ↓bf_1181_1, ↓bf_1178_1, ↓bf_1178_2, ↓bf_1178_8, ↓bf_1178_9, ↓bf_1178_11, ↓bf_1185_2, ↓bf_1185_4, ↓bf_1185_5, ↓bf_1185_6, ↓bf_1185_7, ↓bf_1185_8, ↓bf_1185_9, ↓bf_1185_14, ↓bf_1185_16, ↓bf_1185_17, ↓bf_1185_18, ↓bf_1277_0, ↓bf_1277_1, ↓bf_1278_0, ↓bf_1278_2, ↓bf_1285_3, ↓bf_1285_4, ↓bf_1285_14, ↓bf_1285_15, ↓bf_1285_16, ↓bf_1285_17, ↓bf_1285_18, ↓bf_1285_19, ↓bf_1285_20, ↓bf_1285_21, ↓bf_1285_22, ↓bf_1285_23, ↓bf_1285_24, ↓bf_1285_25, ↓bf_1285_27, ↓bf_1285_28, ↓bf_1285_29, ↓bf_1285_30, ↓bf_2, ↓bf_2_, ↓bf_1126, ↓bf_1126_, ↓bf_s0, ↓bf_s1, ↓bf_s2, ↓bf_s3, ↓bf_s4, ↓bf_s5, ↓bf_s6, ↓bf_s7, ↓bf_s10, ↓bf_tx, ↓bf_tx_, ↓bf_mt, ↓bf_mt_, ↓bf_ms, ↓bf_ms_, ↓bf_nd, ↓bf_nd_, ↓bf_tk, ↓bf_tk_, ↓bf_txA4, ↓bf_txA5, ↓bf_msA3, ↓bf_msA4, ↓bf_msA5, ↓bf_msA6, ↓bf_ndA4, ↓bf_ndA5, ↓bf_tkA4, ↓bf_tkA5, ↓bf_m5, ↓bf_m6, ↓bf_m7, ↓bf_m8, ↓bf_m9, ↓bf_m10, ↓bf_m11, ↓bf_m12, ↓bf_m13, ↓bf_m14, ↓bf_m15, ↓bf_m16, ↓bf_m17, ↓bf_m18, ↓bf_m19, ↓bf_m20, ↓bf_m21, ↓bf_m22, ↓bf_m23, ↓bf_m24, ↓bf_m25, ↓bf_m26, ↓bf_m27, ↓bf_m28, ↓bf_m29, ↓bf_m30, ↓bf_m31, ↓bf_m32, ↓bf_m33, mI_R, sI_R, sL_R, h3, ↓zob_h hby, hby, hdg, ↓zoL_e, ↓zob_e, ↓reduceIte, zoS_e, zob_e, nI_lt0, nI_lt00, nI_cl, nle_f, or_self, or_false, false_or]
      rw [dg_no (by simpa using hD), Nat.add_zero, hid]
      exact ⟨x, rfl, hx0, hx1, hx⟩
/-- what a number leaves behind: where it stood, whether it is an int, which -/
def mN (t : Nat → Int32) (n p : Nat) (m m' : zMem) : Prop := ∃ G : Nat → Int32, m' = sI m 1277 G ∧ G 3 = nI (nst t n p + dg t n (nst t n p)) ∧ G 6 = nI p ∧ (∀ j, j ≠ 3 → j ≠ 6 → j ≠ 7 → j ≠ 8 → G j = m.1 1277 j) ∧ ((G 8 = 0 ∧ ¬ (-2147483648 ≤ nval t n p ∧ nval t n p ≤ 2147483647)) ∨ (G 8 = 1 ∧ (G 7).toInt = nval t n p))
theorem m_take (h : mS0 m n p) : zok (F_MReader_takeNumber (sh0 W H) m 1277) (mN (m.1 1186) n p m) := by
  have h3 := h.2.2.1
  have hR := h.1
  have hn := h.2.2.2.1
  have hp := h.2.2.2.2.1
  have hb := h.2.2.2.2.2
  have l1 : (-2147483648 : Int64).toInt = -2147483648 := by decide
  have l2 : (2147483647 : Int64).toInt = 2147483647 := by decide
  have h6 : mS0 (mI m 1277 6 (nI p)) n p := by
    rw [mI_sI]
    exact ⟨hR, by rw [sI_at, upd_ne (by decide)]; exact h.2.1, by rw [sI_at, upd_ne (by decide)]; exact h3, hn, hp, by rw [sI_ne (by decide)]; exact hb⟩
  have t6 : (mI m 1277 6 (nI p)).1 1186 = m.1 1186 := by rw [mI_sI, sI_ne (by decide)]
  have h63 := h6.2.2.1
  have hby := m_byteAt (W := W) (H := H) h6 (k := p) (by omega)
  rw [t6] at hby
  have b45 := bb_eq (t := m.1 1186) (n := n) (k := p) hb (c := 45) (by decide) (by decide)
  have hdv := dv_nn (t := m.1 1186) (n := n) (p := nst (m.1 1186) n p)
  unfold F_MReader_takeNumber
  simp only [sh_1277, zoS_e, zoL_e, h3, h63, hby, zob_e, b45, nI_1]
  by_cases hm : p < n ∧ m.1 1186 p = 45
  · have hst : nst (m.1 1186) n p = p + 1 := if_pos hm
    have hnv : nval (m.1 1186) n p = -dv (m.1 1186) (dg (m.1 1186) n (nst (m.1 1186) n p)) (nst (m.1 1186) n p) 0 := if_pos hm
    rw [hst] at hdv hnv
    rw [if_pos hm]
    have h8 : mS0 (mI (mI (mI m 1277 6 (nI p)) 1277 3 (nI (p + 1))) 1277 8 1) n (p + 1) := by
      rw [mI_sI, mI_sI, mI_sI]
      simp only [sI_sI, sI_at]
      exact ⟨hR, by rw [sI_at]; exact h.2.1, by rw [sI_at]; rfl, hn, by omega, by rw [sI_ne (by decide)]; exact hb⟩
    have t8 : (mI (mI (mI m 1277 6 (nI p)) 1277 3 (nI (p + 1))) 1277 8 1).1 1186 = m.1 1186 := by rw [mI_sI, sI_ne (by decide), mI_sI, sI_ne (by decide), t6]
    obtain ⟨X, e1, e2, e3, e4⟩ := m_take48 (W := W) (H := H) (v1 := 1) (n - (p + 1)) (p + 1) zfuel 0 0 _ (by omega) (zf_lt (by omega)) h8 (Int.le_refl _) (by decide) (by decide) (Or.inl (by decide))
    rw [t8] at e1 e4
    rw [e1]
    have en : (-X).toInt = -X.toInt := i64_neg (by omega)
    simp only [zob_e, i1ne0, ↓reduceIte, sh_1277, zoS_e]
    have fin : ∀ b : Int32, ((b = 0 ∧ ¬ (-2147483648 ≤ -X.toInt ∧ -X.toInt ≤ 2147483647)) ∨ (b = 1 ∧ (-2147483648 ≤ -X.toInt ∧ -X.toInt ≤ 2147483647))) → zok (some (mI (mI (mP (mI (mI (mI m 1277 6 (nI p)) 1277 3 (nI (p + 1))) 1277 8 1) (p + 1 + dg (m.1 1186) n (p + 1))) 1277 8 b) 1277 7 (-X).toInt32)) (mN (m.1 1186) n p m) := by
      intro b hbb
      refine zok_s ⟨upd (upd (upd (upd (upd (upd (m.1 1277) 6 (nI p)) 3 (nI (p + 1))) 8 1) 3 (nI (p + 1 + dg (m.1 1186) n (p + 1)))) 8 b) 7 (-X).toInt32, by unfold mP; simp only [mI_sI, sI_sI, sI_at], ?_, ?_, fun j j3 j6 j7 j8 => ?_, ?_⟩
      · rw [hst]
        simp [upd]
      · simp [upd]
      · simp [upd, j3, j6, j7, j8]
      · rcases hbb with ⟨b0, b1⟩ | ⟨b0, b1⟩
        · refine Or.inl ⟨by simp [upd, b0], ?_⟩
          rw [hnv]
          omega
        · refine Or.inr ⟨by simp [upd, b0], ?_⟩
          rw [hnv]
          show ((-X).toInt32).toInt = _
          rw [i64_32 (by rw [en]; exact b1.1) (by rw [en]; exact b1.2), en]
          omega
    by_cases c1 : lg_cmp (-X) (-2147483648) < 0
    · simp only [c1, ↓reduceIte]
      have := i64_lt.mp ((lg_cmp_lt _ _).mp c1)
      rw [en, l1] at this
      exact fin 0 (Or.inl ⟨rfl, by omega⟩)
    · simp only [c1, ↓reduceIte]
      have n1 : ¬ (-X).toInt < (-2147483648 : Int64).toInt := fun z => c1 ((lg_cmp_lt _ _).mpr (i64_lt.mpr z))
      rw [en, l1] at n1
      by_cases c2 : 0 < lg_cmp (-X) 2147483647
      · simp only [c2, ↓reduceIte]
        have := i64_lt.mp ((lg_cmp_gt _ _).mp c2)
        rw [en, l2] at this
        exact fin 0 (Or.inl ⟨rfl, by omega⟩)
      · simp only [c2, ↓reduceIte]
        have n2 : ¬ (2147483647 : Int64).toInt < (-X).toInt := fun z => c2 ((lg_cmp_gt _ _).mpr (i64_lt.mpr z))
        rw [en, l2] at n2
        exact fin 1 (Or.inr ⟨rfl, by omega⟩)
  · have hst : nst (m.1 1186) n p = p := if_neg hm
    have hnv : nval (m.1 1186) n p = dv (m.1 1186) (dg (m.1 1186) n (nst (m.1 1186) n p)) (nst (m.1 1186) n p) 0 := if_neg hm
    rw [hst] at hdv hnv
    rw [if_neg hm]
    have h8 : mS0 (mI (mI m 1277 6 (nI p)) 1277 8 1) n p := by
      rw [mI_sI, mI_sI]
      simp only [sI_sI, sI_at]
      exact ⟨hR, by rw [sI_at]; exact h.2.1, by rw [sI_at]; exact h3, hn, by omega, by rw [sI_ne (by decide)]; exact hb⟩
    have t8 : (mI (mI m 1277 6 (nI p)) 1277 8 1).1 1186 = m.1 1186 := by rw [mI_sI, sI_ne (by decide), t6]
    obtain ⟨X, e1, e2, e3, e4⟩ := m_take48 (W := W) (H := H) (v1 := 0) (n - p) p zfuel 0 0 _ (by omega) (zf_lt (by omega)) h8 (Int.le_refl _) (by decide) (by decide) (Or.inl (by decide))
    rw [t8] at e1 e4
    rw [e1]
    simp only [zob_e, i0eq0, ↓reduceIte, sh_1277, zoS_e]
    have fin : ∀ b : Int32, ((b = 0 ∧ ¬ (-2147483648 ≤ X.toInt ∧ X.toInt ≤ 2147483647)) ∨ (b = 1 ∧ (-2147483648 ≤ X.toInt ∧ X.toInt ≤ 2147483647))) → zok (some (mI (mI (mP (mI (mI m 1277 6 (nI p)) 1277 8 1) (p + dg (m.1 1186) n p)) 1277 8 b) 1277 7 X.toInt32)) (mN (m.1 1186) n p m) := by
      intro b hbb
      refine zok_s ⟨upd (upd (upd (upd (upd (m.1 1277) 6 (nI p)) 8 1) 3 (nI (p + dg (m.1 1186) n p))) 8 b) 7 X.toInt32, by unfold mP; simp only [mI_sI, sI_sI, sI_at], ?_, ?_, fun j j3 j6 j7 j8 => ?_, ?_⟩
      · rw [hst]
        simp [upd]
      · simp [upd]
      · simp [upd, j3, j6, j7, j8]
      · rcases hbb with ⟨b0, b1⟩ | ⟨b0, b1⟩
        · refine Or.inl ⟨by simp [upd, b0], ?_⟩
          rw [hnv]
          omega
        · refine Or.inr ⟨by simp [upd, b0], ?_⟩
          rw [hnv]
          show (X.toInt32).toInt = _
          rw [i64_32 b1.1 b1.2]
          omega
    by_cases c1 : lg_cmp X (-2147483648) < 0
    · simp only [c1, ↓reduceIte]
      have := i64_lt.mp ((lg_cmp_lt _ _).mp c1)
      rw [l1] at this
      exact fin 0 (Or.inl ⟨rfl, by omega⟩)
    · simp only [c1, ↓reduceIte]
      have n1 : ¬ X.toInt < (-2147483648 : Int64).toInt := fun z => c1 ((lg_cmp_lt _ _).mpr (i64_lt.mpr z))
      rw [l1] at n1
      by_cases c2 : 0 < lg_cmp X 2147483647
      · simp only [c2, ↓reduceIte]
        have := i64_lt.mp ((lg_cmp_gt _ _).mp c2)
        rw [l2] at this
        exact fin 0 (Or.inl ⟨rfl, by omega⟩)
      · simp only [c2, ↓reduceIte]
        have n2 : ¬ (2147483647 : Int64).toInt < X.toInt := fun z => c2 ((lg_cmp_gt _ _).mpr (i64_lt.mpr z))
        rw [l2] at n2
        exact fin 1 (Or.inr ⟨rfl, by omega⟩)
end ZMN
