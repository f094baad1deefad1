/-! PURE: the class reads a whole text -/
section ZRD
variable {W H : Nat} {mm : zMem} {s n : Nat}
def sThings (t : Nat → Int32) (n c : Nat) (g : Nat → Nat → Int32) (p : Nat) : Except (Nat × Nat) ((Nat → Nat → Int32) × Nat) := (sgn t n 91 p).bind fun p1 => if p1 < n ∧ t p1 = 93 then (sgn t n 93 p1).map (fun q => (g, q)) else (thLp t n c (lim c) 0 g p1).bind fun a => if a.1 then .error (if a.2.2.2 < n ∧ t a.2.2.2 = 123 then 3 else 1, a.2.2.2) else (sgn t n 93 a.2.2.2).map (fun q => (a.2.2.1, q))
theorem oc_m {α β γ : Type} {s : Except (Nat × Nat) α} {F : Option β} {T : Option zMem} {P : α → β → Prop} {P' : γ → β → Prop} {E : Nat → Nat → zMem → Prop} {u : α → γ} {KT : β → Option zMem} (h : oc s F T P E) (k : ∀ a r, P a r → P' (u a) r) : oc (s.map u) (Option.bind F (fun p => some p)) (zoX F T KT) P' E := by
  cases s with
  | error e =>
    obtain ⟨h1, m, h2, h3⟩ := h
    rw [h1, h2]
    exact ⟨rfl, m, rfl, h3⟩
  | ok a =>
    obtain ⟨r, h1, h2⟩ := h
    rw [h1]
    exact ⟨r, rfl, k a r h2⟩
set_option maxHeartbeats 2000000 in
theorem q_things {c : Nat} (hc : c < 5) {q : Nat} {m : zMem} {f g : Nat → Nat → Int32} (h : rdQ mm s n q f m) (hR : RscG f s g) (hcn : cn g c = 0) : oc (sThings (mm.1 1) n c g q) (F_XReader_readThings (sh0 W H) m 3 (nI c)) (T_XReader_readThings (sh0 W H) m 3 (nI c)) (fun a m' => ∃ f', rdQ mm s n a.2 f' m' ∧ RscG f' s a.1 ∧ ∀ d, d ≠ c → a.1 0 d = g 0 d) (rdZ mm s) := by
  have hs := rdQ_g h
  have l48 := lim_48 hc
  have c5 : (nI c < 0 ∨ 5 ≤ (nI c).toNatClampNeg) = False := eq_false (nI_in hc (by decide))
  unfold F_XReader_readThings T_XReader_readThings sThings
  simp only [sh_3, zoS_e]
  refine oc_k (q_need h 91) (fun p1 m1 _ h1 => ?_)
  have ht1 := rdQ_t h1
  have hsees := c_sees (W := W) (H := H) (rdQ_S h1) 93
  rw [ht1] at hsees
  rw [hsees]
  simp only [zob_e]
  by_cases hb : p1 < n ∧ mm.1 1 p1 = 93
  · simp only [if_pos hb, i1ne0, ↓reduceIte]
    have e1 : L_XReader_readThings_23 (sh0 W H) zfuel 3 (nI c) 0 0 m1 = some (3, nI c, 0, 0, m1) := by
      rw [zfuel_s]
      simp only [L_XReader_readThings_23, c5, i0eq0, ↓reduceIte, ite_self]
    have e2 : L_T_XReader_readThings_23 (sh0 W H) zfuel 3 (nI c) 0 0 m1 = some (1, 3, nI c, 0, 0, m1) := by
      rw [zfuel_s]
      simp only [L_T_XReader_readThings_23, c5, i0eq0, ↓reduceIte, ite_self]
    rw [e1, e2]
    simp only [zob_e, i0eq0, ↓reduceIte, sh_3, zoS_e]
    exact oc_m (q_need h1 93) (fun a r hr => ⟨f, hr, hR, fun _ _ => rfl⟩)
  · simp only [if_neg hb, i0eq0, ↓reduceIte]
    have hl := q_thLp (W := W) (H := H) (mm := mm) (n := n) hc hs (lim c) 0 g p1 zfuel m1 f (zf_lt (by omega)) (by omega) h1 hR hcn
    cases hth : thLp (mm.1 1) n c (lim c) 0 g p1 with
    | error e =>
      rw [hth] at hl
      obtain ⟨y1, q, y2, y3, y4⟩ := hl
      rw [nI_k0, y1, y2]
      simp only [zob_e]
      rw [if_neg (show ¬ q.1 = 1 by omega)]
      exact ⟨rfl, _, rfl, y4⟩
    | ok a =>
      obtain ⟨due, k2, g2, p2⟩ := a
      rw [hth] at hl
      obtain ⟨⟨z0, z1, z2, z3, m2⟩, y1, y2, y3, y4, f2, y5, y6, y7⟩ := hl
      simp only at y3 y4 y5 y6 y7
      subst y3
      rw [nI_k0, y1, y2]
      simp only [zob_e, ↓reduceIte, sh_3, zoS_e]
      rw [← nI_k0, y4]
      show oc (if due = true then _ else _) _ _ _ _
      have ht2 := rdQ_t y5
      cases due with
      | false =>
        simp only [show (b32 false = 0) = True from eq_true rfl, ↓reduceIte, Bool.false_eq_true]
        exact oc_m (q_need y5 93) (fun a r hr => ⟨f2, hr, y6, y7⟩)
      | true =>
        have hsees2 := c_sees (W := W) (H := H) (rdQ_S y5) 123
        rw [ht2] at hsees2
        have h52 := (rdQ_S y5).2.2.1
        simp only [show (b32 true = 0) = False from eq_false (by decide), ↓reduceIte, hsees2, zob_e]
        by_cases hb2 : p2 < n ∧ mm.1 1 p2 = 123
        · simp only [if_pos hb2, i1ne0, ↓reduceIte, h52]
          obtain ⟨m5, g1, g2'⟩ := c_refuse (W := W) (H := H) (mm := m2) 3 p2
          exact ⟨rfl, m5, g1, rdZ_e y5 g2'⟩
        · simp only [if_neg hb2, i0eq0, ↓reduceIte, h52]
          obtain ⟨m5, g1, g2'⟩ := c_refuse (W := W) (H := H) (mm := m2) 1 p2
          exact ⟨rfl, m5, g1, rdZ_e y5 g2'⟩
theorem e_clear_2 (hs : gS s) : ∀ (d k fuel : Nat) (m : zMem), k + d = 5 → d < fuel → RF m.2.2 → L_XScene_clear_2 (sh0 W H) fuel s (nI k) m = some (s, nI 5, sI m (s + 1) (fun j => if k ≤ j ∧ j < 5 then 0 else m.1 (s + 1) j)) := by
  have hzA : ∀ K : Nat → Nat → Option (Nat × Int32 × zMem), zoA (sh0 W H (s + 1)) K = K 100 5 := fun K => by
    rw [sh_s1 hs]
    exact zoA_e (by decide)
  intro d
  induction d with
  | zero =>
    intro k fuel m hk hf hR
    obtain ⟨fu, rfl⟩ : ∃ fu, fuel = fu + 1 := ⟨fuel - 1, by omega⟩
    obtain rfl : k = 5 := by omega
    simp (disch := first | assumption | omega) only [L_XScene_clear_2, ↓zS_s0, ↓zS_s1, ↓zS_s2, ↓zS_s3, ↓zS_s20, ↓zS_s21, ↓zS_s22, ↓zS_s23, ↓zS_s24, ↓zS_s25, ↓zS_smt, ↓zS_txA, ↓zS_txA1, ↓zS_txA2, ↓zS_msA, ↓zS_msA1, ↓zS_msA2, ↓zS_msA3, ↓zS_msA4, ↓zS_ndA, ↓zS_ndA1, ↓zS_ndA2, ↓zS_tkA, ↓zS_tkA1, ↓zS_tkA2, ↓zS_0, ↓zS_1, ↓zS_2, ↓zS_3, ↓zS_4, ↓zS_5, ↓zS_6, ↓zS_7, ↓zS_8, ↓zS_9, ↓zS_10, ↓zS_1121, ↓zS_1122, ↓zS_1123, ↓zS_1124, ↓zS_1125, ↓zS_1126, ↓zS_1175, ↓zS_1176, ↓zS_1177, ↓zS_1178, ↓zS_1179, ↓zS_1180, ↓zS_1181, ↓zS_1182, ↓zS_1183, ↓zS_1184, ↓zS_1185, ↓zS_1186, ↓zS_1277, ↓zS_1278, ↓zS_1279, ↓zS_1280, ↓zS_1281, ↓zS_1282, ↓zS_1283, ↓zS_1284, ↓zS_1285, ↓zS_1302, ↓zS_1286, ↓zS_1287, ↓zS_1288, ↓zS_1289, ↓zS_1290, ↓zS_1291, ↓zS_1292, ↓zS_1293, ↓zS_1294, ↓zS_1295, ↓zS_1296, ↓zS_1297, ↓zS_1298, ↓zS_1299, ↓zS_1300, ↓zS_1301, ↓zS_sg, ↓zS_m0, ↓zS_m1, ↓zS_m2, ↓zS_m3, ↓zS_m4, ↓zS_m5, ↓zS_m6, ↓zS_m7, ↓zS_m8, ↓zS_m9, ↓zS_m10, ↓zS_m11, ↓zS_m12, ↓zS_m13, ↓zS_m14, ↓zS_m15, ↓zS_m16, ↓zS_m17, ↓zS_m18, ↓zS_m19, ↓zS_m20, ↓zS_m21, ↓zS_m22, ↓zS_m23, ↓zS_m24, ↓zS_m25, ↓zS_m26, ↓zS_m27, ↓zS_m28, ↓zS_m29, ↓bf_0_2, ↓bf_0_4, ↓bf_0_6, ↓bf_0_7, ↓bf_0_8, ↓bf_0_9, ↓bf_3_2, ↓bf_5_0, ↓bf_5_2, ↓bf_5_3, ↓bf_5_5, ↓bf_5_6, ↓bf_1121_0, ↓bf_1121_8, ↓bf_1121_9, ↓bf_1121_10, ↓bf_1121_13, ↓bf_1122_1, ↓bf_1181_1, ↓bf_1178_1, ↓bf_1178_2, ↓bf_1178_8, ↓bf_1178_9, ↓bf_1178_11, ↓bf_1185_2, ↓bf_1185_4, ↓bf_1185_5, ↓bf_1185_6, ↓bf_1185_7, ↓bf_1185_8, ↓bf_1185_9, ↓bf_1185_14, ↓bf_1185_16, ↓bf_1185_17, ↓bf_1185_18, ↓bf_1277_0, ↓bf_1277_1, ↓bf_1278_0, ↓bf_1278_2, ↓bf_1285_3, ↓bf_1285_4, ↓bf_1285_14, ↓bf_1285_15, ↓bf_1285_16, ↓bf_1285_17, ↓bf_1285_18, ↓bf_1285_19, ↓bf_1285_20, ↓bf_1285_21, ↓bf_1285_22, ↓bf_1285_23, ↓bf_1285_24, ↓bf_1285_25, ↓bf_1285_27, ↓bf_1285_28, ↓bf_1285_29, ↓bf_1285_30, ↓bf_2, ↓bf_2_, ↓bf_1126, ↓bf_1126_, ↓bf_s0, ↓bf_s1, ↓bf_s2, ↓bf_s3, ↓bf_s4, ↓bf_s5, ↓bf_s6, ↓bf_s7, ↓bf_s10, ↓bf_tx, ↓bf_tx_, ↓bf_mt, ↓bf_mt_, ↓bf_ms, ↓bf_ms_, ↓bf_nd, ↓bf_nd_, ↓bf_tk, ↓bf_tk_, ↓bf_txA4, ↓bf_txA5, ↓bf_msA3, ↓bf_msA4, ↓bf_msA5, ↓bf_msA6, ↓bf_ndA4, ↓bf_ndA5, ↓bf_tkA4, ↓bf_tkA5, ↓bf_m5, ↓bf_m6, ↓bf_m7, ↓bf_m8, ↓bf_m9, ↓bf_m10, ↓bf_m11, ↓bf_m12, ↓bf_m13, ↓bf_m14, ↓bf_m15, ↓bf_m16, ↓bf_m17, ↓bf_m18, ↓bf_m19, ↓bf_m20, ↓bf_m21, ↓bf_m22, ↓bf_m23, ↓bf_m24, ↓bf_m25, ↓bf_m26, ↓bf_m27, ↓bf_m28, ↓bf_m29, ↓bf_m30, ↓bf_m31, ↓bf_m32, ↓bf_m33, mI_R, sI_R, sL_R, ↓hzA _, ↓zoL_e, ↓zob_e, ↓reduceIte, zoS_e, zob_e, nI_lt0, nI_lt00, nI_cl, nle_f, or_self, or_false, false_or]
    rw [if_pos (by decide)]
    refine congrArg (fun z => some (s, nI 5, z)) ?_
    rw [sI_to (h := m.1 (s + 1)) (fun k => if_neg (by omega)), sI_id]
  | succ d ih =>
    intro k fuel m hk hf hR
    obtain ⟨fu, rfl⟩ : ∃ fu, fuel = fu + 1 := ⟨fuel - 1, by omega⟩
    have c2 : (Int32.ofNat 5 ≤ nI k) = False := eq_false (show ¬ nI 5 ≤ nI k by rw [nI_leD (by decide) (by omega)]; omega)
    simp (disch := first | assumption | omega) only [L_XScene_clear_2, ↓zS_s0, ↓zS_s1, ↓zS_s2, ↓zS_s3, ↓zS_s20, ↓zS_s21, ↓zS_s22, ↓zS_s23, ↓zS_s24, ↓zS_s25, ↓zS_smt, ↓zS_txA, ↓zS_txA1, ↓zS_txA2, ↓zS_msA, ↓zS_msA1, ↓zS_msA2, ↓zS_msA3, ↓zS_msA4, ↓zS_ndA, ↓zS_ndA1, ↓zS_ndA2, ↓zS_tkA, ↓zS_tkA1, ↓zS_tkA2, ↓zS_0, ↓zS_1, ↓zS_2, ↓zS_3, ↓zS_4, ↓zS_5, ↓zS_6, ↓zS_7, ↓zS_8, ↓zS_9, ↓zS_10, ↓zS_1121, ↓zS_1122, ↓zS_1123, ↓zS_1124, ↓zS_1125, ↓zS_1126, ↓zS_1175, ↓zS_1176, ↓zS_1177, ↓zS_1178, ↓zS_1179, ↓zS_1180, ↓zS_1181, ↓zS_1182, ↓zS_1183, ↓zS_1184, ↓zS_1185, ↓zS_1186, ↓zS_1277, ↓zS_1278, ↓zS_1279, ↓zS_1280, ↓zS_1281, ↓zS_1282, ↓zS_1283, ↓zS_1284, ↓zS_1285, ↓zS_1302, ↓zS_1286, ↓zS_1287, ↓zS_1288, ↓zS_1289, ↓zS_1290, ↓zS_1291, ↓zS_1292, ↓zS_1293, ↓zS_1294, ↓zS_1295, ↓zS_1296, ↓zS_1297, ↓zS_1298, ↓zS_1299, ↓zS_1300, ↓zS_1301, ↓zS_sg, ↓zS_m0, ↓zS_m1, ↓zS_m2, ↓zS_m3, ↓zS_m4, ↓zS_m5, ↓zS_m6, ↓zS_m7, ↓zS_m8, ↓zS_m9, ↓zS_m10, ↓zS_m11, ↓zS_m12, ↓zS_m13, ↓zS_m14, ↓zS_m15, ↓zS_m16, ↓zS_m17, ↓zS_m18, ↓zS_m19, ↓zS_m20, ↓zS_m21, ↓zS_m22, ↓zS_m23, ↓zS_m24, ↓zS_m25, ↓zS_m26, ↓zS_m27, ↓zS_m28, ↓zS_m29, ↓bf_0_2, ↓bf_0_4, ↓bf_0_6, ↓bf_0_7, ↓bf_0_8, ↓bf_0_9, ↓bf_3_2, ↓bf_5_0, ↓bf_5_2, ↓bf_5_3, ↓bf_5_5, ↓bf_5_6, ↓bf_1121_0, ↓bf_1121_8, ↓bf_1121_9, ↓bf_1121_10, ↓bf_1121_13, ↓bf_1122_1, ↓bf_1181_1, ↓bf_1178_1, ↓bf_1178_2, ↓bf_1178_8, ↓bf_1178_9, ↓bf_1178_11, ↓bf_1185_2, ↓bf_1185_4, ↓bf_1185_5, ↓bf_1185_6, ↓bf_1185_7, ↓bf_1185_8, ↓bf_1185_9, ↓bf_1185_14, ↓bf_1185_16, ↓bf_1185_17, ↓bf_1185_18, ↓bf_1277_0, ↓bf_1277_1, ↓bf_1278_0, ↓bf_1278_2, ↓bf_1285_3, ↓bf_1285_4, ↓bf_1285_14, ↓bf_1285_15, ↓bf_1285_16, ↓bf_1285_17, ↓bf_1285_18, ↓bf_1285_19, ↓bf_1285_20, ↓bf_1285_21, ↓bf_1285_22, ↓bf_1285_23, ↓bf_1285_24, ↓bf_1285_25, ↓bf_1285_27, ↓bf_1285_28, ↓bf_1285_29, ↓bf_1285_30, ↓bf_2, ↓bf_2_, ↓bf_1126, ↓bf_1126_, ↓bf_s0, ↓bf_s1, ↓bf_s2, ↓bf_s3, ↓bf_s4, ↓bf_s5, ↓bf_s6, ↓bf_s7, ↓bf_s10, ↓bf_tx, ↓bf_tx_, ↓bf_mt, ↓bf_mt_, ↓bf_ms, ↓bf_ms_, ↓bf_nd, ↓bf_nd_, ↓bf_tk, ↓bf_tk_, ↓bf_txA4, ↓bf_txA5, ↓bf_msA3, ↓bf_msA4, ↓bf_msA5, ↓bf_msA6, ↓bf_ndA4, ↓bf_ndA5, ↓bf_tkA4, ↓bf_tkA5, ↓bf_m5, ↓bf_m6, ↓bf_m7, ↓bf_m8, ↓bf_m9, ↓bf_m10, ↓bf_m11, ↓bf_m12, ↓bf_m13, ↓bf_m14, ↓bf_m15, ↓bf_m16, ↓bf_m17, ↓bf_m18, ↓bf_m19, ↓bf_m20, ↓bf_m21, ↓bf_m22, ↓bf_m23, ↓bf_m24, ↓bf_m25, ↓bf_m26, ↓bf_m27, ↓bf_m28, ↓bf_m29, ↓bf_m30, ↓bf_m31, ↓bf_m32, ↓bf_m33, mI_R, sI_R, sL_R, ↓hzA _, c2, nI_1, ↓zoL_e, ↓zob_e, ↓reduceIte, zoS_e, zob_e, nI_lt0, nI_lt00, nI_cl, nle_f, or_self, or_false, false_or]
    rw [mI_sI, ih (k + 1) fu _ (by omega) (by omega) (show RF (sI m _ _).2.2 from hR)]
    refine congrArg (fun z => some (s, nI 5, z)) ?_
    rw [sI_sI]
    refine sI_to (fun j => ?_)
    simp only [sI_at]
    by_cases hj : j = k
    · subst hj
      rw [if_neg (by omega), if_pos (show j ≤ j ∧ j < 5 by omega), upd_at]
    · by_cases hj2 : k ≤ j ∧ j < 5
      · rw [if_pos (show k + 1 ≤ j ∧ j < 5 by omega), if_pos hj2]
      · rw [if_neg (by omega), if_neg hj2, upd_ne hj]
theorem e_clear_26 (hs : gS s) : ∀ (d k fuel : Nat) (m : zMem), k + d = 6 → d < fuel → RF m.2.2 → L_XScene_clear_26 (sh0 W H) fuel s (nI k) m = some (s, nI 6, sI m (s + 23) (fun j => if k ≤ j ∧ j < 6 then 0 else m.1 (s + 23) j)) := by
  intro d
  induction d with
  | zero =>
    intro k fuel m hk hf hR
    obtain ⟨fu, rfl⟩ : ∃ fu, fuel = fu + 1 := ⟨fuel - 1, by omega⟩
    obtain rfl : k = 6 := by omega
    simp only [L_XScene_clear_26]
    rw [if_pos (by decide)]
    refine congrArg (fun z => some (s, nI 6, z)) ?_
    rw [sI_to (h := m.1 (s + 23)) (fun k => if_neg (by omega)), sI_id]
  | succ d ih =>
    intro k fuel m hk hf hR
    obtain ⟨fu, rfl⟩ : ∃ fu, fuel = fu + 1 := ⟨fuel - 1, by omega⟩
    have c2 : ((6 : Int32) ≤ nI k) = False := eq_false (show ¬ nI 6 ≤ nI k by rw [nI_leD (by decide) (by omega)]; omega)
    simp (disch := first | assumption | omega) only [L_XScene_clear_26, ↓zS_s0, ↓zS_s1, ↓zS_s2, ↓zS_s3, ↓zS_s20, ↓zS_s21, ↓zS_s22, ↓zS_s23, ↓zS_s24, ↓zS_s25, ↓zS_smt, ↓zS_txA, ↓zS_txA1, ↓zS_txA2, ↓zS_msA, ↓zS_msA1, ↓zS_msA2, ↓zS_msA3, ↓zS_msA4, ↓zS_ndA, ↓zS_ndA1, ↓zS_ndA2, ↓zS_tkA, ↓zS_tkA1, ↓zS_tkA2, ↓zS_0, ↓zS_1, ↓zS_2, ↓zS_3, ↓zS_4, ↓zS_5, ↓zS_6, ↓zS_7, ↓zS_8, ↓zS_9, ↓zS_10, ↓zS_1121, ↓zS_1122, ↓zS_1123, ↓zS_1124, ↓zS_1125, ↓zS_1126, ↓zS_1175, ↓zS_1176, ↓zS_1177, ↓zS_1178, ↓zS_1179, ↓zS_1180, ↓zS_1181, ↓zS_1182, ↓zS_1183, ↓zS_1184, ↓zS_1185, ↓zS_1186, ↓zS_1277, ↓zS_1278, ↓zS_1279, ↓zS_1280, ↓zS_1281, ↓zS_1282, ↓zS_1283, ↓zS_1284, ↓zS_1285, ↓zS_1302, ↓zS_1286, ↓zS_1287, ↓zS_1288, ↓zS_1289, ↓zS_1290, ↓zS_1291, ↓zS_1292, ↓zS_1293, ↓zS_1294, ↓zS_1295, ↓zS_1296, ↓zS_1297, ↓zS_1298, ↓zS_1299, ↓zS_1300, ↓zS_1301, ↓zS_sg, ↓zS_m0, ↓zS_m1, ↓zS_m2, ↓zS_m3, ↓zS_m4, ↓zS_m5, ↓zS_m6, ↓zS_m7, ↓zS_m8, ↓zS_m9, ↓zS_m10, ↓zS_m11, ↓zS_m12, ↓zS_m13, ↓zS_m14, ↓zS_m15, ↓zS_m16, ↓zS_m17, ↓zS_m18, ↓zS_m19, ↓zS_m20, ↓zS_m21, ↓zS_m22, ↓zS_m23, ↓zS_m24, ↓zS_m25, ↓zS_m26, ↓zS_m27, ↓zS_m28, ↓zS_m29, ↓bf_0_2, ↓bf_0_4, ↓bf_0_6, ↓bf_0_7, ↓bf_0_8, ↓bf_0_9, ↓bf_3_2, ↓bf_5_0, ↓bf_5_2, ↓bf_5_3, ↓bf_5_5, ↓bf_5_6, ↓bf_1121_0, ↓bf_1121_8, ↓bf_1121_9, ↓bf_1121_10, ↓bf_1121_13, ↓bf_1122_1, ↓bf_1181_1, ↓bf_1178_1, ↓bf_1178_2, ↓bf_1178_8, ↓bf_1178_9, ↓bf_1178_11, ↓bf_1185_2, ↓bf_1185_4, ↓bf_1185_5, ↓bf_1185_6, ↓bf_1185_7, ↓bf_1185_8, ↓bf_1185_9, ↓bf_1185_14, ↓bf_1185_16, ↓bf_1185_17, ↓bf_1185_18, ↓bf_1277_0, ↓bf_1277_1, ↓bf_1278_0, ↓bf_1278_2, ↓bf_1285_3, ↓bf_1285_4, ↓bf_1285_14, ↓bf_1285_15, ↓bf_1285_16, ↓bf_1285_17, ↓bf_1285_18, ↓bf_1285_19, ↓bf_1285_20, ↓bf_1285_21, ↓bf_1285_22, ↓bf_1285_23, ↓bf_1285_24, ↓bf_1285_25, ↓bf_1285_27, ↓bf_1285_28, ↓bf_1285_29, ↓bf_1285_30, ↓bf_2, ↓bf_2_, ↓bf_1126, ↓bf_1126_, ↓bf_s0, ↓bf_s1, ↓bf_s2, ↓bf_s3, ↓bf_s4, ↓bf_s5, ↓bf_s6, ↓bf_s7, ↓bf_s10, ↓bf_tx, ↓bf_tx_, ↓bf_mt, ↓bf_mt_, ↓bf_ms, ↓bf_ms_, ↓bf_nd, ↓bf_nd_, ↓bf_tk, ↓bf_tk_, ↓bf_txA4, ↓bf_txA5, ↓bf_msA3, ↓bf_msA4, ↓bf_msA5, ↓bf_msA6, ↓bf_ndA4, ↓bf_ndA5, ↓bf_tkA4, ↓bf_tkA5, ↓bf_m5, ↓bf_m6, ↓bf_m7, ↓bf_m8, ↓bf_m9, ↓bf_m10, ↓bf_m11, ↓bf_m12, ↓bf_m13, ↓bf_m14, ↓bf_m15, ↓bf_m16, ↓bf_m17, ↓bf_m18, ↓bf_m19, ↓bf_m20, ↓bf_m21, ↓bf_m22, ↓bf_m23, ↓bf_m24, ↓bf_m25, ↓bf_m26, ↓bf_m27, ↓bf_m28, ↓bf_m29, ↓bf_m30, ↓bf_m31, ↓bf_m32, ↓bf_m33, mI_R, sI_R, sL_R, c2, nI_1, ↓zoL_e, ↓zob_e, ↓reduceIte, zoS_e, zob_e, nI_lt0, nI_lt00, nI_cl, nle_f, or_self, or_false, false_or]
    rw [mI_sI, ih (k + 1) fu _ (by omega) (by omega) (show RF (sI m _ _).2.2 from hR)]
    refine congrArg (fun z => some (s, nI 6, z)) ?_
    rw [sI_sI]
    refine sI_to (fun j => ?_)
    simp only [sI_at]
    by_cases hj : j = k
    · subst hj
      rw [if_neg (by omega), if_pos (show j ≤ j ∧ j < 6 by omega), upd_at]
    · by_cases hj2 : k ≤ j ∧ j < 6
      · rw [if_pos (show k + 1 ≤ j ∧ j < 6 by omega), if_pos hj2]
      · rw [if_neg (by omega), if_neg hj2, upd_ne hj]
theorem e_clear {m : zMem} (hs : gS s) (hR : RF m.2.2) : zok (F_XScene_clear (sh0 W H) m s) (fun m' => m'.2 = m.2 ∧ (∀ a, a ≠ s → a ≠ s + 1 → a ≠ s + 23 → a ≠ s + 24 → m'.1 a = m.1 a) ∧ (∀ c, c < 5 → m'.1 (s + 1) c = 0) ∧ (∀ c, c < 6 → m'.1 (s + 23) c = 0) ∧ m'.1 (s + 23) 6 = 32 ∧ m'.1 (s + 24) 0 = 0 ∧ m'.1 (s + 24) 1 = 0 ∧ m'.1 (s + 24) 2 = -65536 ∧ m'.1 (s + 24) 3 = 16384 ∧ m'.1 s 8 = 0 ∧ m'.1 s 9 = 0 ∧ ∀ c, c ≠ 8 → c ≠ 9 → m'.1 s c = m.1 s c) := by
  unfold F_XScene_clear
  rw [show (0 : Int32) = nI 0 from rfl, e_clear_2 hs 5 0 zfuel m (by omega) (zf_lt (by decide)) hR]
  simp only [zob_e]
  rw [e_clear_26 hs 6 0 zfuel _ (by omega) (zf_lt (by decide)) (show RF (sI m _ _).2.2 from hR)]
  simp only [← nI_k0]
  simp (disch := first | assumption | omega) only [↓zS_s0, ↓zS_s1, ↓zS_s2, ↓zS_s3, ↓zS_s20, ↓zS_s21, ↓zS_s22, ↓zS_s23, ↓zS_s24, ↓zS_s25, ↓zS_smt, ↓zS_txA, ↓zS_txA1, ↓zS_txA2, ↓zS_msA, ↓zS_msA1, ↓zS_msA2, ↓zS_msA3, ↓zS_msA4, ↓zS_ndA, ↓zS_ndA1, ↓zS_ndA2, ↓zS_tkA, ↓zS_tkA1, ↓zS_tkA2, ↓zS_0, ↓zS_1, ↓zS_2, ↓zS_3, ↓zS_4, ↓zS_5, ↓zS_6, ↓zS_7, ↓zS_8, ↓zS_9, ↓zS_10, ↓zS_1121, ↓zS_1122, ↓zS_1123, ↓zS_1124, ↓zS_1125, ↓zS_1126, ↓zS_1175, ↓zS_1176, ↓zS_1177, ↓zS_1178, ↓zS_1179, ↓zS_1180, ↓zS_1181, ↓zS_1182, ↓zS_1183, ↓zS_1184, ↓zS_1185, ↓zS_1186, ↓zS_1277, ↓zS_1278, ↓zS_1279, ↓zS_1280, ↓zS_1281, ↓zS_1282, ↓zS_1283, ↓zS_1284, ↓zS_1285, ↓zS_1302, ↓zS_1286, ↓zS_1287, ↓zS_1288, ↓zS_1289, ↓zS_1290, ↓zS_1291, ↓zS_1292, ↓zS_1293, ↓zS_1294, ↓zS_1295, ↓zS_1296, ↓zS_1297, ↓zS_1298, ↓zS_1299, ↓zS_1300, ↓zS_1301, ↓zS_sg, ↓zS_m0, ↓zS_m1, ↓zS_m2, ↓zS_m3, ↓zS_m4, ↓zS_m5, ↓zS_m6, ↓zS_m7, ↓zS_m8, ↓zS_m9, ↓zS_m10, ↓zS_m11, ↓zS_m12, ↓zS_m13, ↓zS_m14, ↓zS_m15, ↓zS_m16, ↓zS_m17, ↓zS_m18, ↓zS_m19, ↓zS_m20, ↓zS_m21, ↓zS_m22, ↓zS_m23, ↓zS_m24, ↓zS_m25, ↓zS_m26, ↓zS_m27, ↓zS_m28, ↓zS_m29, ↓bf_0_2, ↓bf_0_4, ↓bf_0_6, ↓bf_0_7, ↓bf_0_8, ↓bf_0_9, ↓bf_3_2, ↓bf_5_0, ↓bf_5_2, ↓bf_5_3, ↓bf_5_5, ↓bf_5_6, ↓bf_1121_0, ↓bf_1121_8, ↓bf_1121_9, ↓bf_1121_10, ↓bf_1121_13, ↓bf_1122_1, ↓bf_1181_1, ↓bf_1178_1, ↓bf_1178_2, ↓bf_1178_8, ↓bf_1178_9, ↓bf_1178_11, ↓bf_1185_2, ↓bf_1185_4, ↓bf_1185_5, ↓bf_1185_6, ↓bf_1185_7, ↓bf_1185_8, ↓bf_1185_9, ↓bf_1185_14, ↓bf_1185_16, ↓bf_1185_17, ↓bf_1185_18, ↓bf_1277_0, ↓bf_1277_1, ↓bf_1278_0, ↓bf_1278_2, ↓bf_1285_3, ↓bf_1285_4, ↓bf_1285_14, ↓bf_1285_15, ↓bf_1285_16, ↓bf_1285_17, ↓bf_1285_18, ↓bf_1285_19, ↓bf_1285_20, ↓bf_1285_21, ↓bf_1285_22, ↓bf_1285_23, ↓bf_1285_24, ↓bf_1285_25, ↓bf_1285_27, ↓bf_1285_28, ↓bf_1285_29, ↓bf_1285_30, ↓bf_2, ↓bf_2_, ↓bf_1126, ↓bf_1126_, ↓bf_s0, ↓bf_s1, ↓bf_s2, ↓bf_s3, ↓bf_s4, ↓bf_s5, ↓bf_s6, ↓bf_s7, ↓bf_s10, ↓bf_tx, ↓bf_tx_, ↓bf_mt, ↓bf_mt_, ↓bf_ms, ↓bf_ms_, ↓bf_nd, ↓bf_nd_, ↓bf_tk, ↓bf_tk_, ↓bf_txA4, ↓bf_txA5, ↓bf_msA3, ↓bf_msA4, ↓bf_msA5, ↓bf_msA6, ↓bf_ndA4, ↓bf_ndA5, ↓bf_tkA4, ↓bf_tkA5, ↓bf_m5, ↓bf_m6, ↓bf_m7, ↓bf_m8, ↓bf_m9, ↓bf_m10, ↓bf_m11, ↓bf_m12, ↓bf_m13, ↓bf_m14, ↓bf_m15, ↓bf_m16, ↓bf_m17, ↓bf_m18, ↓bf_m19, ↓bf_m20, ↓bf_m21, ↓bf_m22, ↓bf_m23, ↓bf_m24, ↓bf_m25, ↓bf_m26, ↓bf_m27, ↓bf_m28, ↓bf_m29, ↓bf_m30, ↓bf_m31, ↓bf_m32, ↓bf_m33, mI_R, sI_R, sL_R, kl_0, kl_1, kl_2, kl_3, kl_4, kl_5, kl_6, kl_7, kl_8, kl_9, kl_10, kl_11, kl_12, kc_0, kc_1, kc_2, kc_3, kc_4, kc_5, kc_6, kc_7, kc_8, kc_9, kc_10, kc_11, kc_12, Nat.reduceAdd, Nat.reduceLeDiff, Nat.reduceLT, not_false_eq_true, and_self, and_true, true_and, mI_sI, ↓zoL_e, ↓zob_e, ↓reduceIte, zoS_e, zob_e, nI_lt0, nI_lt00, nI_cl, nle_f, or_self, or_false, false_or]
  have n1 : s ≠ s + 1 := by omega
  have n23 : s ≠ s + 23 := by omega
  have n24 : s ≠ s + 24 := by omega
  have m1 : s + 1 ≠ s := by omega
  have m23 : s + 23 ≠ s := by omega
  have m24 : s + 24 ≠ s := by omega
  refine zok_s ⟨rfl, fun a a1 a2 a3 a4 => ?_, fun c hc => ?_, fun c hc => ?_, ?_, ?_, ?_, ?_, ?_, ?_, ?_, fun c h8 h9 => ?_⟩
  · simp [sI, a1, a2, a3, a4]
  · simp [sI, hc]
  · simp [sI, upd, hc]
    omega
  · simp [sI, upd]
  · simp [sI, upd]
  · simp [sI, upd]
  · simp [sI, upd]
  · simp [sI, upd]
  · simp [sI, upd]
  · simp [sI, upd]
  · simp [sI, upd, h8, h9]
end ZRD
