/-! PURE: the reference reads the parts of a text, and the whole of it -/
theorem sCamera_0 {t : Nat → Int32} {n p : Nat} {g : Nat → Nat → Int32} {a : (Nat → Nat → Int32) × Nat} (h : sCamera t n g p = .ok a) (hg : gC g) : gC a.1 := by
  unfold sCamera at h
  obtain ⟨b0, _, h⟩ := bind_ok h
  obtain ⟨b1, _, h⟩ := bind_ok h
  obtain ⟨b2, _, h⟩ := bind_ok h
  obtain ⟨b3, _, h⟩ := bind_ok h
  obtain ⟨b4, _, h⟩ := bind_ok h
  obtain ⟨b5, _, h⟩ := bind_ok h
  obtain ⟨b6, _, h⟩ := bind_ok h
  cases h
  intro j hj
  obtain ⟨v, h1, h2⟩ := hg j hj
  refine ⟨v, h1, ?_⟩
  show upd (g 0) 34 _ j = _
  rw [upd_ne (by omega), h2]
theorem sLight_0 {t : Nat → Int32} {n p : Nat} {g : Nat → Nat → Int32} {a : (Nat → Nat → Int32) × Nat} (h : sLight t n g p = .ok a) (hg : gC g) : gC a.1 := by
  unfold sLight at h
  obtain ⟨b0, _, h⟩ := bind_ok h
  obtain ⟨b1, _, h⟩ := bind_ok h
  obtain ⟨b2, _, h⟩ := bind_ok h
  obtain ⟨b3, _, h⟩ := bind_ok h
  obtain ⟨b4, _, h⟩ := bind_ok h
  cases h
  intro j hj
  obtain ⟨v, h1, h2⟩ := hg j hj
  refine ⟨v, h1, ?_⟩
  show upd (g 0) 35 _ j = _
  rw [upd_ne (by omega), h2]
def fnd (t : Nat → Int32) (n p : Nat) : Nat → Nat → Nat
  | 0, part => part
  | rem + 1, part => if wrd t n (3 + part) p then part else fnd t n p rem (part + 1)
theorem fnd_r {t : Nat → Int32} {n p : Nat} : ∀ rem part : Nat, part ≤ fnd t n p rem part ∧ fnd t n p rem part ≤ part + rem := by
  intro rem
  induction rem with
  | zero => intro part; exact ⟨Nat.le_refl _, Nat.le_refl _⟩
  | succ rem ih =>
    intro part
    unfold fnd
    have := ih (part + 1)
    split <;> omega
theorem pLp_f {t : Nat → Int32} {n p : Nat} {g : Nat → Nat → Int32} : ∀ rem part : Nat, part + rem = 7 → pLp t n rem part g p = if fnd t n p rem part = 7 then .ok (true, g, p) else ((nam t n (3 + fnd t n p rem part) p).bind fun p1 => sPart t n (fnd t n p rem part) g p1).bind fun a => if fnd t n p rem part < 6 ∧ (a.2 < n ∧ t a.2 = 44) then pLp t n (6 - fnd t n p rem part) (fnd t n p rem part + 1) a.1 (wp t n (a.2 + 1)) else .ok (false, a.1, a.2) := by
  intro rem
  induction rem with
  | zero =>
    intro part h
    obtain rfl : part = 7 := by omega
    rfl
  | succ rem ih =>
    intro part h
    rw [pLp, fnd]
    by_cases hw : wrd t n (3 + part) p = true
    · rw [if_pos hw, if_pos hw, if_neg (by omega), show 6 - part = rem by omega]
      cases nam t n (3 + part) p <;> rfl
    · rw [if_neg hw, if_neg hw]
      exact ih (part + 1) (by omega)
theorem zt_pt {part : Nat} (h : part < 7) : ztxb (35 + part) = ztxb (3 + part) := by
  rcases (show part = 0 ∨ part = 1 ∨ part = 2 ∨ part = 3 ∨ part = 4 ∨ part = 5 ∨ part = 6 by omega) with rfl | rfl | rfl | rfl | rfl | rfl | rfl <;> decide
theorem oR_u {α : Type} {s : Except (Nat × Nat) α} {F : Option zMem} {P P' : α → zMem → Prop} {E : Nat → Nat → zMem → Prop} {u : zMem → zMem} (h : oR s F P E) (k : ∀ a m, s = .ok a → P a m → P' a (u m)) (ke : ∀ a b m, E a b m → E a b (u m)) : oR s (Option.bind F (fun m => some (u m))) P' E := by
  cases s with
  | error e => exact zok_b h (fun m hm => zok_s (ke _ _ m hm))
  | ok a => exact zok_b h (fun m hm => zok_s (k a m rfl hm))
theorem bb_m1 {t : Nat → Int32} {n k : Nat} : (bb t n k = -1) = ¬ k < n := by
  apply propext
  unfold bb
  by_cases h : k < n
  · rw [if_pos h]
    refine ⟨fun e => ?_, fun e => absurd h e⟩
    have e2 := congrArg Int32.toInt e
    rw [i32_and255, show (-1 : Int32).toInt = -1 by decide] at e2
    omega
  · rw [if_neg h]
    exact ⟨fun _ => h, fun _ => rfl⟩
section ZMW
variable {W H : Nat} {mm : zMem} {n : Nat}
theorem m_pn {m : zMem} {part : Nat} (h : part < 7) : F_MReader_partName (sh0 W H) m (nI part) = some (35 + part, m) := by
  rcases (show part = 0 ∨ part = 1 ∨ part = 2 ∨ part = 3 ∨ part = 4 ∨ part = 5 ∨ part = 6 by omega) with rfl | rfl | rfl | rfl | rfl | rfl | rfl <;> rfl
theorem m_isWord' {p i i' : Nat} {g : Nat → Nat → Int32} {m : zMem} (h : mS mm n p g m) (hi : i' < 67) (hz : ztxb i' = ztxb i) : F_MReader_isWord (sh0 W H) m 1277 i' = some (if wrd (mm.1 1186) n i p then 1 else 0, mP m p) := by
  have ht := mS_t h
  obtain ⟨q, hq, e⟩ := h.1
  have := m_isWord (W := W) (H := H) hq (p := p) (by rw [ht]; exact e) hi
  rw [this, ht, wrd_c hz]
theorem m_skip {p : Nat} {g : Nat → Nat → Int32} : ∀ (rem part fuel : Nat) (m : zMem), part + rem = 7 → rem < fuel → mS mm n p g m → L_MReader_part_5 (sh0 W H) fuel 1277 (nI part) m = some (1277, nI (fnd (mm.1 1186) n p rem part), if rem = 0 then m else mP m p) := by
  intro rem
  induction rem with
  | zero =>
    intro part fuel m hp hf h
    obtain ⟨fu, rfl⟩ : ∃ fu, fuel = fu + 1 := ⟨fuel - 1, by omega⟩
    obtain rfl : part = 7 := by omega
    rfl
  | succ rem ih =>
    intro part fuel m hp hf h
    obtain ⟨fu, rfl⟩ : ∃ fu, fuel = fu + 1 := ⟨fuel - 1, by omega⟩
    have h7 : ((7 : Int32) ≤ nI part) = False := eq_false (by rw [show (7 : Int32) = nI 7 from rfl, nI_leD (by decide) (by omega)]; omega)
    simp only [L_MReader_part_5, h7, ↓reduceIte, m_pn (show part < 7 by omega), zob_e, sh_1277, zoS_e, m_isWord' h (show 35 + part < 67 by omega) (zt_pt (show part < 7 by omega)), nI_1]
    rw [fnd, if_neg (show ¬ rem + 1 = 0 by omega)]
    by_cases hw : wrd (mm.1 1186) n (3 + part) p = true
    · rw [if_pos hw, if_pos hw]
      rw [if_neg (by decide)]
    · rw [if_neg hw, if_neg hw, if_pos rfl]
      rw [ih (part + 1) fu (mP m p) (by omega) (by omega) (mS_Pp h), mP_P]
      simp only [ite_self]
theorem m_thingsE {k q : Nat} {m : zMem} (h : mE mm k q m) (x y : Int32) : F_MReader_things (sh0 W H) m 1277 x y = some m := by
  have stop : ∀ (m2 : zMem), L_MReader_things_31 (sh0 W H) zfuel 1277 x y 0 0 m2 = some (1277, x, y, 0, 0, m2) := by
    intro m2
    rw [zfuel_s]
    simp only [L_MReader_things_31, i0eq0, ↓reduceIte]
  unfold F_MReader_things
  simp only [sh_1277, zoS_e, m_signE h, zob_e, mE_w h, ↓reduceIte, stop]

set_option maxHeartbeats 2000000 in
theorem m_cameraE {a b : Nat} {m : zMem} (hE : mE mm a b m) : zok (F_MReader_camera (sh0 W H) m 1277) (mE mm a b) := by
  have hM : gM 1217 := Or.inr (Or.inl rfl)
  have hRE := mE_R hE
  have sE := fun (m : zMem) (z : mE mm a b m) (c : Int32) => m_signE (W := W) (H := H) z c
  have uE := fun (m : zMem) (z : mE mm a b m) (i : Nat) (lo hi : Int32) => m_singleE (W := W) (H := H) (i := i) (lo := lo) (hi := hi) z
  have tE := fun (m : zMem) (z : mE mm a b m) (i A : Nat) (fr kd : Int32) => m_threeE (W := W) (H := H) (i := i) (A := A) (fr := fr) (kd := kd) z
  unfold F_MReader_camera
  try simp (disch := first | assumption | omega | (repeat' first | assumption | refine mE_l ?_ (by decide) (by decide) | refine mE_p ?_ (by omega) | omega | decide)) only [↓zS_s0, ↓zS_s1, ↓zS_s2, ↓zS_s3, ↓zS_s20, ↓zS_s21, ↓zS_s22, ↓zS_s23, ↓zS_s24, ↓zS_s25, ↓zS_smt, ↓zS_txA, ↓zS_txA1, ↓zS_txA2, ↓zS_msA, ↓zS_msA1, ↓zS_msA2, ↓zS_msA3, ↓zS_msA4, ↓zS_ndA, ↓zS_ndA1, ↓zS_ndA2, ↓zS_tkA, ↓zS_tkA1, ↓zS_tkA2, ↓zS_0, ↓zS_1, ↓zS_2, ↓zS_3, ↓zS_4, ↓zS_5, ↓zS_6, ↓zS_7, ↓zS_8, ↓zS_9, ↓zS_10, ↓zS_1121, ↓zS_1122, ↓zS_1123, ↓zS_1124, ↓zS_1125, ↓zS_1126, ↓zS_1175, ↓zS_1176, ↓zS_1177, ↓zS_1178, ↓zS_1179, ↓zS_1180, ↓zS_1181, ↓zS_1182, ↓zS_1183, ↓zS_1184, ↓zS_1185, ↓zS_1186, ↓zS_1277, ↓zS_1278, ↓zS_1279, ↓zS_1280, ↓zS_1281, ↓zS_1282, ↓zS_1283, ↓zS_1284, ↓zS_1285, ↓zS_1302, ↓zS_1286, ↓zS_1287, ↓zS_1288, ↓zS_1289, ↓zS_1290, ↓zS_1291, ↓zS_1292, ↓zS_1293, ↓zS_1294, ↓zS_1295, ↓zS_1296, ↓zS_1297, ↓zS_1298, ↓zS_1299, ↓zS_1300, ↓zS_1301, ↓zS_sg, ↓zS_m0, ↓zS_m1, ↓zS_m2, ↓zS_m3, ↓zS_m4, ↓zS_m5, ↓zS_m6, ↓zS_m7, ↓zS_m8, ↓zS_m9, ↓zS_m10, ↓zS_m11, ↓zS_m12, ↓zS_m13, ↓zS_m14, ↓zS_m15, ↓zS_m16, ↓zS_m17, ↓zS_m18, ↓zS_m19, ↓zS_m20, ↓zS_m21, ↓zS_m22, ↓zS_m23, ↓zS_m24, ↓zS_m25, ↓zS_m26, ↓zS_m27, ↓zS_m28, ↓zS_m29, ↓bf_0_2, ↓bf_0_4, ↓bf_0_6, ↓bf_0_7, ↓bf_0_8, ↓bf_0_9, ↓bf_3_2, ↓bf_5_0, ↓bf_5_2, ↓bf_5_3, ↓bf_5_5, ↓bf_5_6, ↓bf_1121_0, ↓bf_1121_8, ↓bf_1121_9, ↓bf_1121_10, ↓bf_1121_13, ↓bf_1122_1, ↓bf_1181_1, ↓bf_1178_1, ↓bf_1178_2, ↓bf_1178_8, ↓bf_1178_9, ↓bf_1178_11, ↓bf_1185_2, ↓bf_1185_4, ↓bf_1185_5, ↓bf_1185_6, ↓bf_1185_7, ↓bf_1185_8, ↓bf_1185_9, ↓bf_1185_14, ↓bf_1185_16, ↓bf_1185_17, ↓bf_1185_18, ↓bf_1277_0, ↓bf_1277_1, ↓bf_1278_0, ↓bf_1278_2, ↓bf_1285_3, ↓bf_1285_4, ↓bf_1285_14, ↓bf_1285_15, ↓bf_1285_16, ↓bf_1285_17, ↓bf_1285_18, ↓bf_1285_19, ↓bf_1285_20, ↓bf_1285_21, ↓bf_1285_22, ↓bf_1285_23, ↓bf_1285_24, ↓bf_1285_25, ↓bf_1285_27, ↓bf_1285_28, ↓bf_1285_29, ↓bf_1285_30, ↓bf_2, ↓bf_2_, ↓bf_1126, ↓bf_1126_, ↓bf_s0, ↓bf_s1, ↓bf_s2, ↓bf_s3, ↓bf_s4, ↓bf_s5, ↓bf_s6, ↓bf_s7, ↓bf_s10, ↓bf_tx, ↓bf_tx_, ↓bf_mt, ↓bf_mt_, ↓bf_ms, ↓bf_ms_, ↓bf_nd, ↓bf_nd_, ↓bf_tk, ↓bf_tk_, ↓bf_txA4, ↓bf_txA5, ↓bf_msA3, ↓bf_msA4, ↓bf_msA5, ↓bf_msA6, ↓bf_ndA4, ↓bf_ndA5, ↓bf_tkA4, ↓bf_tkA5, ↓bf_m5, ↓bf_m6, ↓bf_m7, ↓bf_m8, ↓bf_m9, ↓bf_m10, ↓bf_m11, ↓bf_m12, ↓bf_m13, ↓bf_m14, ↓bf_m15, ↓bf_m16, ↓bf_m17, ↓bf_m18, ↓bf_m19, ↓bf_m20, ↓bf_m21, ↓bf_m22, ↓bf_m23, ↓bf_m24, ↓bf_m25, ↓bf_m26, ↓bf_m27, ↓bf_m28, ↓bf_m29, ↓bf_m30, ↓bf_m31, ↓bf_m32, ↓bf_m33, mI_R, sI_R, sL_R, ↓zob_h (sE _ _ _), ↓zob_h (uE _ _ _ _ _), ↓zob_h (tE _ _ _ _ _ _), sE, uE, tE, ↓zoL_e, ↓zob_e, ↓reduceIte, zoS_e, zob_e, nI_lt0, nI_lt00, nI_cl, nle_f, or_self, or_false, false_or]
  exact zok_s (by (repeat' first | assumption | refine mE_l ?_ (by decide) (by decide) | refine mE_p ?_ (by omega) | omega | decide))
set_option maxHeartbeats 2000000 in
theorem m_lightE {a b : Nat} {m : zMem} (hE : mE mm a b m) : zok (F_MReader_light (sh0 W H) m 1277) (mE mm a b) := by
  have hM : gM 1217 := Or.inr (Or.inl rfl)
  have hRE := mE_R hE
  have sE := fun (m : zMem) (z : mE mm a b m) (c : Int32) => m_signE (W := W) (H := H) z c
  have uE := fun (m : zMem) (z : mE mm a b m) (i : Nat) (lo hi : Int32) => m_singleE (W := W) (H := H) (i := i) (lo := lo) (hi := hi) z
  have tE := fun (m : zMem) (z : mE mm a b m) (i A : Nat) (fr kd : Int32) => m_threeE (W := W) (H := H) (i := i) (A := A) (fr := fr) (kd := kd) z
  unfold F_MReader_light
  try simp (disch := first | assumption | omega | (repeat' first | assumption | refine mE_l ?_ (by decide) (by decide) | refine mE_p ?_ (by omega) | omega | decide)) only [↓zS_s0, ↓zS_s1, ↓zS_s2, ↓zS_s3, ↓zS_s20, ↓zS_s21, ↓zS_s22, ↓zS_s23, ↓zS_s24, ↓zS_s25, ↓zS_smt, ↓zS_txA, ↓zS_txA1, ↓zS_txA2, ↓zS_msA, ↓zS_msA1, ↓zS_msA2, ↓zS_msA3, ↓zS_msA4, ↓zS_ndA, ↓zS_ndA1, ↓zS_ndA2, ↓zS_tkA, ↓zS_tkA1, ↓zS_tkA2, ↓zS_0, ↓zS_1, ↓zS_2, ↓zS_3, ↓zS_4, ↓zS_5, ↓zS_6, ↓zS_7, ↓zS_8, ↓zS_9, ↓zS_10, ↓zS_1121, ↓zS_1122, ↓zS_1123, ↓zS_1124, ↓zS_1125, ↓zS_1126, ↓zS_1175, ↓zS_1176, ↓zS_1177, ↓zS_1178, ↓zS_1179, ↓zS_1180, ↓zS_1181, ↓zS_1182, ↓zS_1183, ↓zS_1184, ↓zS_1185, ↓zS_1186, ↓zS_1277, ↓zS_1278, ↓zS_1279, ↓zS_1280, ↓zS_1281, ↓zS_1282, ↓zS_1283, ↓zS_1284, ↓zS_1285, ↓zS_1302, ↓zS_1286, ↓zS_1287, ↓zS_1288, ↓zS_1289, ↓zS_1290, ↓zS_1291, ↓zS_1292, ↓zS_1293, ↓zS_1294, ↓zS_1295, ↓zS_1296, ↓zS_1297, ↓zS_1298, ↓zS_1299, ↓zS_1300, ↓zS_1301, ↓zS_sg, ↓zS_m0, ↓zS_m1, ↓zS_m2, ↓zS_m3, ↓zS_m4, ↓zS_m5, ↓zS_m6, ↓zS_m7, ↓zS_m8, ↓zS_m9, ↓zS_m10, ↓zS_m11, ↓zS_m12, ↓zS_m13, ↓zS_m14, ↓zS_m15, ↓zS_m16, ↓zS_m17, ↓zS_m18, ↓zS_m19, ↓zS_m20, ↓zS_m21, ↓zS_m22, ↓zS_m23, ↓zS_m24, ↓zS_m25, ↓zS_m26, ↓zS_m27, ↓zS_m28, ↓zS_m29, ↓bf_0_2, ↓bf_0_4, ↓bf_0_6, ↓bf_0_7, ↓bf_0_8, ↓bf_0_9, ↓bf_3_2, ↓bf_5_0, ↓bf_5_2, ↓bf_5_3, ↓bf_5_5, ↓bf_5_6, ↓bf_1121_0, ↓bf_1121_8, ↓bf_1121_9, ↓bf_1121_10, ↓bf_1121_13, ↓bf_1122_1, ↓bf_1181_1, ↓bf_1178_1, ↓bf_1178_2, ↓bf_1178_8, ↓bf_1178_9, ↓bf_1178_11, ↓bf_1185_2, ↓bf_1185_4, ↓bf_1185_5, ↓bf_1185_6, ↓bf_1185_7, ↓bf_1185_8, ↓bf_1185_9, ↓bf_1185_14, ↓bf_1185_16, ↓bf_1185_17, ↓bf_1185_18, ↓bf_1277_0, ↓bf_1277_1, ↓bf_1278_0, ↓bf_1278_2, ↓bf_1285_3, ↓bf_1285_4, ↓bf_1285_14, ↓bf_1285_15, ↓bf_1285_16, ↓bf_1285_17, ↓bf_1285_18, ↓bf_1285_19, ↓bf_1285_20, ↓bf_1285_21, ↓bf_1285_22, ↓bf_1285_23, ↓bf_1285_24, ↓bf_1285_25, ↓bf_1285_27, ↓bf_1285_28, ↓bf_1285_29, ↓bf_1285_30, ↓bf_2, ↓bf_2_, ↓bf_1126, ↓bf_1126_, ↓bf_s0, ↓bf_s1, ↓bf_s2, ↓bf_s3, ↓bf_s4, ↓bf_s5, ↓bf_s6, ↓bf_s7, ↓bf_s10, ↓bf_tx, ↓bf_tx_, ↓bf_mt, ↓bf_mt_, ↓bf_ms, ↓bf_ms_, ↓bf_nd, ↓bf_nd_, ↓bf_tk, ↓bf_tk_, ↓bf_txA4, ↓bf_txA5, ↓bf_msA3, ↓bf_msA4, ↓bf_msA5, ↓bf_msA6, ↓bf_ndA4, ↓bf_ndA5, ↓bf_tkA4, ↓bf_tkA5, ↓bf_m5, ↓bf_m6, ↓bf_m7, ↓bf_m8, ↓bf_m9, ↓bf_m10, ↓bf_m11, ↓bf_m12, ↓bf_m13, ↓bf_m14, ↓bf_m15, ↓bf_m16, ↓bf_m17, ↓bf_m18, ↓bf_m19, ↓bf_m20, ↓bf_m21, ↓bf_m22, ↓bf_m23, ↓bf_m24, ↓bf_m25, ↓bf_m26, ↓bf_m27, ↓bf_m28, ↓bf_m29, ↓bf_m30, ↓bf_m31, ↓bf_m32, ↓bf_m33, mI_R, sI_R, sL_R, ↓zob_h (sE _ _ _), ↓zob_h (uE _ _ _ _ _), ↓zob_h (tE _ _ _ _ _ _), sE, uE, tE, ↓zoL_e, ↓zob_e, ↓reduceIte, zoS_e, zob_e, nI_lt0, nI_lt00, nI_cl, nle_f, or_self, or_false, false_or]
  exact zok_s (by (repeat' first | assumption | refine mE_l ?_ (by decide) (by decide) | refine mE_p ?_ (by omega) | omega | decide))
/-- what a part leaves -/
def oPt (mm : zMem) (n r : Nat) (a : (Nat → Nat → Int32) × Nat) (m' : zMem) : Prop := mS mm n a.2 a.1 m' ∧ gC a.1 ∧ m'.1 1277 10 = nI (r + 1)
set_option maxHeartbeats 4000000 in
theorem m_part {p rem part : Nat} {g : Nat → Nat → Int32} {m : zMem} (h : mS mm n p g m) (hp : part + rem = 7) (h0 : rem ≠ 0) (h10 : m.1 1277 10 = nI part) (hg : gC g) : (fnd (mm.1 1186) n p rem part = 7 → zok (F_MReader_part (sh0 W H) m 1277) (mE mm 1 p)) ∧ (fnd (mm.1 1186) n p rem part < 7 → oR ((nam (mm.1 1186) n (3 + fnd (mm.1 1186) n p rem part) p).bind fun p1 => sPart (mm.1 1186) n (fnd (mm.1 1186) n p rem part) g p1) (F_MReader_part (sh0 W H) m 1277) (oPt mm n (fnd (mm.1 1186) n p rem part)) (mE mm)) := by
  have hsk := m_skip (W := W) (H := H) rem part zfuel m hp (zf_lt (by omega)) h
  rw [if_neg h0] at hsk
  generalize fnd (mm.1 1186) n p rem part = r at hsk
  unfold F_MReader_part
  simp only [sh_1277, zoS_e, zoL_e, h10, hsk, zob_e]
  have hP := mS_Pp h
  have uS : ∀ {a : (Nat → Nat → Int32) × Nat} {m1 : zMem} {x : Int32} {r : Nat}, x = nI (r + 1) → mS mm n a.2 a.1 m1 → gC a.1 → oPt mm n r a (mI m1 1277 10 x) := by
    intro a m1 x r e h1 h2
    refine ⟨mS_l h1 (by decide) (by decide) (by decide) (by decide), h2, ?_⟩
    rw [mI_sI, sI_at, upd_at, e]
  constructor
  · rintro rfl
    simp only [show (nI 7 = (7 : Int32)) = True from eq_true rfl, ↓reduceIte, mP_3]
    exact zok_b (m_fail (k := 1) (q := p) hP (by decide)) (fun m1 h1 => zok_s h1)
  · intro hr
    simp only [m_pn hr, zob_e]
    have hnm := m_name (W := W) (H := H) hP (i := 3 + r) (i' := 35 + r) (by omega) (zt_pt hr)
    rcases (show r = 0 ∨ r = 1 ∨ r = 2 ∨ r = 3 ∨ r = 4 ∨ r = 5 ∨ r = 6 by omega) with rfl | rfl | rfl | rfl | rfl | rfl | rfl
    · simp only [show (nI 0 = (7 : Int32)) = False from eq_false (by decide), show (nI 0 = (5 : Int32)) = False from eq_false (by decide), show (nI 0 = (6 : Int32)) = False from eq_false (by decide), show (nI 0 = (0 : Int32)) = True from eq_true rfl, show (nI 0 = (3 : Int32)) = False from eq_false (by decide), show (nI 0 = (4 : Int32)) = False from eq_false (by decide), show ((5 : Int32) ≤ nI 0) = False from eq_false (by decide), ↓reduceIte]
      refine oR_k hnm (fun p1 m1 _ h1 => ?_) (fun a b r hE => ?_)
      rotate_left
      · simp only [m_thingsE hE, zob_e]
        exact zok_s (mE_l hE (by decide) (by decide))
      show oR (sThings (mm.1 1186) n 0 g p1) _ _ _
      refine oR_u (m_things h1.1 (c := 0) (by decide) hg) (fun a m2 e2 h2 => uS (by decide) h2.1 h2.2) (fun a b m hE => mE_l hE (by decide) (by decide))
    · simp only [show (nI 1 = (7 : Int32)) = False from eq_false (by decide), show (nI 1 = (5 : Int32)) = False from eq_false (by decide), show (nI 1 = (6 : Int32)) = False from eq_false (by decide), show (nI 1 = (0 : Int32)) = False from eq_false (by decide), show (nI 1 = (3 : Int32)) = False from eq_false (by decide), show (nI 1 = (4 : Int32)) = False from eq_false (by decide), show ((5 : Int32) ≤ nI 1) = False from eq_false (by decide), ↓reduceIte]
      refine oR_k hnm (fun p1 m1 _ h1 => ?_) (fun a b r hE => ?_)
      rotate_left
      · simp only [m_thingsE hE, zob_e]
        exact zok_s (mE_l hE (by decide) (by decide))
      show oR (sThings (mm.1 1186) n 1 g p1) _ _ _
      refine oR_u (m_things h1.1 (c := 1) (by decide) hg) (fun a m2 e2 h2 => uS (by decide) h2.1 h2.2) (fun a b m hE => mE_l hE (by decide) (by decide))
    · simp only [show (nI 2 = (7 : Int32)) = False from eq_false (by decide), show (nI 2 = (5 : Int32)) = False from eq_false (by decide), show (nI 2 = (6 : Int32)) = False from eq_false (by decide), show (nI 2 = (0 : Int32)) = False from eq_false (by decide), show (nI 2 = (3 : Int32)) = False from eq_false (by decide), show (nI 2 = (4 : Int32)) = False from eq_false (by decide), show ((5 : Int32) ≤ nI 2) = False from eq_false (by decide), ↓reduceIte]
      refine oR_k hnm (fun p1 m1 _ h1 => ?_) (fun a b r hE => ?_)
      rotate_left
      · simp only [m_thingsE hE, zob_e]
        exact zok_s (mE_l hE (by decide) (by decide))
      show oR (sThings (mm.1 1186) n 2 g p1) _ _ _
      refine oR_u (m_things h1.1 (c := 2) (by decide) hg) (fun a m2 e2 h2 => uS (by decide) h2.1 h2.2) (fun a b m hE => mE_l hE (by decide) (by decide))
    · simp only [show (nI 3 = (7 : Int32)) = False from eq_false (by decide), show (nI 3 = (5 : Int32)) = False from eq_false (by decide), show (nI 3 = (6 : Int32)) = False from eq_false (by decide), show (nI 3 = (0 : Int32)) = False from eq_false (by decide), show (nI 3 = (3 : Int32)) = True from eq_true rfl, show (nI 3 = (4 : Int32)) = False from eq_false (by decide), show ((5 : Int32) ≤ nI 3) = False from eq_false (by decide), ↓reduceIte]
      refine oR_k hnm (fun p1 m1 _ h1 => ?_) (fun a b r hE => ?_)
      rotate_left
      · simp only [m_thingsE hE, zob_e]
        exact zok_s (mE_l hE (by decide) (by decide))
      show oR (sThings (mm.1 1186) n 3 g p1) _ _ _
      refine oR_u (m_things h1.1 (c := 3) (by decide) hg) (fun a m2 e2 h2 => uS (by decide) h2.1 h2.2) (fun a b m hE => mE_l hE (by decide) (by decide))
    · simp only [show (nI 4 = (7 : Int32)) = False from eq_false (by decide), show (nI 4 = (5 : Int32)) = False from eq_false (by decide), show (nI 4 = (6 : Int32)) = False from eq_false (by decide), show (nI 4 = (0 : Int32)) = False from eq_false (by decide), show (nI 4 = (3 : Int32)) = False from eq_false (by decide), show (nI 4 = (4 : Int32)) = True from eq_true rfl, show ((5 : Int32) ≤ nI 4) = False from eq_false (by decide), ↓reduceIte]
      refine oR_k hnm (fun p1 m1 _ h1 => ?_) (fun a b r hE => ?_)
      rotate_left
      · simp only [m_thingsE hE, zob_e]
        exact zok_s (mE_l hE (by decide) (by decide))
      show oR (sThings (mm.1 1186) n 4 g p1) _ _ _
      refine oR_u (m_things h1.1 (c := 4) (by decide) hg) (fun a m2 e2 h2 => uS (by decide) h2.1 h2.2) (fun a b m hE => mE_l hE (by decide) (by decide))
    · simp only [show (nI 5 = (7 : Int32)) = False from eq_false (by decide), show (nI 5 = (5 : Int32)) = True from eq_true rfl, show (nI 5 = (6 : Int32)) = False from eq_false (by decide), show (nI 5 = (0 : Int32)) = False from eq_false (by decide), show (nI 5 = (3 : Int32)) = False from eq_false (by decide), show (nI 5 = (4 : Int32)) = False from eq_false (by decide), show ((5 : Int32) ≤ nI 5) = True from eq_true (by decide), ↓reduceIte]
      refine oR_k hnm (fun p1 m1 _ h1 => ?_) (fun a b r hE => ?_)
      rotate_left
      · exact zok_b (m_cameraE hE) (fun m hm => zok_s (mE_l hm (by decide) (by decide)))
      show oR (sCamera (mm.1 1186) n g p1) _ _ _
      refine oR_u (m_camera h1.1) (fun a m2 e2 h2 => uS (by decide) h2 (sCamera_0 e2 hg)) (fun a b m hE => mE_l hE (by decide) (by decide))
    · simp only [show (nI 6 = (7 : Int32)) = False from eq_false (by decide), show (nI 6 = (5 : Int32)) = False from eq_false (by decide), show (nI 6 = (6 : Int32)) = True from eq_true rfl, show (nI 6 = (0 : Int32)) = False from eq_false (by decide), show (nI 6 = (3 : Int32)) = False from eq_false (by decide), show (nI 6 = (4 : Int32)) = False from eq_false (by decide), show ((5 : Int32) ≤ nI 6) = True from eq_true (by decide), ↓reduceIte]
      refine oR_k hnm (fun p1 m1 _ h1 => ?_) (fun a b r hE => ?_)
      rotate_left
      · exact zok_b (m_lightE hE) (fun m hm => zok_s (mE_l hm (by decide) (by decide)))
      show oR (sLight (mm.1 1186) n g p1) _ _ _
      refine oR_u (m_light h1.1) (fun a m2 e2 h2 => uS (by decide) h2 (sLight_0 e2 hg)) (fun a b m hE => mE_l hE (by decide) (by decide))
def oQ3 (mm : zMem) (n : Nat) (s : Except (Nat × Nat) ((Nat → Nat → Int32) × Nat)) (F : Option (Nat × Int32 × zMem)) : Prop := match s with
  | .ok a => zok F (fun q => q.1 = 1277 ∧ mS mm n a.2 a.1 q.2.2 ∧ gC a.1)
  | .error e => zok F (fun q => q.1 = 1277 ∧ mE mm e.1 e.2 q.2.2)
theorem oQ3_b {s : Except (Nat × Nat) ((Nat → Nat → Int32) × Nat)} {F : Option zMem} {K : zMem → Option (Nat × Int32 × zMem)} {Q : zMem → Prop} (h : zok F Q) (k : ∀ m, Q m → oQ3 mm n s (K m)) : oQ3 mm n s (Option.bind F K) := by
  cases s with
  | error e => exact zok_b h k
  | ok a => exact zok_b h k
def pTl (a : Bool × (Nat → Nat → Int32) × Nat) : Except (Nat × Nat) ((Nat → Nat → Int32) × Nat) := if a.1 then .error (1, a.2.2) else .ok (a.2.1, a.2.2)
set_option maxHeartbeats 4000000 in
theorem m_pLp : ∀ (N rem part : Nat) (g : Nat → Nat → Int32) (p fuel : Nat) (m : zMem), rem ≤ N → N + 1 < fuel → part + rem = 7 → rem ≠ 0 → mS mm n p g m → m.1 1277 10 = nI part → gC g → oQ3 mm n ((pLp (mm.1 1186) n rem part g p).bind pTl) (L_MReader_read_53 (sh0 W H) fuel 1277 1 m) := by
  have stopE : ∀ (fu k q : Nat) (m2 : zMem), 0 < fu → mE mm k q m2 → zok (L_MReader_read_53 (sh0 W H) fu 1277 0 m2) (fun z => z.1 = 1277 ∧ mE mm k q z.2.2) := by
    intro fu k q m2 hf he
    obtain ⟨fu, rfl⟩ : ∃ q, fu = q + 1 := ⟨fu - 1, by omega⟩
    simp only [L_MReader_read_53, i0eq0, ↓reduceIte]
    exact zok_s ⟨rfl, he⟩
  intro N
  induction N with
  | zero =>
    intro rem part g p fuel m hr hf hp h0
    omega
  | succ N ih =>
    intro rem part g p fuel m hr hf hp h0 h h10 hg
    obtain ⟨fu, rfl⟩ : ∃ fu, fuel = fu + 1 := ⟨fuel - 1, by omega⟩
    have h4 := h.2.1
    have hpt := m_part (W := W) (H := H) h hp h0 h10 hg
    have hfr := fnd_r (t := mm.1 1186) (n := n) (p := p) rem part
    rw [pLp_f rem part hp]
    simp only [L_MReader_read_53, i1ne0, sh_1277, zoS_e, h4, ↓reduceIte]
    generalize fnd (mm.1 1186) n p rem part = r at hpt hfr
    by_cases h7 : r = 7
    · rw [if_pos h7]
      refine zok_b (hpt.1 h7) (fun m1 h1 => ?_)
      simp only [mE_w h1, ↓reduceIte]
      exact stopE fu 1 p m1 (by omega) h1
    · rw [if_neg h7]
      have hq := hpt.2 (by omega)
      cases hs : ((nam (mm.1 1186) n (3 + r) p).bind fun p1 => sPart (mm.1 1186) n r g p1) with
      | error e =>
        rw [hs] at hq
        refine zok_b hq (fun m1 h1 => ?_)
        simp only [mE_w h1, ↓reduceIte]
        exact stopE fu _ _ m1 (by omega) h1
      | ok a =>
        rw [hs] at hq
        show oQ3 mm n (Except.bind (if r < 6 ∧ (a.2 < n ∧ mm.1 1186 a.2 = 44) then _ else _) _) _
        refine oQ3_b hq (fun m1 h1 => ?_)
        obtain ⟨h1, hg1, h110⟩ := h1
        have h14 := h1.2.1
        have b2 := bb_eq (t := mm.1 1186) (n := n) (k := a.2) (mS_b h1) (c := 44) (by decide) (by decide)
        have fin : ∀ m2 : zMem, mS mm n a.2 a.1 m2 → zok (L_MReader_read_53 (sh0 W H) fu 1277 0 m2) (fun q => q.1 = 1277 ∧ mS mm n a.2 a.1 q.2.2 ∧ gC a.1) := by
          intro m2 h2
          obtain ⟨fu, rfl⟩ : ∃ q, fu = q + 1 := ⟨fu - 1, by omega⟩
          simp only [L_MReader_read_53, i0eq0, ↓reduceIte]
          exact zok_s ⟨rfl, h2, hg1⟩
        simp only [h14, ↓reduceIte, h110]
        by_cases h6 : r < 6
        · have c7 : ((7 : Int32) ≤ nI (r + 1)) = False := eq_false (by rw [show (7 : Int32) = nI 7 from rfl, nI_leD (by decide) (by omega)]; omega)
          simp only [c7, ↓reduceIte, m_next' h1, zob_e, b2, mP_3, zoL_e, nI_1]
          by_cases hcm : a.2 < n ∧ mm.1 1186 a.2 = 44
          · rw [if_pos hcm, if_pos ⟨h6, hcm⟩]
            have hMP := mS_P (mS_Pp h1) (q := a.2 + 1) (by omega)
            refine ih (6 - r) (r + 1) a.1 _ fu (mI (mP m1 a.2) 1277 3 (nI (a.2 + 1))) (by omega) (by omega) (by omega) (by omega) (by rw [mI_sI]; exact hMP) ?_ hg1
            rw [mI_sI, sI_at, upd_ne (by decide)]
            show (sI m1 1277 _).1 1277 10 = _
            rw [sI_at, upd_ne (by decide), h110]
          · rw [if_neg hcm, if_neg (fun z => hcm z.2)]
            exact fin _ (mS_Pp h1)
        · have c7 : ((7 : Int32) ≤ nI (r + 1)) = True := eq_true (by rw [show (7 : Int32) = nI 7 from rfl, nI_leD (by decide) (by omega)]; omega)
          simp only [c7, ↓reduceIte]
          rw [if_neg (fun z => h6 z.1)]
          exact fin _ h1
end ZMW
