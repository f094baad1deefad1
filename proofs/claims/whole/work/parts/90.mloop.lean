/-! PURE: the reference's loop over a list, and the list -/
section ZMQ
variable {W H : Nat} {mm : zMem} {n : Nat} {g : Nat → Nat → Int32}
/-- which numbers of that kind fit -/
def fitK (W H : Nat) (kd co : Int32) (gb : Bool) (lo hi : Int) : Prop := ∀ (m : zMem) (bf : Int32), (gb = true → -1 ≤ bf.toInt) → F_MReader_fits (sh0 W H) m 1277 kd bf co = some (if (if gb then bf.toInt + 1 else lo) ≤ (m.1 1277 7).toInt ∧ (m.1 1277 7).toInt ≤ hi then 1 else 0, m)
theorem m_next' {p : Nat} {m : zMem} (h : mS mm n p g m) : F_MReader_next (sh0 W H) m 1277 = some (bb (mm.1 1186) n p, mP m p) := by
  have ht := mS_t h
  obtain ⟨q, hq, e⟩ := h.1
  have hnx := m_next (W := W) (H := H) hq
  rw [ht, e] at hnx
  exact hnx
theorem mS_b {p : Nat} {m : zMem} (h : mS mm n p g m) : btB (mm.1 1186) n := by
  have ht := mS_t h
  obtain ⟨q, hq, e⟩ := h.1
  rw [← ht]
  exact hq.2.2.2.2.2
theorem mS_9 {p q : Nat} {m : zMem} : (mP m q).1 1277 9 = m.1 1277 9 := by
  show (sI m 1277 _).1 1277 9 = _
  rw [sI_at]
  rfl
/-- the loop's end, as the text says -/
def oQ (mm : zMem) (n a0 fr most : Nat) (g : Nat → Nat → Int32) (kd ls gp co : Int32) (s : Except (Nat × Nat) (Nat × (Nat → Int32) × Nat)) (F : Option (Nat × Nat × Int32 × Int32 × Int32 × Int32 × Int32 × Int32 × Int32 × zMem)) : Prop := match s with
  | .ok a => zok F (fun q => q = (1277, 1217 + a0, nI fr, kd, ls, nI most, gp, co, 0, q.2.2.2.2.2.2.2.2.2) ∧ mS mm n a.2.2 (gV g a0 fr a.1 a.2.1) q.2.2.2.2.2.2.2.2.2 ∧ q.2.2.2.2.2.2.2.2.2.1 1277 9 = nI a.1 ∧ a.1 ≤ most)
  | .error e => zok F (fun q => q = (1277, 1217 + a0, nI fr, kd, ls, nI most, gp, co, 0, q.2.2.2.2.2.2.2.2.2) ∧ mE mm e.1 e.2 q.2.2.2.2.2.2.2.2.2)
set_option maxHeartbeats 4000000 in
theorem m_lr {a0 fr most len : Nat} {kd ls gp co : Int32} {gb : Bool} {lo hi : Int} (ha : a0 < 30) (hA : sh0 W H (1217 + a0) = some (100, len)) (hlen : fr + most ≤ len) (hl2 : len < 100000) (hfit : fitK W H kd co gb lo hi) (hlo : -1000000000 < lo) (hhi : hi < 1000000000) (hglo : gb = true → lo = 0) : ∀ (rem : Nat) (least : Int) (cnt : Nat) (vals : Nat → Int32) (p fuel : Nat) (m : zMem), rem + 1 < fuel → cnt + rem = most → mS mm n p (gV g a0 fr cnt vals) m → m.1 1277 9 = nI cnt → least = (if gb then (if cnt = 0 then 0 else (vals (cnt - 1)).toInt + 1) else lo) → (gb = true → cnt ≠ 0 → -1 ≤ (vals (cnt - 1)).toInt) →
    oQ mm n a0 fr most g kd ls gp co (lrGo (mm.1 1186) n lo hi gb rem least cnt vals p) (L_MReader_numbers_39 (sh0 W H) fuel 1277 (1217 + a0) (nI fr) kd ls (nI most) gp co 1 m) := by
  have stopE : ∀ (fu k q : Nat) (m2 : zMem), 0 < fu → mE mm k q m2 → zok (L_MReader_numbers_39 (sh0 W H) fu 1277 (1217 + a0) (nI fr) kd ls (nI most) gp co 0 m2) (fun z => z = (1277, 1217 + a0, nI fr, kd, ls, nI most, gp, co, 0, z.2.2.2.2.2.2.2.2.2) ∧ mE mm k q z.2.2.2.2.2.2.2.2.2) := by
    intro fu k q m2 hf he
    obtain ⟨fu, rfl⟩ : ∃ q, fu = q + 1 := ⟨fu - 1, by omega⟩
    simp only [L_MReader_numbers_39, i0eq0, ↓reduceIte]
    exact zok_s ⟨rfl, he⟩
  intro rem
  induction rem with
  | zero =>
    intro least cnt vals p fuel m hf hc h h9 hle hlv
    obtain ⟨fu, rfl⟩ : ∃ fu, fuel = fu + 1 := ⟨fuel - 1, by omega⟩
    obtain rfl : cnt = most := by omega
    have h4 := h.2.1
    have h13 : (mP m p).1 1277 3 = nI p := by
      show (sI m 1277 _).1 1277 3 = _
      rw [sI_at]
      rfl
    simp only [lrGo]
    simp only [L_MReader_numbers_39, i1ne0, sh_1277, zoS_e, h4, ↓reduceIte, m_numberNext h, zob_e, h13]
    by_cases hd : dg (mm.1 1186) n (nst (mm.1 1186) n p) = 0
    · simp only [hd, ↓reduceIte]
      refine zok_b (m_fail (k := 1) (q := p) (mS_Pp h) (by decide)) (fun m1 h1 => ?_)
      simp only [mE_w h1, ↓reduceIte]
      exact stopE fu 1 p m1 (by omega) h1
    · simp only [hd, i1ne0, ↓reduceIte]
      obtain ⟨m2, y1, y2, y3, y4, y5⟩ := m_took (W := W) (H := H) h
      rw [y1]
      simp only [zob_e, y4, h9, y3, ↓reduceIte]
      refine zok_b (m_fail (k := 3) (q := p) y2 (by decide)) (fun m1 h1 => ?_)
      simp only [mE_w h1, ↓reduceIte]
      exact stopE fu 3 p m1 (by omega) h1
  | succ rem ih =>
    intro least cnt vals p fuel m hf hc h h9 hle hlv
    obtain ⟨fu, rfl⟩ : ∃ fu, fuel = fu + 1 := ⟨fuel - 1, by omega⟩
    have h4 := h.2.1
    have h13 : (mP m p).1 1277 3 = nI p := by
      show (sI m 1277 _).1 1277 3 = _
      rw [sI_at]
      rfl
    have hcm : (nI cnt = nI most) = False := eq_false (by rw [nI_eqD (by omega) (by omega)]; omega)
    simp only [lrGo]
    simp only [L_MReader_numbers_39, i1ne0, sh_1277, zoS_e, h4, ↓reduceIte, m_numberNext h, zob_e, h13]
    unfold num
    by_cases hd : dg (mm.1 1186) n (nst (mm.1 1186) n p) = 0
    · simp only [hd, ↓reduceIte]
      refine zok_b (m_fail (k := 1) (q := p) (mS_Pp h) (by decide)) (fun m1 h1 => ?_)
      simp only [mE_w h1, ↓reduceIte]
      exact stopE fu 1 p m1 (by omega) h1
    · simp only [hd, i1ne0, ↓reduceIte]
      obtain ⟨m2, y1, y2, y3, y4, y5⟩ := m_took (W := W) (H := H) h
      rw [y1]
      simp only [zob_e, y4, h9, y3, hcm, ↓reduceIte]
      have bad : zok (Option.bind (F_MReader_fail (sh0 W H) m2 1277 2 (nI p)) (fun p34 => if p34.1 1277 4 = 0 then Option.bind (F_MReader_next (sh0 W H) p34 1277) (fun p40 => if p40.1 = 44 then L_MReader_numbers_39 (sh0 W H) fu 1277 (1217 + a0) (nI fr) kd ls (nI most) gp co 1 (mI p40.2 1277 3 (p40.2.1 1277 3 + 1)) else L_MReader_numbers_39 (sh0 W H) fu 1277 (1217 + a0) (nI fr) kd ls (nI most) gp co 0 p40.2) else L_MReader_numbers_39 (sh0 W H) fu 1277 (1217 + a0) (nI fr) kd ls (nI most) gp co 0 p34)) (fun z => z = (1277, 1217 + a0, nI fr, kd, ls, nI most, gp, co, 0, z.2.2.2.2.2.2.2.2.2) ∧ mE mm 2 p z.2.2.2.2.2.2.2.2.2) := by
        refine zok_b (m_fail (k := 2) (q := p) y2 (by decide)) (fun m1 h1 => ?_)
        simp only [mE_w h1, ↓reduceIte]
        exact stopE fu 2 p m1 (by omega) h1
      have hR2 := mS_R y2
      rcases y5 with ⟨y6, y7⟩ | ⟨y6, y7⟩
      · have hb : ¬ (least ≤ nval (mm.1 1186) n p ∧ nval (mm.1 1186) n p ≤ hi) := by
          intro z
          have : -1000000000 < least := by
            rw [hle]
            cases gb with
            | false => exact hlo
            | true =>
              by_cases c0 : cnt = 0
              · simp [c0]
              · have := hlv rfl c0
                simp [c0]
                omega
          omega
        rw [if_neg hb]
        simp only [y6, ↓reduceIte]
        exact bad
      · simp only [y6, i1ne0, ↓reduceIte]
        -- the number before it
        have hbf : ∀ bf : Int32, (gb = true → bf.toInt + 1 = least ∧ -1 ≤ bf.toInt) → F_MReader_fits (sh0 W H) m2 1277 kd bf co = some (if least ≤ nval (mm.1 1186) n p ∧ nval (mm.1 1186) n p ≤ hi then 1 else 0, m2) := by
          intro bf hbf
          rw [hfit m2 bf (fun e => (hbf e).2), y7]
          cases gb with
          | false =>
            have : least = lo := by rw [hle]; rfl
            rw [this]
            rfl
          | true =>
            have := (hbf rfl).1
            simp only [↓reduceIte]
            rw [this]
        have ecell : ∀ x : Int32, mS mm n (wp (mm.1 1186) n (nst (mm.1 1186) n p + dg (mm.1 1186) n (nst (mm.1 1186) n p))) (gV g a0 fr (cnt + 1) (upd vals cnt x)) (mI (mI m2 (1217 + a0) (fr + cnt) x) 1277 9 (nI (cnt + 1))) := by
          intro x
          have := mS_p (j := fr + cnt) (v := x) y2 ha
          rw [gV_step] at this
          exact mS_l this (by decide) (by decide) (by decide) (by decide)
        generalize hp1 : wp (mm.1 1186) n (nst (mm.1 1186) n p + dg (mm.1 1186) n (nst (mm.1 1186) n p)) = p1 at *
        have hx7 : m2.1 1277 7 = Int32.ofInt (nval (mm.1 1186) n p) := (ofInt_toInt y7).symm
        have go : (least ≤ nval (mm.1 1186) n p ∧ nval (mm.1 1186) n p ≤ hi) → oQ mm n a0 fr most g kd ls gp co (if p1 < n ∧ mm.1 1186 p1 = 44 then lrGo (mm.1 1186) n lo hi gb rem (if gb then nval (mm.1 1186) n p + 1 else lo) (cnt + 1) (upd vals cnt (Int32.ofInt (nval (mm.1 1186) n p))) (wp (mm.1 1186) n (p1 + 1)) else .ok (cnt + 1, upd vals cnt (Int32.ofInt (nval (mm.1 1186) n p)), p1)) (if (mI (mI m2 (1217 + a0) (fr + cnt) (m2.1 1277 7)) 1277 9 (nI (cnt + 1))).1 1277 4 = 0 then Option.bind (F_MReader_next (sh0 W H) (mI (mI m2 (1217 + a0) (fr + cnt) (m2.1 1277 7)) 1277 9 (nI (cnt + 1))) 1277) (fun p83 => if p83.1 = 44 then L_MReader_numbers_39 (sh0 W H) fu 1277 (1217 + a0) (nI fr) kd ls (nI most) gp co 1 (mI p83.2 1277 3 (p83.2.1 1277 3 + 1)) else L_MReader_numbers_39 (sh0 W H) fu 1277 (1217 + a0) (nI fr) kd ls (nI most) gp co 0 p83.2) else L_MReader_numbers_39 (sh0 W H) fu 1277 (1217 + a0) (nI fr) kd ls (nI most) gp co 0 (mI (mI m2 (1217 + a0) (fr + cnt) (m2.1 1277 7)) 1277 9 (nI (cnt + 1)))) := by
          intro hbq
          have hge : gb = true → -1 ≤ nval (mm.1 1186) n p := by
            intro e
            have h1 := hbq.1
            rw [hle, if_pos e] at h1
            by_cases c0 : cnt = 0
            · rw [if_pos c0] at h1
              omega
            · rw [if_neg c0] at h1
              have := hlv e c0
              omega
          rw [hx7]
          generalize hM : mI (mI m2 (1217 + a0) (fr + cnt) (Int32.ofInt (nval (mm.1 1186) n p))) 1277 9 (nI (cnt + 1)) = M
          have hMS := ecell (Int32.ofInt (nval (mm.1 1186) n p))
          rw [hM] at hMS
          have hM9 : M.1 1277 9 = nI (cnt + 1) := by
            rw [← hM, mI_sI, sI_at, upd_at]
          have hM4 := hMS.2.1
          have hM3 : (mP M p1).1 1277 3 = nI p1 := by
            show (sI M 1277 _).1 1277 3 = _
            rw [sI_at]
            rfl
          have b44 := bb_eq (t := mm.1 1186) (n := n) (k := p1) (mS_b hMS) (c := 44) (by decide) (by decide)
          simp only [hM4, ↓reduceIte, m_next' hMS, zob_e, b44, hM3, nI_1]
          by_cases hcm2 : p1 < n ∧ mm.1 1186 p1 = 44
          · rw [if_pos hcm2, if_pos hcm2]
            have hMP := mS_P (mS_Pp hMS) (q := p1 + 1) (by omega)
            refine ih _ (cnt + 1) _ _ fu (mI (mP M p1) 1277 3 (nI (p1 + 1))) (by omega) (by omega) (by rw [mI_sI]; exact hMP) ?_ ?_ ?_
            · rw [mI_sI, sI_at, upd_ne (by decide), mS_9 (p := p1), hM9]
            · cases gb with
              | false => rfl
              | true =>
                simp only [↓reduceIte]
                rw [if_neg (by omega), show cnt + 1 - 1 = cnt by omega, upd_at, ← hx7, y7]
            · intro e _
              rw [show cnt + 1 - 1 = cnt by omega, upd_at, ← hx7, y7]
              exact hge e
          · rw [if_neg hcm2, if_neg hcm2]
            obtain ⟨fu, rfl⟩ : ∃ q, fu = q + 1 := ⟨fu - 1, by omega⟩
            simp only [L_MReader_numbers_39, i0eq0, ↓reduceIte]
            exact zok_s ⟨rfl, mS_Pp hMS, by rw [mS_9 (p := p1), hM9], by omega⟩
        have e2A : m2.1 (1217 + a0) = gV g a0 fr cnt vals a0 := y2.2.2.2.2.1 a0 ha
        by_cases hb : least ≤ nval (mm.1 1186) n p ∧ nval (mm.1 1186) n p ≤ hi
        · rw [if_pos hb]
          have hgo := go hb
          by_cases c0 : cnt = 0
          · subst c0
            have hz : (nI 0 = 0) = True := eq_true rfl
            have hbf1 := hbf (-1) (fun e => ⟨by rw [hle, if_pos e, if_pos rfl]; decide, by decide⟩)
            rw [if_pos hb] at hbf1
            have q9 : (mI m2 (1217 + a0) (fr + 0) (m2.1 1277 7)).1 1277 9 = nI 0 := by rw [mI_sI, sI_ne (by omega), y4]; exact h9
            simp (disch := first | assumption | omega) only [↓zS_s0, ↓zS_s1, ↓zS_s2, ↓zS_s3, ↓zS_s20, ↓zS_s21, ↓zS_s22, ↓zS_s23, ↓zS_s24, ↓zS_s25, ↓zS_smt, ↓zS_txA, ↓zS_txA1, ↓zS_txA2, ↓zS_msA, ↓zS_msA1, ↓zS_msA2, ↓zS_msA3, ↓zS_msA4, ↓zS_ndA, ↓zS_ndA1, ↓zS_ndA2, ↓zS_tkA, ↓zS_tkA1, ↓zS_tkA2, ↓zS_0, ↓zS_1, ↓zS_2, ↓zS_3, ↓zS_4, ↓zS_5, ↓zS_6, ↓zS_7, ↓zS_8, ↓zS_9, ↓zS_10, ↓zS_1121, ↓zS_1122, ↓zS_1123, ↓zS_1124, ↓zS_1125, ↓zS_1126, ↓zS_1175, ↓zS_1176, ↓zS_1177, ↓zS_1178, ↓zS_1179, ↓zS_1180, ↓zS_1181, ↓zS_1182, ↓zS_1183, ↓zS_1184, ↓zS_1185, ↓zS_1186, ↓zS_1277, ↓zS_1278, ↓zS_1279, ↓zS_1280, ↓zS_1281, ↓zS_1282, ↓zS_1283, ↓zS_1284, ↓zS_1285, ↓zS_1302, ↓zS_1286, ↓zS_1287, ↓zS_1288, ↓zS_1289, ↓zS_1290, ↓zS_1291, ↓zS_1292, ↓zS_1293, ↓zS_1294, ↓zS_1295, ↓zS_1296, ↓zS_1297, ↓zS_1298, ↓zS_1299, ↓zS_1300, ↓zS_1301, ↓zS_sg, ↓zS_m0, ↓zS_m1, ↓zS_m2, ↓zS_m3, ↓zS_m4, ↓zS_m5, ↓zS_m6, ↓zS_m7, ↓zS_m8, ↓zS_m9, ↓zS_m10, ↓zS_m11, ↓zS_m12, ↓zS_m13, ↓zS_m14, ↓zS_m15, ↓zS_m16, ↓zS_m17, ↓zS_m18, ↓zS_m19, ↓zS_m20, ↓zS_m21, ↓zS_m22, ↓zS_m23, ↓zS_m24, ↓zS_m25, ↓zS_m26, ↓zS_m27, ↓zS_m28, ↓zS_m29, ↓bf_0_2, ↓bf_0_4, ↓bf_0_6, ↓bf_0_7, ↓bf_0_8, ↓bf_0_9, ↓bf_3_2, ↓bf_5_0, ↓bf_5_2, ↓bf_5_3, ↓bf_5_5, ↓bf_5_6, ↓bf_1121_0, ↓bf_1121_8, ↓bf_1121_9, ↓bf_1121_10, ↓bf_1121_13, ↓bf_1122_1, ↓bf_1181_1, ↓bf_1178_1, ↓bf_1178_2, ↓bf_1178_8, ↓bf_1178_9, ↓bf_1178_11, ↓bf_1185_2, ↓bf_1185_4, ↓bf_1185_5, ↓bf_1185_6, ↓bf_1185_7, ↓bf_1185_8, ↓bf_1185_9, ↓bf_1185_14, ↓bf_1185_16, ↓bf_1185_17, ↓bf_1185_18, ↓bf_1277_0, ↓bf_1277_1, ↓bf_1278_0, ↓bf_1278_2, ↓bf_1285_3, ↓bf_1285_4, ↓bf_1285_14, ↓bf_1285_15, ↓bf_1285_16, ↓bf_1285_17, ↓bf_1285_18, ↓bf_1285_19, ↓bf_1285_20, ↓bf_1285_21, ↓bf_1285_22, ↓bf_1285_23, ↓bf_1285_24, ↓bf_1285_25, ↓bf_1285_27, ↓bf_1285_28, ↓bf_1285_29, ↓bf_1285_30, ↓bf_2, ↓bf_2_, ↓bf_1126, ↓bf_1126_, ↓bf_s0, ↓bf_s1, ↓bf_s2, ↓bf_s3, ↓bf_s4, ↓bf_s5, ↓bf_s6, ↓bf_s7, ↓bf_s10, ↓bf_tx, ↓bf_tx_, ↓bf_mt, ↓bf_mt_, ↓bf_ms, ↓bf_ms_, ↓bf_nd, ↓bf_nd_, ↓bf_tk, ↓bf_tk_, ↓bf_txA4, ↓bf_txA5, ↓bf_msA3, ↓bf_msA4, ↓bf_msA5, ↓bf_msA6, ↓bf_ndA4, ↓bf_ndA5, ↓bf_tkA4, ↓bf_tkA5, ↓bf_m5, ↓bf_m6, ↓bf_m7, ↓bf_m8, ↓bf_m9, ↓bf_m10, ↓bf_m11, ↓bf_m12, ↓bf_m13, ↓bf_m14, ↓bf_m15, ↓bf_m16, ↓bf_m17, ↓bf_m18, ↓bf_m19, ↓bf_m20, ↓bf_m21, ↓bf_m22, ↓bf_m23, ↓bf_m24, ↓bf_m25, ↓bf_m26, ↓bf_m27, ↓bf_m28, ↓bf_m29, ↓bf_m30, ↓bf_m31, ↓bf_m32, ↓bf_m33, mI_R, sI_R, sL_R, hz, ↓zob_h hbf1, hbf1, i1ne0, y4, h9, nI_add, ↓zoS_h hA, hA, q9, nI_1, ↓zoL_e, ↓zob_e, ↓reduceIte, zoS_e, zob_e, nI_lt0, nI_lt00, nI_cl, nle_f, or_self, or_false, false_or]
            exact hgo
          · have hz : (nI cnt = 0) = False := eq_false (nI_ne0 (by omega) (by omega))
            have hv : m2.1 (1217 + a0) (fr + (cnt - 1)) = vals (cnt - 1) := by
              rw [e2A]
              show fS g a0 _ a0 _ = _
              rw [fS_at]
              exact cpy_in (by omega)
            have hix : nI fr + nI cnt - 1 = nI (fr + (cnt - 1)) := by
              rw [nI_add, show fr + cnt = (fr + (cnt - 1)) + 1 by omega, nI_pred]
            have hbf1 := hbf (vals (cnt - 1)) (fun e => ⟨by rw [hle, if_pos e, if_neg c0], hlv e c0⟩)
            rw [if_pos hb] at hbf1
            have q9 : (mI m2 (1217 + a0) (fr + cnt) (m2.1 1277 7)).1 1277 9 = nI cnt := by rw [mI_sI, sI_ne (by omega), y4]; exact h9
            have hix2 : nI (fr + cnt) - 1 = nI (fr + (cnt - 1)) := by rw [← nI_add]; exact hix
            simp (disch := first | assumption | omega) only [↓zS_s0, ↓zS_s1, ↓zS_s2, ↓zS_s3, ↓zS_s20, ↓zS_s21, ↓zS_s22, ↓zS_s23, ↓zS_s24, ↓zS_s25, ↓zS_smt, ↓zS_txA, ↓zS_txA1, ↓zS_txA2, ↓zS_msA, ↓zS_msA1, ↓zS_msA2, ↓zS_msA3, ↓zS_msA4, ↓zS_ndA, ↓zS_ndA1, ↓zS_ndA2, ↓zS_tkA, ↓zS_tkA1, ↓zS_tkA2, ↓zS_0, ↓zS_1, ↓zS_2, ↓zS_3, ↓zS_4, ↓zS_5, ↓zS_6, ↓zS_7, ↓zS_8, ↓zS_9, ↓zS_10, ↓zS_1121, ↓zS_1122, ↓zS_1123, ↓zS_1124, ↓zS_1125, ↓zS_1126, ↓zS_1175, ↓zS_1176, ↓zS_1177, ↓zS_1178, ↓zS_1179, ↓zS_1180, ↓zS_1181, ↓zS_1182, ↓zS_1183, ↓zS_1184, ↓zS_1185, ↓zS_1186, ↓zS_1277, ↓zS_1278, ↓zS_1279, ↓zS_1280, ↓zS_1281, ↓zS_1282, ↓zS_1283, ↓zS_1284, ↓zS_1285, ↓zS_1302, ↓zS_1286, ↓zS_1287, ↓zS_1288, ↓zS_1289, ↓zS_1290, ↓zS_1291, ↓zS_1292, ↓zS_1293, ↓zS_1294, ↓zS_1295, ↓zS_1296, ↓zS_1297, ↓zS_1298, ↓zS_1299, ↓zS_1300, ↓zS_1301, ↓zS_sg, ↓zS_m0, ↓zS_m1, ↓zS_m2, ↓zS_m3, ↓zS_m4, ↓zS_m5, ↓zS_m6, ↓zS_m7, ↓zS_m8, ↓zS_m9, ↓zS_m10, ↓zS_m11, ↓zS_m12, ↓zS_m13, ↓zS_m14, ↓zS_m15, ↓zS_m16, ↓zS_m17, ↓zS_m18, ↓zS_m19, ↓zS_m20, ↓zS_m21, ↓zS_m22, ↓zS_m23, ↓zS_m24, ↓zS_m25, ↓zS_m26, ↓zS_m27, ↓zS_m28, ↓zS_m29, ↓bf_0_2, ↓bf_0_4, ↓bf_0_6, ↓bf_0_7, ↓bf_0_8, ↓bf_0_9, ↓bf_3_2, ↓bf_5_0, ↓bf_5_2, ↓bf_5_3, ↓bf_5_5, ↓bf_5_6, ↓bf_1121_0, ↓bf_1121_8, ↓bf_1121_9, ↓bf_1121_10, ↓bf_1121_13, ↓bf_1122_1, ↓bf_1181_1, ↓bf_1178_1, ↓bf_1178_2, ↓bf_1178_8, ↓bf_1178_9, ↓bf_1178_11, ↓bf_1185_2, ↓bf_1185_4, ↓bf_1185_5, ↓bf_1185_6, ↓bf_1185_7, ↓bf_1185_8, ↓bf_1185_9, ↓bf_1185_14, ↓bf_1185_16, ↓bf_1185_17, ↓bf_1185_18, ↓bf_1277_0, ↓bf_1277_1, ↓bf_1278_0, ↓bf_1278_2, ↓bf_1285_3, ↓bf_1285_4, ↓bf_1285_14, ↓bf_1285_15, ↓bf_1285_16, ↓bf_1285_17, ↓bf_1285_18, ↓bf_1285_19, ↓bf_1285_20, ↓bf_1285_21, ↓bf_1285_22, ↓bf_1285_23, ↓bf_1285_24, ↓bf_1285_25, ↓bf_1285_27, ↓bf_1285_28, ↓bf_1285_29, ↓bf_1285_30, ↓bf_2, ↓bf_2_, ↓bf_1126, ↓bf_1126_, ↓bf_s0, ↓bf_s1, ↓bf_s2, ↓bf_s3, ↓bf_s4, ↓bf_s5, ↓bf_s6, ↓bf_s7, ↓bf_s10, ↓bf_tx, ↓bf_tx_, ↓bf_mt, ↓bf_mt_, ↓bf_ms, ↓bf_ms_, ↓bf_nd, ↓bf_nd_, ↓bf_tk, ↓bf_tk_, ↓bf_txA4, ↓bf_txA5, ↓bf_msA3, ↓bf_msA4, ↓bf_msA5, ↓bf_msA6, ↓bf_ndA4, ↓bf_ndA5, ↓bf_tkA4, ↓bf_tkA5, ↓bf_m5, ↓bf_m6, ↓bf_m7, ↓bf_m8, ↓bf_m9, ↓bf_m10, ↓bf_m11, ↓bf_m12, ↓bf_m13, ↓bf_m14, ↓bf_m15, ↓bf_m16, ↓bf_m17, ↓bf_m18, ↓bf_m19, ↓bf_m20, ↓bf_m21, ↓bf_m22, ↓bf_m23, ↓bf_m24, ↓bf_m25, ↓bf_m26, ↓bf_m27, ↓bf_m28, ↓bf_m29, ↓bf_m30, ↓bf_m31, ↓bf_m32, ↓bf_m33, mI_R, sI_R, sL_R, hz, y4, h9, hix2, hv, ↓zob_h hbf1, hbf1, i1ne0, nI_add, ↓zoS_h hA, hA, q9, nI_1, ↓zoL_e, ↓zob_e, ↓reduceIte, zoS_e, zob_e, nI_lt0, nI_lt00, nI_cl, nle_f, or_self, or_false, false_or]
            exact hgo
        · rw [if_neg hb]
          by_cases c0 : cnt = 0
          · subst c0
            have hz : (nI 0 = 0) = True := eq_true rfl
            have hbf1 := hbf (-1) (fun e => ⟨by rw [hle, if_pos e, if_pos rfl]; decide, by decide⟩)
            rw [if_neg hb] at hbf1
            simp (disch := first | assumption | omega) only [↓zS_s0, ↓zS_s1, ↓zS_s2, ↓zS_s3, ↓zS_s20, ↓zS_s21, ↓zS_s22, ↓zS_s23, ↓zS_s24, ↓zS_s25, ↓zS_smt, ↓zS_txA, ↓zS_txA1, ↓zS_txA2, ↓zS_msA, ↓zS_msA1, ↓zS_msA2, ↓zS_msA3, ↓zS_msA4, ↓zS_ndA, ↓zS_ndA1, ↓zS_ndA2, ↓zS_tkA, ↓zS_tkA1, ↓zS_tkA2, ↓zS_0, ↓zS_1, ↓zS_2, ↓zS_3, ↓zS_4, ↓zS_5, ↓zS_6, ↓zS_7, ↓zS_8, ↓zS_9, ↓zS_10, ↓zS_1121, ↓zS_1122, ↓zS_1123, ↓zS_1124, ↓zS_1125, ↓zS_1126, ↓zS_1175, ↓zS_1176, ↓zS_1177, ↓zS_1178, ↓zS_1179, ↓zS_1180, ↓zS_1181, ↓zS_1182, ↓zS_1183, ↓zS_1184, ↓zS_1185, ↓zS_1186, ↓zS_1277, ↓zS_1278, ↓zS_1279, ↓zS_1280, ↓zS_1281, ↓zS_1282, ↓zS_1283, ↓zS_1284, ↓zS_1285, ↓zS_1302, ↓zS_1286, ↓zS_1287, ↓zS_1288, ↓zS_1289, ↓zS_1290, ↓zS_1291, ↓zS_1292, ↓zS_1293, ↓zS_1294, ↓zS_1295, ↓zS_1296, ↓zS_1297, ↓zS_1298, ↓zS_1299, ↓zS_1300, ↓zS_1301, ↓zS_sg, ↓zS_m0, ↓zS_m1, ↓zS_m2, ↓zS_m3, ↓zS_m4, ↓zS_m5, ↓zS_m6, ↓zS_m7, ↓zS_m8, ↓zS_m9, ↓zS_m10, ↓zS_m11, ↓zS_m12, ↓zS_m13, ↓zS_m14, ↓zS_m15, ↓zS_m16, ↓zS_m17, ↓zS_m18, ↓zS_m19, ↓zS_m20, ↓zS_m21, ↓zS_m22, ↓zS_m23, ↓zS_m24, ↓zS_m25, ↓zS_m26, ↓zS_m27, ↓zS_m28, ↓zS_m29, ↓bf_0_2, ↓bf_0_4, ↓bf_0_6, ↓bf_0_7, ↓bf_0_8, ↓bf_0_9, ↓bf_3_2, ↓bf_5_0, ↓bf_5_2, ↓bf_5_3, ↓bf_5_5, ↓bf_5_6, ↓bf_1121_0, ↓bf_1121_8, ↓bf_1121_9, ↓bf_1121_10, ↓bf_1121_13, ↓bf_1122_1, ↓bf_1181_1, ↓bf_1178_1, ↓bf_1178_2, ↓bf_1178_8, ↓bf_1178_9, ↓bf_1178_11, ↓bf_1185_2, ↓bf_1185_4, ↓bf_1185_5, ↓bf_1185_6, ↓bf_1185_7, ↓bf_1185_8, ↓bf_1185_9, ↓bf_1185_14, ↓bf_1185_16, ↓bf_1185_17, ↓bf_1185_18, ↓bf_1277_0, ↓bf_1277_1, ↓bf_1278_0, ↓bf_1278_2, ↓bf_1285_3, ↓bf_1285_4, ↓bf_1285_14, ↓bf_1285_15, ↓bf_1285_16, ↓bf_1285_17, ↓bf_1285_18, ↓bf_1285_19, ↓bf_1285_20, ↓bf_1285_21, ↓bf_1285_22, ↓bf_1285_23, ↓bf_1285_24, ↓bf_1285_25, ↓bf_1285_27, ↓bf_1285_28, ↓bf_1285_29, ↓bf_1285_30, ↓bf_2, ↓bf_2_, ↓bf_1126, ↓bf_1126_, ↓bf_s0, ↓bf_s1, ↓bf_s2, ↓bf_s3, ↓bf_s4, ↓bf_s5, ↓bf_s6, ↓bf_s7, ↓bf_s10, ↓bf_tx, ↓bf_tx_, ↓bf_mt, ↓bf_mt_, ↓bf_ms, ↓bf_ms_, ↓bf_nd, ↓bf_nd_, ↓bf_tk, ↓bf_tk_, ↓bf_txA4, ↓bf_txA5, ↓bf_msA3, ↓bf_msA4, ↓bf_msA5, ↓bf_msA6, ↓bf_ndA4, ↓bf_ndA5, ↓bf_tkA4, ↓bf_tkA5, ↓bf_m5, ↓bf_m6, ↓bf_m7, ↓bf_m8, ↓bf_m9, ↓bf_m10, ↓bf_m11, ↓bf_m12, ↓bf_m13, ↓bf_m14, ↓bf_m15, ↓bf_m16, ↓bf_m17, ↓bf_m18, ↓bf_m19, ↓bf_m20, ↓bf_m21, ↓bf_m22, ↓bf_m23, ↓bf_m24, ↓bf_m25, ↓bf_m26, ↓bf_m27, ↓bf_m28, ↓bf_m29, ↓bf_m30, ↓bf_m31, ↓bf_m32, ↓bf_m33, mI_R, sI_R, sL_R, hz, ↓zob_h hbf1, hbf1, i0eq0, y3, ↓zoL_e, ↓zob_e, ↓reduceIte, zoS_e, zob_e, nI_lt0, nI_lt00, nI_cl, nle_f, or_self, or_false, false_or]
            exact bad
          · have hz : (nI cnt = 0) = False := eq_false (nI_ne0 (by omega) (by omega))
            have hv : m2.1 (1217 + a0) (fr + (cnt - 1)) = vals (cnt - 1) := by
              rw [e2A]
              show fS g a0 _ a0 _ = _
              rw [fS_at]
              exact cpy_in (by omega)
            have hix : nI fr + nI cnt - 1 = nI (fr + (cnt - 1)) := by
              rw [nI_add, show fr + cnt = (fr + (cnt - 1)) + 1 by omega, nI_pred]
            have hbf1 := hbf (vals (cnt - 1)) (fun e => ⟨by rw [hle, if_pos e, if_neg c0], hlv e c0⟩)
            rw [if_neg hb] at hbf1
            simp (disch := first | assumption | omega) only [↓zS_s0, ↓zS_s1, ↓zS_s2, ↓zS_s3, ↓zS_s20, ↓zS_s21, ↓zS_s22, ↓zS_s23, ↓zS_s24, ↓zS_s25, ↓zS_smt, ↓zS_txA, ↓zS_txA1, ↓zS_txA2, ↓zS_msA, ↓zS_msA1, ↓zS_msA2, ↓zS_msA3, ↓zS_msA4, ↓zS_ndA, ↓zS_ndA1, ↓zS_ndA2, ↓zS_tkA, ↓zS_tkA1, ↓zS_tkA2, ↓zS_0, ↓zS_1, ↓zS_2, ↓zS_3, ↓zS_4, ↓zS_5, ↓zS_6, ↓zS_7, ↓zS_8, ↓zS_9, ↓zS_10, ↓zS_1121, ↓zS_1122, ↓zS_1123, ↓zS_1124, ↓zS_1125, ↓zS_1126, ↓zS_1175, ↓zS_1176, ↓zS_1177, ↓zS_1178, ↓zS_1179, ↓zS_1180, ↓zS_1181, ↓zS_1182, ↓zS_1183, ↓zS_1184, ↓zS_1185, ↓zS_1186, ↓zS_1277, ↓zS_1278, ↓zS_1279, ↓zS_1280, ↓zS_1281, ↓zS_1282, ↓zS_1283, ↓zS_1284, ↓zS_1285, ↓zS_1302, ↓zS_1286, ↓zS_1287, ↓zS_1288, ↓zS_1289, ↓zS_1290, ↓zS_1291, ↓zS_1292, ↓zS_1293, ↓zS_1294, ↓zS_1295, ↓zS_1296, ↓zS_1297, ↓zS_1298, ↓zS_1299, ↓zS_1300, ↓zS_1301, ↓zS_sg, ↓zS_m0, ↓zS_m1, ↓zS_m2, ↓zS_m3, ↓zS_m4, ↓zS_m5, ↓zS_m6, ↓zS_m7, ↓zS_m8, ↓zS_m9, ↓zS_m10, ↓zS_m11, ↓zS_m12, ↓zS_m13, ↓zS_m14, ↓zS_m15, ↓zS_m16, ↓zS_m17, ↓zS_m18, ↓zS_m19, ↓zS_m20, ↓zS_m21, ↓zS_m22, ↓zS_m23, ↓zS_m24, ↓zS_m25, ↓zS_m26, ↓zS_m27, ↓zS_m28, ↓zS_m29, ↓bf_0_2, ↓bf_0_4, ↓bf_0_6, ↓bf_0_7, ↓bf_0_8, ↓bf_0_9, ↓bf_3_2, ↓bf_5_0, ↓bf_5_2, ↓bf_5_3, ↓bf_5_5, ↓bf_5_6, ↓bf_1121_0, ↓bf_1121_8, ↓bf_1121_9, ↓bf_1121_10, ↓bf_1121_13, ↓bf_1122_1, ↓bf_1181_1, ↓bf_1178_1, ↓bf_1178_2, ↓bf_1178_8, ↓bf_1178_9, ↓bf_1178_11, ↓bf_1185_2, ↓bf_1185_4, ↓bf_1185_5, ↓bf_1185_6, ↓bf_1185_7, ↓bf_1185_8, ↓bf_1185_9, ↓bf_1185_14, ↓bf_1185_16, ↓bf_1185_17, ↓bf_1185_18, ↓bf_1277_0, ↓bf_1277_1, ↓bf_1278_0, ↓bf_1278_2, ↓bf_1285_3, ↓bf_1285_4, ↓bf_1285_14, ↓bf_1285_15, ↓bf_1285_16, ↓bf_1285_17, ↓bf_1285_18, ↓bf_1285_19, ↓bf_1285_20, ↓bf_1285_21, ↓bf_1285_22, ↓bf_1285_23, ↓bf_1285_24, ↓bf_1285_25, ↓bf_1285_27, ↓bf_1285_28, ↓bf_1285_29, ↓bf_1285_30, ↓bf_2, ↓bf_2_, ↓bf_1126, ↓bf_1126_, ↓bf_s0, ↓bf_s1, ↓bf_s2, ↓bf_s3, ↓bf_s4, ↓bf_s5, ↓bf_s6, ↓bf_s7, ↓bf_s10, ↓bf_tx, ↓bf_tx_, ↓bf_mt, ↓bf_mt_, ↓bf_ms, ↓bf_ms_, ↓bf_nd, ↓bf_nd_, ↓bf_tk, ↓bf_tk_, ↓bf_txA4, ↓bf_txA5, ↓bf_msA3, ↓bf_msA4, ↓bf_msA5, ↓bf_msA6, ↓bf_ndA4, ↓bf_ndA5, ↓bf_tkA4, ↓bf_tkA5, ↓bf_m5, ↓bf_m6, ↓bf_m7, ↓bf_m8, ↓bf_m9, ↓bf_m10, ↓bf_m11, ↓bf_m12, ↓bf_m13, ↓bf_m14, ↓bf_m15, ↓bf_m16, ↓bf_m17, ↓bf_m18, ↓bf_m19, ↓bf_m20, ↓bf_m21, ↓bf_m22, ↓bf_m23, ↓bf_m24, ↓bf_m25, ↓bf_m26, ↓bf_m27, ↓bf_m28, ↓bf_m29, ↓bf_m30, ↓bf_m31, ↓bf_m32, ↓bf_m33, mI_R, sI_R, sL_R, hz, y4, h9, hix, hv, ↓zob_h hbf1, hbf1, i0eq0, ↓zoS_h hA, hA, y3, ↓zoL_e, ↓zob_e, ↓reduceIte, zoS_e, zob_e, nI_lt0, nI_lt00, nI_cl, nle_f, or_self, or_false, false_or]
            exact bad
theorem m_numbersE {k q i A : Nat} {fr kd ls mo gp co : Int32} {m : zMem} (h : mE mm k q m) : F_MReader_numbers (sh0 W H) m 1277 i A fr kd ls mo gp co = some (mI m 1277 9 0) := by
  have h9 : mE mm k q (mI m 1277 9 0) := mE_l h (by decide) (by decide)
  have e1 : L_MReader_numbers_39 (sh0 W H) zfuel 1277 A fr kd ls mo gp co 0 (mI m 1277 9 0) = some (1277, A, fr, kd, ls, mo, gp, co, 0, mI m 1277 9 0) := by
    rw [zfuel_s]
    simp only [L_MReader_numbers_39, i0eq0, ↓reduceIte]
  unfold F_MReader_numbers
  simp only [sh_1277, zoS_e, zoL_e, m_nameE h, zob_e, m_signE h, mE_w h9, ↓reduceIte, e1, m_signE h9]
/-- a list of numbers, into the draft -/
theorem m_numbers {p i i' a0 fr most unit len : Nat} {kd ls gp co : Int32} {gb : Bool} {lo hi : Int} {m : zMem} (h : mS mm n p g m) (hi' : i' < 67) (hz : ztxb i' = ztxb i) (ha : a0 < 30) (hA : sh0 W H (1217 + a0) = some (100, len)) (hlen : fr + most ≤ len) (hl2 : len < 100000) (hfit : fitK W H kd co gb lo hi) (hlo : -1000000000 < lo) (hhi : hi < 1000000000) (hglo : gb = true → lo = 0) (hgp : ¬ gp = 0)
    (hend : ∀ c : Nat, c ≤ most → (if nI c < ls then True else ¬ (nI c - nI c / gp * gp) = 0) = (c = 0 ∨ c % unit ≠ 0)) (hls : ¬ ls ≤ 0) : oR (lst (mm.1 1186) n i most unit lo hi gb p) (F_MReader_numbers (sh0 W H) m 1277 i' (1217 + a0) (nI fr) kd ls (nI most) gp co) (fun a m' => mS mm n a.2.2 (gV g a0 fr a.1 a.2.1) m' ∧ m'.1 1277 9 = nI a.1 ∧ a.1 ≤ most) (mE mm) := by
  unfold F_MReader_numbers lst
  simp only [sh_1277, zoS_e, zoL_e]
  refine oR_k (m_name h hi' hz) (fun p1 m1 _ h1 => ?_) (fun a b m1 h1 => ?_)
  rotate_left
  · have h9 : mE mm a b (mI m1 1277 9 0) := mE_l h1 (by decide) (by decide)
    have e1 : L_MReader_numbers_39 (sh0 W H) zfuel 1277 (1217 + a0) (nI fr) kd ls (nI most) gp co 0 (mI m1 1277 9 0) = some (1277, 1217 + a0, nI fr, kd, ls, nI most, gp, co, 0, mI m1 1277 9 0) := by
      rw [zfuel_s]
      simp only [L_MReader_numbers_39, i0eq0, ↓reduceIte]
    simp only [zob_e, m_signE h1, mE_w h9, ↓reduceIte, e1, m_signE h9, sh_1277, zoS_e]
    exact zok_s h9
  refine oR_k (m_sign h1.1 (by decide) (by decide)) (fun p2 m2 _ h2 => ?_) (fun a b m2 h2 => ?_)
  rotate_left
  · have h9 : mE mm a b (mI m2 1277 9 0) := mE_l h2 (by decide) (by decide)
    have e1 : L_MReader_numbers_39 (sh0 W H) zfuel 1277 (1217 + a0) (nI fr) kd ls (nI most) gp co 0 (mI m2 1277 9 0) = some (1277, 1217 + a0, nI fr, kd, ls, nI most, gp, co, 0, mI m2 1277 9 0) := by
      rw [zfuel_s]
      simp only [L_MReader_numbers_39, i0eq0, ↓reduceIte]
    simp only [mE_w h9, ↓reduceIte, e1, m_signE h9, zob_e, sh_1277, zoS_e]
    exact zok_s h9
  have h3 : mS mm n p2 g (mI m2 1277 9 0) := mS_l h2.1 (by decide) (by decide) (by decide) (by decide)
  have h39 : (mI m2 1277 9 0).1 1277 9 = nI 0 := by rw [mI_sI, sI_at, upd_at]; rfl
  have h34 := h3.2.1
  generalize mI m2 1277 9 0 = m3 at h3 h39 h34 ⊢
  have b93 := bb_eq (t := mm.1 1186) (n := n) (k := p2) (mS_b h3) (c := 93) (by decide) (by decide)
  have hmp := mS_Pp h3
  have hm9 : (mP m3 p2).1 1277 9 = nI 0 := by rw [mS_9 (p := p2), h39]
  simp only [h34, ↓reduceIte, m_next' h3, zob_e, b93]
  -- the end of the list
  have tail : ∀ (cnt : Nat) (vals : Nat → Int32) (pe : Nat) (m4 : zMem), mS mm n pe (gV g a0 fr cnt vals) m4 → m4.1 1277 9 = nI cnt → cnt ≤ most → oR ((fin (mm.1 1186) n unit cnt pe).map (fun p2 => (cnt, vals, p2))) (if m4.1 1277 4 = 0 then Option.bind (F_MReader_next (sh0 W H) m4 1277) (fun p249 => if p249.1 = 93 then (if p249.2.1 1277 9 < ls then Option.bind (F_MReader_fail (sh0 W H) p249.2 1277 3 (p249.2.1 1277 3)) (fun p261 => Option.bind (F_MReader_sign (sh0 W H) p261 1277 93) (fun p264 => some p264)) else (if gp = 0 then none else if (p249.2.1 1277 9 - p249.2.1 1277 9 / gp * gp) = 0 then Option.bind (F_MReader_sign (sh0 W H) p249.2 1277 93) (fun p271 => some p271) else Option.bind (F_MReader_fail (sh0 W H) p249.2 1277 3 (p249.2.1 1277 3)) (fun p276 => Option.bind (F_MReader_sign (sh0 W H) p276 1277 93) (fun p279 => some p279)))) else Option.bind (F_MReader_sign (sh0 W H) p249.2 1277 93) (fun p253 => some p253)) else Option.bind (F_MReader_sign (sh0 W H) m4 1277 93) (fun p246 => some p246)) (fun a m' => mS mm n a.2.2 (gV g a0 fr a.1 a.2.1) m' ∧ m'.1 1277 9 = nI a.1 ∧ a.1 ≤ most) (mE mm) := by
    intro cnt vals pe m4 h4 h49 hcm
    have h44 := h4.2.1
    have b93 := bb_eq (t := mm.1 1186) (n := n) (k := pe) (mS_b h4) (c := 93) (by decide) (by decide)
    have hmp4 := mS_Pp h4
    have h43 : (mP m4 pe).1 1277 3 = nI pe := by
      show (sI m4 1277 _).1 1277 3 = _
      rw [sI_at]
      rfl
    have hm49 : (mP m4 pe).1 1277 9 = nI cnt := by rw [mS_9 (p := pe), h49]
    have hsg := m_sign (W := W) (H := H) hmp4 (c := 93) (by decide) (by decide)
    have hd := hend cnt hcm
    simp only [h44, ↓reduceIte, m_next' h4, zob_e, b93, hm49, h43, hgp]
    unfold fin
    have good : (cnt = 0 ∨ cnt % unit ≠ 0) = False ∨ ¬ (pe < n ∧ mm.1 1186 pe = 93) → oR ((if pe < n ∧ mm.1 1186 pe = 93 then (.ok (wp (mm.1 1186) n (pe + 1)) : Except (Nat × Nat) Nat) else .error (1, pe)).map (fun p2 => (cnt, vals, p2))) (Option.bind (F_MReader_sign (sh0 W H) (mP m4 pe) 1277 93) (fun p271 => some p271)) (fun a m' => mS mm n a.2.2 (gV g a0 fr a.1 a.2.1) m' ∧ m'.1 1277 9 = nI a.1 ∧ a.1 ≤ most) (mE mm) := by
      intro _
      show oR ((sgn (mm.1 1186) n 93 pe).map (fun p2 => (cnt, vals, p2))) _ _ _
      cases hs : sgn (mm.1 1186) n 93 pe with
      | error e =>
        rw [hs] at hsg
        exact zok_b hsg (fun m' hm => zok_s hm)
      | ok q =>
        rw [hs] at hsg
        exact zok_b hsg (fun m' hm => zok_s ⟨hm.1, by rw [hm.2 9 (by decide), hm49], hcm⟩)
    have bad : oR (.error (3, pe) : Except (Nat × Nat) (Nat × (Nat → Int32) × Nat)) (Option.bind (F_MReader_fail (sh0 W H) (mP m4 pe) 1277 3 (nI pe)) (fun p261 => Option.bind (F_MReader_sign (sh0 W H) p261 1277 93) (fun p264 => some p264))) (fun a m' => mS mm n a.2.2 (gV g a0 fr a.1 a.2.1) m' ∧ m'.1 1277 9 = nI a.1 ∧ a.1 ≤ most) (mE mm) := by
      refine zok_b (m_fail (k := 3) (q := pe) hmp4 (by decide)) (fun m5 h5 => ?_)
      simp only [m_signE h5, zob_e]
      exact zok_s h5
    by_cases hc : pe < n ∧ mm.1 1186 pe = 93
    · rw [if_pos hc, if_pos hc]
      by_cases c1 : nI cnt < ls
      · rw [if_pos c1] at hd ⊢
        rw [if_pos (hd ▸ trivial)]
        exact bad
      · rw [if_neg c1] at hd ⊢
        by_cases c2 : (nI cnt - nI cnt / gp * gp) = 0
        · have hd' : (cnt = 0 ∨ cnt % unit ≠ 0) = False := by rw [← hd]; exact eq_false (fun z => z c2)
          rw [if_pos c2, if_neg (fun z => by rw [hd'] at z; exact z)]
          have := good (Or.inl hd')
          rw [if_pos hc] at this
          exact this
        · have hd' : cnt = 0 ∨ cnt % unit ≠ 0 := by rw [← hd]; exact c2
          rw [if_neg c2, if_pos hd']
          exact bad
    · rw [if_neg hc, if_neg hc]
      have := good (Or.inr hc)
      rw [if_neg hc] at this
      exact this
  by_cases hc : p2 < n ∧ mm.1 1186 p2 = 93
  · rw [if_pos hc, if_pos hc]
    have e1 : L_MReader_numbers_39 (sh0 W H) zfuel 1277 (1217 + a0) (nI fr) kd ls (nI most) gp co 0 (mP m3 p2) = some (1277, 1217 + a0, nI fr, kd, ls, nI most, gp, co, 0, mP m3 p2) := by
      rw [zfuel_s]
      simp only [L_MReader_numbers_39, i0eq0, ↓reduceIte]
    rw [e1]
    simp only [zob_e, sh_1277, zoS_e]
    have := tail 0 (fun _ => 0) p2 (mP m3 p2) (by rw [gV_0]; exact hmp) hm9 (by omega)
    unfold fin at this
    rw [if_pos hc, if_pos (Or.inl rfl)] at this
    exact this
  · rw [if_neg hc, if_neg hc, lrGo_eq]
    have hl := m_lr (W := W) (H := H) (mm := mm) (n := n) (g := g) (ls := ls) (gp := gp) ha hA hlen hl2 hfit hlo hhi hglo most lo 0 (fun _ => 0) p2 zfuel (mP m3 p2) (zf_lt (by omega)) (by omega) (by rw [gV_0]; exact hmp) hm9 (by cases gb with | false => rfl | true => simp [hglo rfl]) (fun _ z => absurd rfl z)
    cases hlr : lrGo (mm.1 1186) n lo hi gb most lo 0 (fun _ => 0) p2 with
    | error e =>
      rw [hlr] at hl
      refine zok_b hl (fun q hq => ?_)
      obtain ⟨q1, q2⟩ := hq
      rw [q1]
      simp only [sh_1277, zoS_e, mE_w q2, ↓reduceIte, m_signE q2, zob_e]
      exact zok_s q2
    | ok a =>
      rw [hlr] at hl
      obtain ⟨q, q0, q1, q2, q3, q4⟩ := hl
      rw [q0, q1]
      simp only [zob_e, sh_1277, zoS_e]
      exact tail a.1 a.2.1 a.2.2 _ q2 q3 q4
end ZMQ
