/-! PURE: the class reads the things of a part -/
def sThing (t : Nat → Int32) (n c k : Nat) (g : Nat → Nat → Int32) (p : Nat) : Except (Nat × Nat) ((Nat → Nat → Int32) × Nat) := if c = 0 then sTex t n k g p else if c = 1 then sMat t n k g p else if c = 2 then sMesh t n k g p else if c = 3 then sNode t n k g p else sTrack t n k g p
def thLp (t : Nat → Int32) (n c : Nat) : Nat → Nat → (Nat → Nat → Int32) → Nat → Except (Nat × Nat) (Bool × Nat × (Nat → Nat → Int32) × Nat)
  | 0, k, g, p => .ok (true, k, g, p)
  | rem + 1, k, g, p => (sgn t n 123 p).bind fun p1 => (sThing t n c k g p1).bind fun a => (sgn t n 125 a.2).bind fun p3 => if p3 < n ∧ t p3 = 44 then thLp t n c rem (k + 1) (gI a.1 0 c (nI (k + 1))) (wp t n (p3 + 1)) else .ok (false, k + 1, gI a.1 0 c (nI (k + 1)), p3)
def ocL {α : Type} (s : Except (Nat × Nat) α) (L : Option (Nat × Int32 × Int32 × Int32 × zMem)) (LT : Option (Nat × Nat × Int32 × Int32 × Int32 × zMem)) (P : α → Nat × Int32 × Int32 × Int32 × zMem → Prop) (E : Nat → Nat → zMem → Prop) : Prop := match s with
  | .ok a => ∃ q, L = some q ∧ LT = some (1, q) ∧ P a q
  | .error e => L = none ∧ ∃ q, LT = some q ∧ q.1 = 0 ∧ E e.1 e.2 q.2.2.2.2.2
theorem ocL_k {α β γ : Type} {s : Except (Nat × Nat) α} {F : Option β} {T : Option zMem} {P : α → β → Prop} {E : Nat → Nat → zMem → Prop} {s' : α → Except (Nat × Nat) γ} {KF : β → Option (Nat × Int32 × Int32 × Int32 × zMem)} {KT : β → Option (Nat × Nat × Int32 × Int32 × Int32 × zMem)} {P' : γ → Nat × Int32 × Int32 × Int32 × zMem → Prop} (h : oc s F T P E) (k : ∀ a r, s = .ok a → P a r → ocL (s' a) (KF r) (KT r) P' E) : ocL (s.bind s') (Option.bind F KF) (zoX F (Option.bind T (fun mq => some (0, (0 : Nat), (0 : Int32), (0 : Int32), (0 : Int32), mq))) KT) P' E := by
  cases s with
  | error e =>
    obtain ⟨h1, m, h2, h3⟩ := h
    rw [h1, h2]
    exact ⟨rfl, _, rfl, rfl, h3⟩
  | ok a =>
    obtain ⟨r, h1, h2⟩ := h
    rw [h1]
    exact k a r rfl h2
theorem ocL_w {α : Type} {s : Except (Nat × Nat) α} {L : Option (Nat × Int32 × Int32 × Int32 × zMem)} {LT : Option (Nat × Nat × Int32 × Int32 × Int32 × zMem)} {P P' : α → Nat × Int32 × Int32 × Int32 × zMem → Prop} {E : Nat → Nat → zMem → Prop} (h : ocL s L LT P E) (k : ∀ a q, P a q → P' a q) : ocL s L LT P' E := by
  cases s with
  | error e => exact h
  | ok a =>
    obtain ⟨q, h1, h2, h3⟩ := h
    exact ⟨q, h1, h2, k a q h3⟩
theorem zli_v : zliI 0 = nI 8 ∧ zliI 1 = nI 16 ∧ zliI 2 = nI 16 ∧ zliI 3 = nI 48 ∧ zliI 4 = nI 32 := by decide
theorem zli_lim {c : Nat} (h : c < 5) : zliI c = nI (lim c) := by
  rcases (show c = 0 ∨ c = 1 ∨ c = 2 ∨ c = 3 ∨ c = 4 by omega) with rfl | rfl | rfl | rfl | rfl <;> decide
section ZTH
variable {W H : Nat} {mm : zMem} {s n : Nat}
/-- what stands behind a thing: its sign, its count, and whether another one comes -/
theorem q_thEnd {c : Nat} (hc : c < 5) {rem k fu : Nat} {g g' : Nat → Nat → Int32} {f : Nat → Nat → Int32} {p2 : Nat} {m : zMem} (hs : gS s) (h : rdQ mm s n p2 f m) (hfu : rem < fu) (hR2 : RscG (fS f (s + 1) (upd (f (s + 1)) c (nI (k + 1)))) s (gI g' 0 c (nI (k + 1))) ∧ cn (gI g' 0 c (nI (k + 1))) c = k + 1 ∧ ∀ d, d ≠ c → gI g' 0 c (nI (k + 1)) 0 d = g 0 d)
    (ih : ∀ (g : Nat → Nat → Int32) (p fuel : Nat) (m : zMem) (f : Nat → Nat → Int32), rem < fuel → rdQ mm s n p f m → RscG f s g → cn g c = k + 1 → ocL (thLp (mm.1 1) n c rem (k + 1) g p) (L_XReader_readThings_23 (sh0 W H) fuel 3 (nI c) 1 (nI (k + 1)) m) (L_T_XReader_readThings_23 (sh0 W H) fuel 3 (nI c) 1 (nI (k + 1)) m) (fun a q => q.1 = 3 ∧ q.2.2.1 = b32 a.1 ∧ ∃ f', rdQ mm s n a.2.2.2 f' q.2.2.2.2 ∧ RscG f' s a.2.2.1 ∧ ∀ d, d ≠ c → a.2.2.1 0 d = g 0 d) (rdZ mm s)) :
    ocL ((sgn (mm.1 1) n 125 p2).bind fun p3 => if p3 < n ∧ mm.1 1 p3 = 44 then thLp (mm.1 1) n c rem (k + 1) (gI g' 0 c (nI (k + 1))) (wp (mm.1 1) n (p3 + 1)) else .ok (false, k + 1, gI g' 0 c (nI (k + 1)), p3))
      (Option.bind (F_XReader_need (sh0 W H) m 3 125) (fun p31 => Option.bind (p31.2.2 3 7) (fun a34 => zoS (sh0 W H a34) 8 (fun _ => Option.bind (p31.2.2 a34 0) (fun a37 => zoS (sh0 W H a37) 100 (fun le40 => if le40 ≤ c then none else Option.bind (F_XReader_takes (sh0 W H) (mI p31 a37 c (nI (k + 1))) 3 44) (fun p45 => L_XReader_readThings_23 (sh0 W H) fu 3 (nI c) p45.1 (nI (k + 1)) p45.2)))))))
      (zoX (F_XReader_need (sh0 W H) m 3 125) (Option.bind (T_XReader_need (sh0 W H) m 3 125) (fun mq => some (0, (0 : Nat), (0 : Int32), (0 : Int32), (0 : Int32), mq))) (fun p31 => Option.bind (p31.2.2 3 7) (fun a34 => zoS (sh0 W H a34) 8 (fun _ => Option.bind (p31.2.2 a34 0) (fun a37 => zoS (sh0 W H a37) 100 (fun le40 => if le40 ≤ c then none else Option.bind (F_XReader_takes (sh0 W H) (mI p31 a37 c (nI (k + 1))) 3 44) (fun p45 => L_T_XReader_readThings_23 (sh0 W H) fu 3 (nI c) p45.1 (nI (k + 1)) p45.2)))))))
      (fun a q => q.1 = 3 ∧ q.2.2.1 = b32 a.1 ∧ ∃ f', rdQ mm s n a.2.2.2 f' q.2.2.2.2 ∧ RscG f' s a.2.2.1 ∧ ∀ d, d ≠ c → a.2.2.1 0 d = g 0 d) (rdZ mm s) := by
  refine ocL_k (q_need h 125) (fun p3 m3 _ h3 => ?_)
  have hR3 := rdQ_R h3
  have h37 := rdQ_7 h3
  have c5 : (nI c < 0 ∨ 5 ≤ (nI c).toNatClampNeg) = False := eq_false (nI_in hc (by decide))
  have c6 : (5 ≤ c) = False := eq_false (by omega)
  simp (disch := first | assumption | omega) only [↓zS_s0, ↓zS_s1, ↓zS_s2, ↓zS_s3, ↓zS_s20, ↓zS_s21, ↓zS_s22, ↓zS_s23, ↓zS_s24, ↓zS_s25, ↓zS_smt, ↓zS_txA, ↓zS_txA1, ↓zS_txA2, ↓zS_msA, ↓zS_msA1, ↓zS_msA2, ↓zS_msA3, ↓zS_msA4, ↓zS_ndA, ↓zS_ndA1, ↓zS_ndA2, ↓zS_tkA, ↓zS_tkA1, ↓zS_tkA2, ↓zS_0, ↓zS_1, ↓zS_2, ↓zS_3, ↓zS_4, ↓zS_5, ↓zS_6, ↓zS_7, ↓zS_8, ↓zS_9, ↓zS_10, ↓zS_1121, ↓zS_1122, ↓zS_1123, ↓zS_1124, ↓zS_1125, ↓zS_1126, ↓zS_1175, ↓zS_1176, ↓zS_1177, ↓zS_1178, ↓zS_1179, ↓zS_1180, ↓zS_1181, ↓zS_1182, ↓zS_1183, ↓zS_1184, ↓zS_1185, ↓zS_1186, ↓zS_1277, ↓zS_1278, ↓zS_1279, ↓zS_1280, ↓zS_1281, ↓zS_1282, ↓zS_1283, ↓zS_1284, ↓zS_1285, ↓zS_1302, ↓zS_1286, ↓zS_1287, ↓zS_1288, ↓zS_1289, ↓zS_1290, ↓zS_1291, ↓zS_1292, ↓zS_1293, ↓zS_1294, ↓zS_1295, ↓zS_1296, ↓zS_1297, ↓zS_1298, ↓zS_1299, ↓zS_1300, ↓zS_1301, ↓zS_sg, ↓zS_m0, ↓zS_m1, ↓zS_m2, ↓zS_m3, ↓zS_m4, ↓zS_m5, ↓zS_m6, ↓zS_m7, ↓zS_m8, ↓zS_m9, ↓zS_m10, ↓zS_m11, ↓zS_m12, ↓zS_m13, ↓zS_m14, ↓zS_m15, ↓zS_m16, ↓zS_m17, ↓zS_m18, ↓zS_m19, ↓zS_m20, ↓zS_m21, ↓zS_m22, ↓zS_m23, ↓zS_m24, ↓zS_m25, ↓zS_m26, ↓zS_m27, ↓zS_m28, ↓zS_m29, ↓bf_0_2, ↓bf_0_4, ↓bf_0_6, ↓bf_0_7, ↓bf_0_8, ↓bf_0_9, ↓bf_3_2, ↓bf_5_0, ↓bf_5_2, ↓bf_5_3, ↓bf_5_5, ↓bf_5_6, ↓bf_1121_0, ↓bf_1121_8, ↓bf_1121_9, ↓bf_1121_10, ↓bf_1121_13, ↓bf_1122_1, ↓bf_1181_1, ↓bf_1178_1, ↓bf_1178_2, ↓bf_1178_8, ↓bf_1178_9, ↓bf_1178_11, ↓bf_1185_2, ↓bf_1185_4, ↓bf_1185_5, ↓bf_1185_6, ↓bf_1185_7, ↓bf_1185_8, ↓bf_1185_9, ↓bf_1185_14, ↓bf_1185_16, ↓bf_1185_17, ↓bf_1185_18, ↓bf_1277_0, ↓bf_1277_1, ↓bf_1278_0, ↓bf_1278_2, ↓bf_1285_3, ↓bf_1285_4, ↓bf_1285_14, ↓bf_1285_15, ↓bf_1285_16, ↓bf_1285_17, ↓bf_1285_18, ↓bf_1285_19, ↓bf_1285_20, ↓bf_1285_21, ↓bf_1285_22, ↓bf_1285_23, ↓bf_1285_24, ↓bf_1285_25, ↓bf_1285_27, ↓bf_1285_28, ↓bf_1285_29, ↓bf_1285_30, ↓bf_2, ↓bf_2_, ↓bf_1126, ↓bf_1126_, ↓bf_s0, ↓bf_s1, ↓bf_s2, ↓bf_s3, ↓bf_s4, ↓bf_s5, ↓bf_s6, ↓bf_s7, ↓bf_s10, ↓bf_tx, ↓bf_tx_, ↓bf_mt, ↓bf_mt_, ↓bf_ms, ↓bf_ms_, ↓bf_nd, ↓bf_nd_, ↓bf_tk, ↓bf_tk_, ↓bf_txA4, ↓bf_txA5, ↓bf_msA3, ↓bf_msA4, ↓bf_msA5, ↓bf_msA6, ↓bf_ndA4, ↓bf_ndA5, ↓bf_tkA4, ↓bf_tkA5, ↓bf_m5, ↓bf_m6, ↓bf_m7, ↓bf_m8, ↓bf_m9, ↓bf_m10, ↓bf_m11, ↓bf_m12, ↓bf_m13, ↓bf_m14, ↓bf_m15, ↓bf_m16, ↓bf_m17, ↓bf_m18, ↓bf_m19, ↓bf_m20, ↓bf_m21, ↓bf_m22, ↓bf_m23, ↓bf_m24, ↓bf_m25, ↓bf_m26, ↓bf_m27, ↓bf_m28, ↓bf_m29, ↓bf_m30, ↓bf_m31, ↓bf_m32, ↓bf_m33, mI_R, sI_R, sL_R, ↓zob_h h37, h37, c6, ↓zoL_e, ↓zob_e, ↓reduceIte, zoS_e, zob_e, nI_lt0, nI_lt00, nI_cl, nle_f, or_self, or_false, false_or]
  have h4 := q_put h3 (a := s + 1) (j := c) (v := nI (k + 1)) (by omega) (fun i hi => by (try unfold ndA); (try unfold msA); (try unfold tkA); unfold txA; omega)
  have ht4 := rdQ_t h4
  have htk := c_takes (W := W) (H := H) (rdQ_S h4) (by rw [ht4]; exact h4.1.2.1) 44
  rw [ht4] at htk
  rw [htk]
  by_cases hcm : p3 < n ∧ mm.1 1 p3 = 44
  · simp only [if_pos hcm, zob_e]
    have hS5 := rdP_S (rdQ_S h4) (wp_2 (t := mm.1 1) (show p3 + 1 ≤ n by omega))
    have h5 := rdQ_w h4 (m' := rdP (mI m3 (s + 1) c (nI (k + 1))) (wp (mm.1 1) n (p3 + 1))) hS5 (wp_id (by omega)) (rw4_P rw4_r)
    refine ocL_w (ih _ _ fu _ _ hfu h5 hR2.1 hR2.2.1) (fun a q hq => ?_)
    obtain ⟨x1, x2, f', x3, x4, x5⟩ := hq
    exact ⟨x1, x2, f', x3, x4, fun d hd => (x5 d hd).trans (hR2.2.2 d hd)⟩
  · simp only [if_neg hcm, zob_e]
    obtain ⟨fu, rfl⟩ : ∃ q, fu = q + 1 := ⟨fu - 1, by omega⟩
    simp only [L_XReader_readThings_23, L_T_XReader_readThings_23, c5, i0eq0, ↓reduceIte]
    by_cases hl : zliI (nI c).toNatClampNeg ≤ nI (k + 1)
    · simp only [hl, ↓reduceIte]
      exact ⟨_, rfl, rfl, rfl, rfl, _, h4, hR2.1, hR2.2.2⟩
    · simp only [hl, ↓reduceIte]
      exact ⟨_, rfl, rfl, rfl, rfl, _, h4, hR2.1, hR2.2.2⟩

set_option maxHeartbeats 8000000 in
theorem q_thLp {c : Nat} (hc : c < 5) (hs : gS s) : ∀ (rem k : Nat) (g : Nat → Nat → Int32) (p fuel : Nat) (m : zMem) (f : Nat → Nat → Int32), rem < fuel → k + rem = lim c → rdQ mm s n p f m → RscG f s g → cn g c = k → ocL (thLp (mm.1 1) n c rem k g p) (L_XReader_readThings_23 (sh0 W H) fuel 3 (nI c) 1 (nI k) m) (L_T_XReader_readThings_23 (sh0 W H) fuel 3 (nI c) 1 (nI k) m) (fun a q => q.1 = 3 ∧ q.2.2.1 = b32 a.1 ∧ ∃ f', rdQ mm s n a.2.2.2 f' q.2.2.2.2 ∧ RscG f' s a.2.2.1 ∧ ∀ d, d ≠ c → a.2.2.1 0 d = g 0 d) (rdZ mm s) := by
  have c5 : (nI c < 0 ∨ 5 ≤ (nI c).toNatClampNeg) = False := eq_false (nI_in hc (by decide))
  have l48 := lim_48 hc
  intro rem
  induction rem with
  | zero =>
    intro k g p fuel m f hf hk h hR hcn
    obtain ⟨fu, rfl⟩ : ∃ fu, fuel = fu + 1 := ⟨fuel - 1, by omega⟩
    simp only [thLp, L_XReader_readThings_23, L_T_XReader_readThings_23, c5, ↓reduceIte]
    rw [nI_cl (by omega), zli_lim hc, show lim c = k by omega, if_pos (Int32.le_refl _), if_pos (Int32.le_refl _)]
    exact ⟨_, rfl, rfl, rfl, rfl, f, h, hR, fun _ _ => rfl⟩
  | succ rem ih =>
    intro k g p fuel m f hf hk h hR hcn
    obtain ⟨fu, rfl⟩ : ∃ fu, fuel = fu + 1 := ⟨fuel - 1, by omega⟩
    have hkl : k < lim c := by omega
    have hzl : (zliI (nI c).toNatClampNeg ≤ nI k) = False := eq_false (by rw [nI_cl (by omega), zli_lim hc, nI_leD (by omega) (by omega)]; omega)
    have ih' := fun g p fuel m f h1 h2 h3 h4 => ih (k + 1) g p fuel m f h1 (by omega) h2 h3 h4
    simp only [thLp, L_XReader_readThings_23, L_T_XReader_readThings_23, c5, hzl, i1ne0, ↓reduceIte, sh_3, zoS_e]
    refine ocL_k (q_need h 123) (fun p1 m1 _ h1 => ?_)
    have hR1 := rdQ_R h1
    have h17 := rdQ_7 h1
    have lv := lim_v
    obtain ⟨R1, R2, R3, R4, R5, R6, R7, R8, R9⟩ := hR
    have hcs := fun d hd => (R1 d hd).1.trans (R1 d hd).2.1
    have hgs := fun d hd => (R1 d hd).2.1
    have hls := fun d hd => (R1 d hd).2.2
    rcases (show c = 0 ∨ c = 1 ∨ c = 2 ∨ c = 3 ∨ c = 4 by omega) with rfl | rfl | rfl | rfl | rfl

    · have kz : (nI 0 = 0) = True := eq_true rfl
      have hk48 : k < 8 := by omega
      have cq : (nI 0 < 0 ∨ 5 ≤ (nI 0).toNatClampNeg) = False := c5
      simp (disch := first | assumption | omega) only [↓zS_s0, ↓zS_s1, ↓zS_s2, ↓zS_s3, ↓zS_s20, ↓zS_s21, ↓zS_s22, ↓zS_s23, ↓zS_s24, ↓zS_s25, ↓zS_smt, ↓zS_txA, ↓zS_txA1, ↓zS_txA2, ↓zS_msA, ↓zS_msA1, ↓zS_msA2, ↓zS_msA3, ↓zS_msA4, ↓zS_ndA, ↓zS_ndA1, ↓zS_ndA2, ↓zS_tkA, ↓zS_tkA1, ↓zS_tkA2, ↓zS_0, ↓zS_1, ↓zS_2, ↓zS_3, ↓zS_4, ↓zS_5, ↓zS_6, ↓zS_7, ↓zS_8, ↓zS_9, ↓zS_10, ↓zS_1121, ↓zS_1122, ↓zS_1123, ↓zS_1124, ↓zS_1125, ↓zS_1126, ↓zS_1175, ↓zS_1176, ↓zS_1177, ↓zS_1178, ↓zS_1179, ↓zS_1180, ↓zS_1181, ↓zS_1182, ↓zS_1183, ↓zS_1184, ↓zS_1185, ↓zS_1186, ↓zS_1277, ↓zS_1278, ↓zS_1279, ↓zS_1280, ↓zS_1281, ↓zS_1282, ↓zS_1283, ↓zS_1284, ↓zS_1285, ↓zS_1302, ↓zS_1286, ↓zS_1287, ↓zS_1288, ↓zS_1289, ↓zS_1290, ↓zS_1291, ↓zS_1292, ↓zS_1293, ↓zS_1294, ↓zS_1295, ↓zS_1296, ↓zS_1297, ↓zS_1298, ↓zS_1299, ↓zS_1300, ↓zS_1301, ↓zS_sg, ↓zS_m0, ↓zS_m1, ↓zS_m2, ↓zS_m3, ↓zS_m4, ↓zS_m5, ↓zS_m6, ↓zS_m7, ↓zS_m8, ↓zS_m9, ↓zS_m10, ↓zS_m11, ↓zS_m12, ↓zS_m13, ↓zS_m14, ↓zS_m15, ↓zS_m16, ↓zS_m17, ↓zS_m18, ↓zS_m19, ↓zS_m20, ↓zS_m21, ↓zS_m22, ↓zS_m23, ↓zS_m24, ↓zS_m25, ↓zS_m26, ↓zS_m27, ↓zS_m28, ↓zS_m29, ↓bf_0_2, ↓bf_0_4, ↓bf_0_6, ↓bf_0_7, ↓bf_0_8, ↓bf_0_9, ↓bf_3_2, ↓bf_5_0, ↓bf_5_2, ↓bf_5_3, ↓bf_5_5, ↓bf_5_6, ↓bf_1121_0, ↓bf_1121_8, ↓bf_1121_9, ↓bf_1121_10, ↓bf_1121_13, ↓bf_1122_1, ↓bf_1181_1, ↓bf_1178_1, ↓bf_1178_2, ↓bf_1178_8, ↓bf_1178_9, ↓bf_1178_11, ↓bf_1185_2, ↓bf_1185_4, ↓bf_1185_5, ↓bf_1185_6, ↓bf_1185_7, ↓bf_1185_8, ↓bf_1185_9, ↓bf_1185_14, ↓bf_1185_16, ↓bf_1185_17, ↓bf_1185_18, ↓bf_1277_0, ↓bf_1277_1, ↓bf_1278_0, ↓bf_1278_2, ↓bf_1285_3, ↓bf_1285_4, ↓bf_1285_14, ↓bf_1285_15, ↓bf_1285_16, ↓bf_1285_17, ↓bf_1285_18, ↓bf_1285_19, ↓bf_1285_20, ↓bf_1285_21, ↓bf_1285_22, ↓bf_1285_23, ↓bf_1285_24, ↓bf_1285_25, ↓bf_1285_27, ↓bf_1285_28, ↓bf_1285_29, ↓bf_1285_30, ↓bf_2, ↓bf_2_, ↓bf_1126, ↓bf_1126_, ↓bf_s0, ↓bf_s1, ↓bf_s2, ↓bf_s3, ↓bf_s4, ↓bf_s5, ↓bf_s6, ↓bf_s7, ↓bf_s10, ↓bf_tx, ↓bf_tx_, ↓bf_mt, ↓bf_mt_, ↓bf_ms, ↓bf_ms_, ↓bf_nd, ↓bf_nd_, ↓bf_tk, ↓bf_tk_, ↓bf_txA4, ↓bf_txA5, ↓bf_msA3, ↓bf_msA4, ↓bf_msA5, ↓bf_msA6, ↓bf_ndA4, ↓bf_ndA5, ↓bf_tkA4, ↓bf_tkA5, ↓bf_m5, ↓bf_m6, ↓bf_m7, ↓bf_m8, ↓bf_m9, ↓bf_m10, ↓bf_m11, ↓bf_m12, ↓bf_m13, ↓bf_m14, ↓bf_m15, ↓bf_m16, ↓bf_m17, ↓bf_m18, ↓bf_m19, ↓bf_m20, ↓bf_m21, ↓bf_m22, ↓bf_m23, ↓bf_m24, ↓bf_m25, ↓bf_m26, ↓bf_m27, ↓bf_m28, ↓bf_m29, ↓bf_m30, ↓bf_m31, ↓bf_m32, ↓bf_m33, mI_R, sI_R, sL_R, ↓zob_h h17, h17, kz, nI_1, ↓zoL_e, ↓zob_e, ↓reduceIte, zoS_e, zob_e, nI_lt0, nI_lt00, nI_cl, nle_f, or_self, or_false, false_or]
      unfold sThing
      simp only [↓reduceIte]
      refine ocL_k (q_tex h1 (k := k) (g := g) (by omega) (R2 k (by omega))) (fun a m2 _ hx => ?_)
      obtain ⟨f2, h2, F, N, G, J⟩ := hx
      have hR2 := rdQ_R h2
      have hmono : ∀ {d : Nat}, (g 0 d).toInt ≤ (a.1 0 d).toInt := fun {d} => by rw [G 0 (by decide)]; exact Int.le_refl _
      refine q_thEnd (c := 0) (by decide) hs h2 (show rem < fu by omega) (RscG_more hs (by decide) ⟨R1, R2, R3, R4, R5, R6, R7, R8, R9⟩ hcn hkl (F _ (by unfold txA; omega)) (F _ (by unfold txA; omega)) (F _ (by unfold txA; omega)) (fun i hi => ?_) (G 0 (by decide)) (G 27 (by decide)) (G 28 (by decide)) (G 29 (by decide)) (fun i hi => ?_) (fun i hi => ?_) (fun i hi => ?_) (fun i hi => ?_) (fun i hi => ?_) (fun e => N) (fun e => absurd e (by decide)) (fun e => absurd e (by decide)) (fun e => absurd e (by decide)) (fun e => absurd e (by decide))) ih' 
      · by_cases e : i = k
        · subst e
          obtain ⟨e, he, a1, a2, a3, a4, a5, a6⟩ := N
          rw [a5.2.1 0 (by omega)]
          rfl
        · rw [F _ (by unfold txA; omega)]
          exact R2 i hi
      · have hik : i ≠ k := by omega
        exact RtxG_c (F _ (by unfold txA; omega)) (F _ (by unfold txA; omega)) (F _ (by unfold txA; omega)) (J i hik).1 (J i hik).2.1 (J i hik).2.2.1 (J i hik).2.2.2 (R3 i hi)
      · have hi16 : i < 16 := by have := hls 1 (by decide); omega
        exact RmtG_c (F _ (by unfold txA; omega)) (fun _ _ => (congrFun (G 5 (by decide)) _)) (congrFun (G 6 (by decide)) _) (congrFun (G 7 (by decide)) _) hmono (R4 i hi)
      · have hi16 : i < 16 := by have := hls 2 (by decide); omega
        exact RmsG_c (fun e he => (F _ (by unfold txA msA; omega))) (congrFun (G 8 (by decide)) _) (congrFun (G 9 (by decide)) _) (congrFun (G 10 (by decide)) _) (fun _ _ => ⟨(congrFun (G 11 (by decide)) _), (congrFun (G 12 (by decide)) _), (congrFun (G 14 (by decide)) _), fun _ => (congrFun (G 13 (by decide)) _)⟩) hmono (R5 i hi)
      · have hi48 : i < 48 := by have := hls 3 (by decide); omega
        exact RndG_c (fun _ _ => congrFun (F _ (by unfold txA ndA; omega)) _) (F _ (by unfold txA ndA; omega)) (congrFun (G 15 (by decide)) _) (congrFun (G 16 (by decide)) _) (congrFun (G 20 (by decide)) _) (fun _ _ => ⟨(congrFun (G 17 (by decide)) _), (congrFun (G 18 (by decide)) _), (congrFun (G 19 (by decide)) _)⟩) hmono (R6 i hi)
      · have hi32 : i < 32 := by have := hls 4 (by decide); omega
        exact RtkG_c (fun e he => (F _ (by unfold txA tkA; omega))) (congrFun (G 21 (by decide)) _) (congrFun (G 22 (by decide)) _) (congrFun (G 23 (by decide)) _) (congrFun (G 24 (by decide)) _) (fun _ _ => ⟨(congrFun (G 26 (by decide)) _), fun _ => (congrFun (G 25 (by decide)) _)⟩) hmono (R7 i hi)
    · have kz : (nI 1 = 0) = False := eq_false (by decide)
      have kz1 : (nI 1 = 1) = True := eq_true rfl
      have hk48 : k < 16 := by omega
      have cq : (nI 1 < 0 ∨ 5 ≤ (nI 1).toNatClampNeg) = False := c5
      simp (disch := first | assumption | omega) only [↓zS_s0, ↓zS_s1, ↓zS_s2, ↓zS_s3, ↓zS_s20, ↓zS_s21, ↓zS_s22, ↓zS_s23, ↓zS_s24, ↓zS_s25, ↓zS_smt, ↓zS_txA, ↓zS_txA1, ↓zS_txA2, ↓zS_msA, ↓zS_msA1, ↓zS_msA2, ↓zS_msA3, ↓zS_msA4, ↓zS_ndA, ↓zS_ndA1, ↓zS_ndA2, ↓zS_tkA, ↓zS_tkA1, ↓zS_tkA2, ↓zS_0, ↓zS_1, ↓zS_2, ↓zS_3, ↓zS_4, ↓zS_5, ↓zS_6, ↓zS_7, ↓zS_8, ↓zS_9, ↓zS_10, ↓zS_1121, ↓zS_1122, ↓zS_1123, ↓zS_1124, ↓zS_1125, ↓zS_1126, ↓zS_1175, ↓zS_1176, ↓zS_1177, ↓zS_1178, ↓zS_1179, ↓zS_1180, ↓zS_1181, ↓zS_1182, ↓zS_1183, ↓zS_1184, ↓zS_1185, ↓zS_1186, ↓zS_1277, ↓zS_1278, ↓zS_1279, ↓zS_1280, ↓zS_1281, ↓zS_1282, ↓zS_1283, ↓zS_1284, ↓zS_1285, ↓zS_1302, ↓zS_1286, ↓zS_1287, ↓zS_1288, ↓zS_1289, ↓zS_1290, ↓zS_1291, ↓zS_1292, ↓zS_1293, ↓zS_1294, ↓zS_1295, ↓zS_1296, ↓zS_1297, ↓zS_1298, ↓zS_1299, ↓zS_1300, ↓zS_1301, ↓zS_sg, ↓zS_m0, ↓zS_m1, ↓zS_m2, ↓zS_m3, ↓zS_m4, ↓zS_m5, ↓zS_m6, ↓zS_m7, ↓zS_m8, ↓zS_m9, ↓zS_m10, ↓zS_m11, ↓zS_m12, ↓zS_m13, ↓zS_m14, ↓zS_m15, ↓zS_m16, ↓zS_m17, ↓zS_m18, ↓zS_m19, ↓zS_m20, ↓zS_m21, ↓zS_m22, ↓zS_m23, ↓zS_m24, ↓zS_m25, ↓zS_m26, ↓zS_m27, ↓zS_m28, ↓zS_m29, ↓bf_0_2, ↓bf_0_4, ↓bf_0_6, ↓bf_0_7, ↓bf_0_8, ↓bf_0_9, ↓bf_3_2, ↓bf_5_0, ↓bf_5_2, ↓bf_5_3, ↓bf_5_5, ↓bf_5_6, ↓bf_1121_0, ↓bf_1121_8, ↓bf_1121_9, ↓bf_1121_10, ↓bf_1121_13, ↓bf_1122_1, ↓bf_1181_1, ↓bf_1178_1, ↓bf_1178_2, ↓bf_1178_8, ↓bf_1178_9, ↓bf_1178_11, ↓bf_1185_2, ↓bf_1185_4, ↓bf_1185_5, ↓bf_1185_6, ↓bf_1185_7, ↓bf_1185_8, ↓bf_1185_9, ↓bf_1185_14, ↓bf_1185_16, ↓bf_1185_17, ↓bf_1185_18, ↓bf_1277_0, ↓bf_1277_1, ↓bf_1278_0, ↓bf_1278_2, ↓bf_1285_3, ↓bf_1285_4, ↓bf_1285_14, ↓bf_1285_15, ↓bf_1285_16, ↓bf_1285_17, ↓bf_1285_18, ↓bf_1285_19, ↓bf_1285_20, ↓bf_1285_21, ↓bf_1285_22, ↓bf_1285_23, ↓bf_1285_24, ↓bf_1285_25, ↓bf_1285_27, ↓bf_1285_28, ↓bf_1285_29, ↓bf_1285_30, ↓bf_2, ↓bf_2_, ↓bf_1126, ↓bf_1126_, ↓bf_s0, ↓bf_s1, ↓bf_s2, ↓bf_s3, ↓bf_s4, ↓bf_s5, ↓bf_s6, ↓bf_s7, ↓bf_s10, ↓bf_tx, ↓bf_tx_, ↓bf_mt, ↓bf_mt_, ↓bf_ms, ↓bf_ms_, ↓bf_nd, ↓bf_nd_, ↓bf_tk, ↓bf_tk_, ↓bf_txA4, ↓bf_txA5, ↓bf_msA3, ↓bf_msA4, ↓bf_msA5, ↓bf_msA6, ↓bf_ndA4, ↓bf_ndA5, ↓bf_tkA4, ↓bf_tkA5, ↓bf_m5, ↓bf_m6, ↓bf_m7, ↓bf_m8, ↓bf_m9, ↓bf_m10, ↓bf_m11, ↓bf_m12, ↓bf_m13, ↓bf_m14, ↓bf_m15, ↓bf_m16, ↓bf_m17, ↓bf_m18, ↓bf_m19, ↓bf_m20, ↓bf_m21, ↓bf_m22, ↓bf_m23, ↓bf_m24, ↓bf_m25, ↓bf_m26, ↓bf_m27, ↓bf_m28, ↓bf_m29, ↓bf_m30, ↓bf_m31, ↓bf_m32, ↓bf_m33, mI_R, sI_R, sL_R, ↓zob_h h17, h17, kz, kz1, nI_1, ↓zoL_e, ↓zob_e, ↓reduceIte, zoS_e, zob_e, nI_lt0, nI_lt00, nI_cl, nle_f, or_self, or_false, false_or]
      unfold sThing
      simp only [show ((1 : Nat) = 0) = False from eq_false (by decide), ↓reduceIte]
      refine ocL_k (q_mat h1 (k := k) (g := g) (by omega) (show cn g 0 ≤ 8 by have := hls 0 (by decide); omega) (hcs 0 (by decide)) (hgs 0 (by decide))) (fun a m2 _ hx => ?_)
      obtain ⟨f2, h2, F, N, NW, G, J⟩ := hx
      have hR2 := rdQ_R h2
      have hmono : ∀ {d : Nat}, (g 0 d).toInt ≤ (a.1 0 d).toInt := fun {d} => by rw [G 0 (by decide)]; exact Int.le_refl _
      refine q_thEnd (c := 1) (by decide) hs h2 (show rem < fu by omega) (RscG_more hs (by decide) ⟨R1, R2, R3, R4, R5, R6, R7, R8, R9⟩ hcn hkl (F _ (by omega)) (F _ (by omega)) (F _ (by omega)) (fun i hi => ?_) (G 0 (by decide)) (G 27 (by decide)) (G 28 (by decide)) (G 29 (by decide)) (fun i hi => ?_) (fun i hi => ?_) (fun i hi => ?_) (fun i hi => ?_) (fun i hi => ?_) (fun e => absurd e (by decide)) (fun e => ⟨N, NW⟩) (fun e => absurd e (by decide)) (fun e => absurd e (by decide)) (fun e => absurd e (by decide))) ih' 
      · rw [F _ (by unfold txA; omega)]
        exact R2 i hi
      · have hi8 : i < 8 := by have := hls 0 (by decide); omega
        exact RtxG_c (F _ (by unfold txA; omega)) (F _ (by unfold txA; omega)) (F _ (by unfold txA; omega)) (congrFun (G 1 (by decide)) _) (congrFun (G 2 (by decide)) _) (congrFun (G 3 (by decide)) _) (fun _ _ => (congrFun (G 4 (by decide)) _)) (R3 i hi)
      · have hik : i ≠ k := by omega
        exact RmtG_c (F _ (by omega)) (J i hik).2.2 (J i hik).1 (J i hik).2.1 hmono (R4 i hi)
      · have hi16 : i < 16 := by have := hls 2 (by decide); omega
        exact RmsG_c (fun e he => (F _ (by unfold msA; omega))) (congrFun (G 8 (by decide)) _) (congrFun (G 9 (by decide)) _) (congrFun (G 10 (by decide)) _) (fun _ _ => ⟨(congrFun (G 11 (by decide)) _), (congrFun (G 12 (by decide)) _), (congrFun (G 14 (by decide)) _), fun _ => (congrFun (G 13 (by decide)) _)⟩) hmono (R5 i hi)
      · have hi48 : i < 48 := by have := hls 3 (by decide); omega
        exact RndG_c (fun _ _ => congrFun (F _ (by unfold ndA; omega)) _) (F _ (by unfold ndA; omega)) (congrFun (G 15 (by decide)) _) (congrFun (G 16 (by decide)) _) (congrFun (G 20 (by decide)) _) (fun _ _ => ⟨(congrFun (G 17 (by decide)) _), (congrFun (G 18 (by decide)) _), (congrFun (G 19 (by decide)) _)⟩) hmono (R6 i hi)
      · have hi32 : i < 32 := by have := hls 4 (by decide); omega
        exact RtkG_c (fun e he => (F _ (by unfold tkA; omega))) (congrFun (G 21 (by decide)) _) (congrFun (G 22 (by decide)) _) (congrFun (G 23 (by decide)) _) (congrFun (G 24 (by decide)) _) (fun _ _ => ⟨(congrFun (G 26 (by decide)) _), fun _ => (congrFun (G 25 (by decide)) _)⟩) hmono (R7 i hi)
    · have kz : (nI 2 = 0) = False := eq_false (by decide)
      have kz1 : (nI 2 = 1) = False := eq_false (by decide)
      have kz2 : (nI 2 = 2) = True := eq_true rfl
      have hk48 : k < 16 := by omega
      have cq : (nI 2 < 0 ∨ 5 ≤ (nI 2).toNatClampNeg) = False := c5
      simp (disch := first | assumption | omega) only [↓zS_s0, ↓zS_s1, ↓zS_s2, ↓zS_s3, ↓zS_s20, ↓zS_s21, ↓zS_s22, ↓zS_s23, ↓zS_s24, ↓zS_s25, ↓zS_smt, ↓zS_txA, ↓zS_txA1, ↓zS_txA2, ↓zS_msA, ↓zS_msA1, ↓zS_msA2, ↓zS_msA3, ↓zS_msA4, ↓zS_ndA, ↓zS_ndA1, ↓zS_ndA2, ↓zS_tkA, ↓zS_tkA1, ↓zS_tkA2, ↓zS_0, ↓zS_1, ↓zS_2, ↓zS_3, ↓zS_4, ↓zS_5, ↓zS_6, ↓zS_7, ↓zS_8, ↓zS_9, ↓zS_10, ↓zS_1121, ↓zS_1122, ↓zS_1123, ↓zS_1124, ↓zS_1125, ↓zS_1126, ↓zS_1175, ↓zS_1176, ↓zS_1177, ↓zS_1178, ↓zS_1179, ↓zS_1180, ↓zS_1181, ↓zS_1182, ↓zS_1183, ↓zS_1184, ↓zS_1185, ↓zS_1186, ↓zS_1277, ↓zS_1278, ↓zS_1279, ↓zS_1280, ↓zS_1281, ↓zS_1282, ↓zS_1283, ↓zS_1284, ↓zS_1285, ↓zS_1302, ↓zS_1286, ↓zS_1287, ↓zS_1288, ↓zS_1289, ↓zS_1290, ↓zS_1291, ↓zS_1292, ↓zS_1293, ↓zS_1294, ↓zS_1295, ↓zS_1296, ↓zS_1297, ↓zS_1298, ↓zS_1299, ↓zS_1300, ↓zS_1301, ↓zS_sg, ↓zS_m0, ↓zS_m1, ↓zS_m2, ↓zS_m3, ↓zS_m4, ↓zS_m5, ↓zS_m6, ↓zS_m7, ↓zS_m8, ↓zS_m9, ↓zS_m10, ↓zS_m11, ↓zS_m12, ↓zS_m13, ↓zS_m14, ↓zS_m15, ↓zS_m16, ↓zS_m17, ↓zS_m18, ↓zS_m19, ↓zS_m20, ↓zS_m21, ↓zS_m22, ↓zS_m23, ↓zS_m24, ↓zS_m25, ↓zS_m26, ↓zS_m27, ↓zS_m28, ↓zS_m29, ↓bf_0_2, ↓bf_0_4, ↓bf_0_6, ↓bf_0_7, ↓bf_0_8, ↓bf_0_9, ↓bf_3_2, ↓bf_5_0, ↓bf_5_2, ↓bf_5_3, ↓bf_5_5, ↓bf_5_6, ↓bf_1121_0, ↓bf_1121_8, ↓bf_1121_9, ↓bf_1121_10, ↓bf_1121_13, ↓bf_1122_1, ↓bf_1181_1, ↓bf_1178_1, ↓bf_1178_2, ↓bf_1178_8, ↓bf_1178_9, ↓bf_1178_11, ↓bf_1185_2, ↓bf_1185_4, ↓bf_1185_5, ↓bf_1185_6, ↓bf_1185_7, ↓bf_1185_8, ↓bf_1185_9, ↓bf_1185_14, ↓bf_1185_16, ↓bf_1185_17, ↓bf_1185_18, ↓bf_1277_0, ↓bf_1277_1, ↓bf_1278_0, ↓bf_1278_2, ↓bf_1285_3, ↓bf_1285_4, ↓bf_1285_14, ↓bf_1285_15, ↓bf_1285_16, ↓bf_1285_17, ↓bf_1285_18, ↓bf_1285_19, ↓bf_1285_20, ↓bf_1285_21, ↓bf_1285_22, ↓bf_1285_23, ↓bf_1285_24, ↓bf_1285_25, ↓bf_1285_27, ↓bf_1285_28, ↓bf_1285_29, ↓bf_1285_30, ↓bf_2, ↓bf_2_, ↓bf_1126, ↓bf_1126_, ↓bf_s0, ↓bf_s1, ↓bf_s2, ↓bf_s3, ↓bf_s4, ↓bf_s5, ↓bf_s6, ↓bf_s7, ↓bf_s10, ↓bf_tx, ↓bf_tx_, ↓bf_mt, ↓bf_mt_, ↓bf_ms, ↓bf_ms_, ↓bf_nd, ↓bf_nd_, ↓bf_tk, ↓bf_tk_, ↓bf_txA4, ↓bf_txA5, ↓bf_msA3, ↓bf_msA4, ↓bf_msA5, ↓bf_msA6, ↓bf_ndA4, ↓bf_ndA5, ↓bf_tkA4, ↓bf_tkA5, ↓bf_m5, ↓bf_m6, ↓bf_m7, ↓bf_m8, ↓bf_m9, ↓bf_m10, ↓bf_m11, ↓bf_m12, ↓bf_m13, ↓bf_m14, ↓bf_m15, ↓bf_m16, ↓bf_m17, ↓bf_m18, ↓bf_m19, ↓bf_m20, ↓bf_m21, ↓bf_m22, ↓bf_m23, ↓bf_m24, ↓bf_m25, ↓bf_m26, ↓bf_m27, ↓bf_m28, ↓bf_m29, ↓bf_m30, ↓bf_m31, ↓bf_m32, ↓bf_m33, mI_R, sI_R, sL_R, ↓zob_h h17, h17, kz, kz1, kz2, nI_1, ↓zoL_e, ↓zob_e, ↓reduceIte, zoS_e, zob_e, nI_lt0, nI_lt00, nI_cl, nle_f, or_self, or_false, false_or]
      unfold sThing
      simp only [show ((2 : Nat) = 0) = False from eq_false (by decide), show ((2 : Nat) = 1) = False from eq_false (by decide), ↓reduceIte]
      refine ocL_k (q_mesh h1 (k := k) (g := g) (by omega) (show cn g 1 ≤ 16 by have := hls 1 (by decide); omega) (hcs 1 (by decide)) (hgs 1 (by decide))) (fun a m2 _ hx => ?_)
      obtain ⟨f2, h2, F, N, NW, G, J⟩ := hx
      have hR2 := rdQ_R h2
      have hmono : ∀ {d : Nat}, (g 0 d).toInt ≤ (a.1 0 d).toInt := fun {d} => by rw [G 0 (by decide)]; exact Int.le_refl _
      refine q_thEnd (c := 2) (by decide) hs h2 (show rem < fu by omega) (RscG_more hs (by decide) ⟨R1, R2, R3, R4, R5, R6, R7, R8, R9⟩ hcn hkl (F _ (by unfold msA; omega)) (F _ (by unfold msA; omega)) (F _ (by unfold msA; omega)) (fun i hi => ?_) (G 0 (by decide)) (G 27 (by decide)) (G 28 (by decide)) (G 29 (by decide)) (fun i hi => ?_) (fun i hi => ?_) (fun i hi => ?_) (fun i hi => ?_) (fun i hi => ?_) (fun e => absurd e (by decide)) (fun e => absurd e (by decide)) (fun e => ⟨N, NW⟩) (fun e => absurd e (by decide)) (fun e => absurd e (by decide))) ih' 
      · rw [F _ (by unfold msA txA; omega)]
        exact R2 i hi
      · have hi8 : i < 8 := by have := hls 0 (by decide); omega
        exact RtxG_c (F _ (by unfold msA txA; omega)) (F _ (by unfold msA txA; omega)) (F _ (by unfold msA txA; omega)) (congrFun (G 1 (by decide)) _) (congrFun (G 2 (by decide)) _) (congrFun (G 3 (by decide)) _) (fun _ _ => (congrFun (G 4 (by decide)) _)) (R3 i hi)
      · have hi16 : i < 16 := by have := hls 1 (by decide); omega
        exact RmtG_c (F _ (by unfold msA; omega)) (fun _ _ => (congrFun (G 5 (by decide)) _)) (congrFun (G 6 (by decide)) _) (congrFun (G 7 (by decide)) _) hmono (R4 i hi)
      · have hik : i ≠ k := by omega
        exact RmsG_c (fun e he => (F _ (by unfold msA; omega))) (J i hik).1 (J i hik).2.1 (J i hik).2.2.1 (J i hik).2.2.2 hmono (R5 i hi)
      · have hi48 : i < 48 := by have := hls 3 (by decide); omega
        exact RndG_c (fun _ _ => congrFun (F _ (by unfold msA ndA; omega)) _) (F _ (by unfold msA ndA; omega)) (congrFun (G 15 (by decide)) _) (congrFun (G 16 (by decide)) _) (congrFun (G 20 (by decide)) _) (fun _ _ => ⟨(congrFun (G 17 (by decide)) _), (congrFun (G 18 (by decide)) _), (congrFun (G 19 (by decide)) _)⟩) hmono (R6 i hi)
      · have hi32 : i < 32 := by have := hls 4 (by decide); omega
        exact RtkG_c (fun e he => (F _ (by unfold msA tkA; omega))) (congrFun (G 21 (by decide)) _) (congrFun (G 22 (by decide)) _) (congrFun (G 23 (by decide)) _) (congrFun (G 24 (by decide)) _) (fun _ _ => ⟨(congrFun (G 26 (by decide)) _), fun _ => (congrFun (G 25 (by decide)) _)⟩) hmono (R7 i hi)
    · have kz : (nI 3 = 0) = False := eq_false (by decide)
      have kz1 : (nI 3 = 1) = False := eq_false (by decide)
      have kz2 : (nI 3 = 2) = False := eq_false (by decide)
      have kz3 : (nI 3 = 3) = True := eq_true rfl
      have hk48 : k < 48 := by omega
      have cq : (nI 3 < 0 ∨ 5 ≤ (nI 3).toNatClampNeg) = False := c5
      simp (disch := first | assumption | omega) only [↓zS_s0, ↓zS_s1, ↓zS_s2, ↓zS_s3, ↓zS_s20, ↓zS_s21, ↓zS_s22, ↓zS_s23, ↓zS_s24, ↓zS_s25, ↓zS_smt, ↓zS_txA, ↓zS_txA1, ↓zS_txA2, ↓zS_msA, ↓zS_msA1, ↓zS_msA2, ↓zS_msA3, ↓zS_msA4, ↓zS_ndA, ↓zS_ndA1, ↓zS_ndA2, ↓zS_tkA, ↓zS_tkA1, ↓zS_tkA2, ↓zS_0, ↓zS_1, ↓zS_2, ↓zS_3, ↓zS_4, ↓zS_5, ↓zS_6, ↓zS_7, ↓zS_8, ↓zS_9, ↓zS_10, ↓zS_1121, ↓zS_1122, ↓zS_1123, ↓zS_1124, ↓zS_1125, ↓zS_1126, ↓zS_1175, ↓zS_1176, ↓zS_1177, ↓zS_1178, ↓zS_1179, ↓zS_1180, ↓zS_1181, ↓zS_1182, ↓zS_1183, ↓zS_1184, ↓zS_1185, ↓zS_1186, ↓zS_1277, ↓zS_1278, ↓zS_1279, ↓zS_1280, ↓zS_1281, ↓zS_1282, ↓zS_1283, ↓zS_1284, ↓zS_1285, ↓zS_1302, ↓zS_1286, ↓zS_1287, ↓zS_1288, ↓zS_1289, ↓zS_1290, ↓zS_1291, ↓zS_1292, ↓zS_1293, ↓zS_1294, ↓zS_1295, ↓zS_1296, ↓zS_1297, ↓zS_1298, ↓zS_1299, ↓zS_1300, ↓zS_1301, ↓zS_sg, ↓zS_m0, ↓zS_m1, ↓zS_m2, ↓zS_m3, ↓zS_m4, ↓zS_m5, ↓zS_m6, ↓zS_m7, ↓zS_m8, ↓zS_m9, ↓zS_m10, ↓zS_m11, ↓zS_m12, ↓zS_m13, ↓zS_m14, ↓zS_m15, ↓zS_m16, ↓zS_m17, ↓zS_m18, ↓zS_m19, ↓zS_m20, ↓zS_m21, ↓zS_m22, ↓zS_m23, ↓zS_m24, ↓zS_m25, ↓zS_m26, ↓zS_m27, ↓zS_m28, ↓zS_m29, ↓bf_0_2, ↓bf_0_4, ↓bf_0_6, ↓bf_0_7, ↓bf_0_8, ↓bf_0_9, ↓bf_3_2, ↓bf_5_0, ↓bf_5_2, ↓bf_5_3, ↓bf_5_5, ↓bf_5_6, ↓bf_1121_0, ↓bf_1121_8, ↓bf_1121_9, ↓bf_1121_10, ↓bf_1121_13, ↓bf_1122_1, ↓bf_1181_1, ↓bf_1178_1, ↓bf_1178_2, ↓bf_1178_8, ↓bf_1178_9, ↓bf_1178_11, ↓bf_1185_2, ↓bf_1185_4, ↓bf_1185_5, ↓bf_1185_6, ↓bf_1185_7, ↓bf_1185_8, ↓bf_1185_9, ↓bf_1185_14, ↓bf_1185_16, ↓bf_1185_17, ↓bf_1185_18, ↓bf_1277_0, ↓bf_1277_1, ↓bf_1278_0, ↓bf_1278_2, ↓bf_1285_3, ↓bf_1285_4, ↓bf_1285_14, ↓bf_1285_15, ↓bf_1285_16, ↓bf_1285_17, ↓bf_1285_18, ↓bf_1285_19, ↓bf_1285_20, ↓bf_1285_21, ↓bf_1285_22, ↓bf_1285_23, ↓bf_1285_24, ↓bf_1285_25, ↓bf_1285_27, ↓bf_1285_28, ↓bf_1285_29, ↓bf_1285_30, ↓bf_2, ↓bf_2_, ↓bf_1126, ↓bf_1126_, ↓bf_s0, ↓bf_s1, ↓bf_s2, ↓bf_s3, ↓bf_s4, ↓bf_s5, ↓bf_s6, ↓bf_s7, ↓bf_s10, ↓bf_tx, ↓bf_tx_, ↓bf_mt, ↓bf_mt_, ↓bf_ms, ↓bf_ms_, ↓bf_nd, ↓bf_nd_, ↓bf_tk, ↓bf_tk_, ↓bf_txA4, ↓bf_txA5, ↓bf_msA3, ↓bf_msA4, ↓bf_msA5, ↓bf_msA6, ↓bf_ndA4, ↓bf_ndA5, ↓bf_tkA4, ↓bf_tkA5, ↓bf_m5, ↓bf_m6, ↓bf_m7, ↓bf_m8, ↓bf_m9, ↓bf_m10, ↓bf_m11, ↓bf_m12, ↓bf_m13, ↓bf_m14, ↓bf_m15, ↓bf_m16, ↓bf_m17, ↓bf_m18, ↓bf_m19, ↓bf_m20, ↓bf_m21, ↓bf_m22, ↓bf_m23, ↓bf_m24, ↓bf_m25, ↓bf_m26, ↓bf_m27, ↓bf_m28, ↓bf_m29, ↓bf_m30, ↓bf_m31, ↓bf_m32, ↓bf_m33, mI_R, sI_R, sL_R, ↓zob_h h17, h17, kz, kz1, kz2, kz3, nI_1, ↓zoL_e, ↓zob_e, ↓reduceIte, zoS_e, zob_e, nI_lt0, nI_lt00, nI_cl, nle_f, or_self, or_false, false_or]
      unfold sThing
      simp only [show ((3 : Nat) = 0) = False from eq_false (by decide), show ((3 : Nat) = 1) = False from eq_false (by decide), show ((3 : Nat) = 2) = False from eq_false (by decide), ↓reduceIte]
      refine ocL_k (q_node h1 (k := k) (g := g) (by omega) (show cn g 2 ≤ 16 by have := hls 2 (by decide); omega) (hcs 2 (by decide)) (hgs 2 (by decide))) (fun a m2 _ hx => ?_)
      obtain ⟨f2, h2, F, N, NW, G, J⟩ := hx
      have hR2 := rdQ_R h2
      have hmono : ∀ {d : Nat}, (g 0 d).toInt ≤ (a.1 0 d).toInt := fun {d} => by rw [G 0 (by decide)]; exact Int.le_refl _
      refine q_thEnd (c := 3) (by decide) hs h2 (show rem < fu by omega) (RscG_more hs (by decide) ⟨R1, R2, R3, R4, R5, R6, R7, R8, R9⟩ hcn hkl (F _ (by unfold ndA; omega) (by unfold ndA; omega)) (F _ (by unfold ndA; omega) (by unfold ndA; omega)) (F _ (by unfold ndA; omega) (by unfold ndA; omega)) (fun i hi => ?_) (G 0 (by decide)) (G 27 (by decide)) (G 28 (by decide)) (G 29 (by decide)) (fun i hi => ?_) (fun i hi => ?_) (fun i hi => ?_) (fun i hi => ?_) (fun i hi => ?_) (fun e => absurd e (by decide)) (fun e => absurd e (by decide)) (fun e => absurd e (by decide)) (fun e => ⟨N, NW⟩) (fun e => absurd e (by decide))) ih' 
      · rw [F _ (by unfold ndA txA; omega) (by unfold ndA txA; omega)]
        exact R2 i hi
      · have hi8 : i < 8 := by have := hls 0 (by decide); omega
        exact RtxG_c (F _ (by unfold ndA txA; omega) (by unfold ndA txA; omega)) (F _ (by unfold ndA txA; omega) (by unfold ndA txA; omega)) (F _ (by unfold ndA txA; omega) (by unfold ndA txA; omega)) (congrFun (G 1 (by decide)) _) (congrFun (G 2 (by decide)) _) (congrFun (G 3 (by decide)) _) (fun _ _ => (congrFun (G 4 (by decide)) _)) (R3 i hi)
      · have hi16 : i < 16 := by have := hls 1 (by decide); omega
        exact RmtG_c (F _ (by unfold ndA; omega) (by unfold ndA; omega)) (fun _ _ => (congrFun (G 5 (by decide)) _)) (congrFun (G 6 (by decide)) _) (congrFun (G 7 (by decide)) _) hmono (R4 i hi)
      · have hi16 : i < 16 := by have := hls 2 (by decide); omega
        exact RmsG_c (fun e he => (F _ (by unfold ndA msA; omega) (by unfold ndA msA; omega))) (congrFun (G 8 (by decide)) _) (congrFun (G 9 (by decide)) _) (congrFun (G 10 (by decide)) _) (fun _ _ => ⟨(congrFun (G 11 (by decide)) _), (congrFun (G 12 (by decide)) _), (congrFun (G 14 (by decide)) _), fun _ => (congrFun (G 13 (by decide)) _)⟩) hmono (R5 i hi)
      · have hik : i ≠ k := by omega
        exact RndG_c (fun _ _ => congrFun (F _ (by unfold ndA; omega) (by unfold ndA; omega)) _) (F _ (by unfold ndA; omega) (by unfold ndA; omega)) (J i hik).1 (J i hik).2.1 (J i hik).2.2.1 (J i hik).2.2.2 hmono (R6 i hi)
      · have hi32 : i < 32 := by have := hls 4 (by decide); omega
        exact RtkG_c (fun e he => (F _ (by unfold ndA tkA; omega) (by unfold ndA tkA; omega))) (congrFun (G 21 (by decide)) _) (congrFun (G 22 (by decide)) _) (congrFun (G 23 (by decide)) _) (congrFun (G 24 (by decide)) _) (fun _ _ => ⟨(congrFun (G 26 (by decide)) _), fun _ => (congrFun (G 25 (by decide)) _)⟩) hmono (R7 i hi)
    · have kz : (nI 4 = 0) = False := eq_false (by decide)
      have kz1 : (nI 4 = 1) = False := eq_false (by decide)
      have kz2 : (nI 4 = 2) = False := eq_false (by decide)
      have kz3 : (nI 4 = 3) = False := eq_false (by decide)
      have hk48 : k < 32 := by omega
      have cq : (nI 4 < 0 ∨ 5 ≤ (nI 4).toNatClampNeg) = False := c5
      simp (disch := first | assumption | omega) only [↓zS_s0, ↓zS_s1, ↓zS_s2, ↓zS_s3, ↓zS_s20, ↓zS_s21, ↓zS_s22, ↓zS_s23, ↓zS_s24, ↓zS_s25, ↓zS_smt, ↓zS_txA, ↓zS_txA1, ↓zS_txA2, ↓zS_msA, ↓zS_msA1, ↓zS_msA2, ↓zS_msA3, ↓zS_msA4, ↓zS_ndA, ↓zS_ndA1, ↓zS_ndA2, ↓zS_tkA, ↓zS_tkA1, ↓zS_tkA2, ↓zS_0, ↓zS_1, ↓zS_2, ↓zS_3, ↓zS_4, ↓zS_5, ↓zS_6, ↓zS_7, ↓zS_8, ↓zS_9, ↓zS_10, ↓zS_1121, ↓zS_1122, ↓zS_1123, ↓zS_1124, ↓zS_1125, ↓zS_1126, ↓zS_1175, ↓zS_1176, ↓zS_1177, ↓zS_1178, ↓zS_1179, ↓zS_1180, ↓zS_1181, ↓zS_1182, ↓zS_1183, ↓zS_1184, ↓zS_1185, ↓zS_1186, ↓zS_1277, ↓zS_1278, ↓zS_1279, ↓zS_1280, ↓zS_1281, ↓zS_1282, ↓zS_1283, ↓zS_1284, ↓zS_1285, ↓zS_1302, ↓zS_1286, ↓zS_1287, ↓zS_1288, ↓zS_1289, ↓zS_1290, ↓zS_1291, ↓zS_1292, ↓zS_1293, ↓zS_1294, ↓zS_1295, ↓zS_1296, ↓zS_1297, ↓zS_1298, ↓zS_1299, ↓zS_1300, ↓zS_1301, ↓zS_sg, ↓zS_m0, ↓zS_m1, ↓zS_m2, ↓zS_m3, ↓zS_m4, ↓zS_m5, ↓zS_m6, ↓zS_m7, ↓zS_m8, ↓zS_m9, ↓zS_m10, ↓zS_m11, ↓zS_m12, ↓zS_m13, ↓zS_m14, ↓zS_m15, ↓zS_m16, ↓zS_m17, ↓zS_m18, ↓zS_m19, ↓zS_m20, ↓zS_m21, ↓zS_m22, ↓zS_m23, ↓zS_m24, ↓zS_m25, ↓zS_m26, ↓zS_m27, ↓zS_m28, ↓zS_m29, ↓bf_0_2, ↓bf_0_4, ↓bf_0_6, ↓bf_0_7, ↓bf_0_8, ↓bf_0_9, ↓bf_3_2, ↓bf_5_0, ↓bf_5_2, ↓bf_5_3, ↓bf_5_5, ↓bf_5_6, ↓bf_1121_0, ↓bf_1121_8, ↓bf_1121_9, ↓bf_1121_10, ↓bf_1121_13, ↓bf_1122_1, ↓bf_1181_1, ↓bf_1178_1, ↓bf_1178_2, ↓bf_1178_8, ↓bf_1178_9, ↓bf_1178_11, ↓bf_1185_2, ↓bf_1185_4, ↓bf_1185_5, ↓bf_1185_6, ↓bf_1185_7, ↓bf_1185_8, ↓bf_1185_9, ↓bf_1185_14, ↓bf_1185_16, ↓bf_1185_17, ↓bf_1185_18, ↓bf_1277_0, ↓bf_1277_1, ↓bf_1278_0, ↓bf_1278_2, ↓bf_1285_3, ↓bf_1285_4, ↓bf_1285_14, ↓bf_1285_15, ↓bf_1285_16, ↓bf_1285_17, ↓bf_1285_18, ↓bf_1285_19, ↓bf_1285_20, ↓bf_1285_21, ↓bf_1285_22, ↓bf_1285_23, ↓bf_1285_24, ↓bf_1285_25, ↓bf_1285_27, ↓bf_1285_28, ↓bf_1285_29, ↓bf_1285_30, ↓bf_2, ↓bf_2_, ↓bf_1126, ↓bf_1126_, ↓bf_s0, ↓bf_s1, ↓bf_s2, ↓bf_s3, ↓bf_s4, ↓bf_s5, ↓bf_s6, ↓bf_s7, ↓bf_s10, ↓bf_tx, ↓bf_tx_, ↓bf_mt, ↓bf_mt_, ↓bf_ms, ↓bf_ms_, ↓bf_nd, ↓bf_nd_, ↓bf_tk, ↓bf_tk_, ↓bf_txA4, ↓bf_txA5, ↓bf_msA3, ↓bf_msA4, ↓bf_msA5, ↓bf_msA6, ↓bf_ndA4, ↓bf_ndA5, ↓bf_tkA4, ↓bf_tkA5, ↓bf_m5, ↓bf_m6, ↓bf_m7, ↓bf_m8, ↓bf_m9, ↓bf_m10, ↓bf_m11, ↓bf_m12, ↓bf_m13, ↓bf_m14, ↓bf_m15, ↓bf_m16, ↓bf_m17, ↓bf_m18, ↓bf_m19, ↓bf_m20, ↓bf_m21, ↓bf_m22, ↓bf_m23, ↓bf_m24, ↓bf_m25, ↓bf_m26, ↓bf_m27, ↓bf_m28, ↓bf_m29, ↓bf_m30, ↓bf_m31, ↓bf_m32, ↓bf_m33, mI_R, sI_R, sL_R, ↓zob_h h17, h17, kz, kz1, kz2, kz3, nI_1, ↓zoL_e, ↓zob_e, ↓reduceIte, zoS_e, zob_e, nI_lt0, nI_lt00, nI_cl, nle_f, or_self, or_false, false_or]
      unfold sThing
      simp only [show ((4 : Nat) = 0) = False from eq_false (by decide), show ((4 : Nat) = 1) = False from eq_false (by decide), show ((4 : Nat) = 2) = False from eq_false (by decide), show ((4 : Nat) = 3) = False from eq_false (by decide), ↓reduceIte]
      refine ocL_k (q_track h1 (k := k) (g := g) (by omega) (show cn g 3 ≤ 48 by have := hls 3 (by decide); omega) (hcs 3 (by decide)) (hgs 3 (by decide))) (fun a m2 _ hx => ?_)
      obtain ⟨f2, h2, F, N, NW, G, J⟩ := hx
      have hR2 := rdQ_R h2
      have hmono : ∀ {d : Nat}, (g 0 d).toInt ≤ (a.1 0 d).toInt := fun {d} => by rw [G 0 (by decide)]; exact Int.le_refl _
      refine q_thEnd (c := 4) (by decide) hs h2 (show rem < fu by omega) (RscG_more hs (by decide) ⟨R1, R2, R3, R4, R5, R6, R7, R8, R9⟩ hcn hkl (F _ (by unfold tkA; omega)) (F _ (by unfold tkA; omega)) (F _ (by unfold tkA; omega)) (fun i hi => ?_) (G 0 (by decide)) (G 27 (by decide)) (G 28 (by decide)) (G 29 (by decide)) (fun i hi => ?_) (fun i hi => ?_) (fun i hi => ?_) (fun i hi => ?_) (fun i hi => ?_) (fun e => absurd e (by decide)) (fun e => absurd e (by decide)) (fun e => absurd e (by decide)) (fun e => absurd e (by decide)) (fun e => ⟨N, NW⟩)) ih' 
      · rw [F _ (by unfold tkA txA; omega)]
        exact R2 i hi
      · have hi8 : i < 8 := by have := hls 0 (by decide); omega
        exact RtxG_c (F _ (by unfold tkA txA; omega)) (F _ (by unfold tkA txA; omega)) (F _ (by unfold tkA txA; omega)) (congrFun (G 1 (by decide)) _) (congrFun (G 2 (by decide)) _) (congrFun (G 3 (by decide)) _) (fun _ _ => (congrFun (G 4 (by decide)) _)) (R3 i hi)
      · have hi16 : i < 16 := by have := hls 1 (by decide); omega
        exact RmtG_c (F _ (by unfold tkA; omega)) (fun _ _ => (congrFun (G 5 (by decide)) _)) (congrFun (G 6 (by decide)) _) (congrFun (G 7 (by decide)) _) hmono (R4 i hi)
      · have hi16 : i < 16 := by have := hls 2 (by decide); omega
        exact RmsG_c (fun e he => (F _ (by unfold tkA msA; omega))) (congrFun (G 8 (by decide)) _) (congrFun (G 9 (by decide)) _) (congrFun (G 10 (by decide)) _) (fun _ _ => ⟨(congrFun (G 11 (by decide)) _), (congrFun (G 12 (by decide)) _), (congrFun (G 14 (by decide)) _), fun _ => (congrFun (G 13 (by decide)) _)⟩) hmono (R5 i hi)
      · have hi48 : i < 48 := by have := hls 3 (by decide); omega
        exact RndG_c (fun _ _ => congrFun (F _ (by unfold tkA ndA; omega)) _) (F _ (by unfold tkA ndA; omega)) (congrFun (G 15 (by decide)) _) (congrFun (G 16 (by decide)) _) (congrFun (G 20 (by decide)) _) (fun _ _ => ⟨(congrFun (G 17 (by decide)) _), (congrFun (G 18 (by decide)) _), (congrFun (G 19 (by decide)) _)⟩) hmono (R6 i hi)
      · have hik : i ≠ k := by omega
        exact RtkG_c (fun e he => (F _ (by unfold tkA; omega))) (J i hik).1 (J i hik).2.1 (J i hik).2.2.1 (J i hik).2.2.2.1 (J i hik).2.2.2.2 hmono (R7 i hi)
end ZTH
