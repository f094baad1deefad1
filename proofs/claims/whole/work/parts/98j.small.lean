/-! PURE: the calls that leave the scene alone -/
section ZSM
variable {W H : Nat} {mm : zMem}
theorem wi_0 {v lo hi : Int32} : (sp_OB_within v lo hi = 0) ↔ (v.toInt < lo.toInt ∨ hi.toInt < v.toInt) := by
  unfold sp_OB_within
  by_cases a : v < lo
  · rw [if_pos a]
    rw [i32_lt] at a
    exact ⟨fun _ => Or.inl a, fun _ => rfl⟩
  · by_cases b : hi < v
    · rw [if_neg a, if_pos b]
      rw [i32_lt] at b
      exact ⟨fun _ => Or.inr b, fun _ => rfl⟩
    · rw [if_neg a, if_neg b]
      rw [i32_lt] at a b
      exact ⟨fun q => absurd q (by decide), fun q => by omega⟩
theorem ib_0 {v : Int32} : (sp_MD_isByte v = 0) ↔ (v.toInt < 0 ∨ 255 < v.toInt) := by
  have e : sp_MD_isByte v = sp_OB_within v 0 255 := rfl
  rw [e, wi_0]
  rfl
theorem aw_mw {x y z r : Int32} : sp_OB_allWithin x y z r = sp_MD_within x y z r := by
  unfold sp_OB_allWithin sp_MD_within sp_OB_within
  by_cases a1 : x < -r
  · simp [a1]
  by_cases a2 : r < x
  · simp [a1, a2]
  by_cases a3 : y < -r
  · simp [a1, a2, a3]
  by_cases a4 : r < y
  · simp [a1, a2, a3, a4]
  by_cases a5 : z < -r
  · simp [a1, a2, a3, a4, a5]
  by_cases a6 : r < z <;> simp [a1, a2, a3, a4, a5, a6]
theorem mw_n {x y z r : Int32} (h : ¬ sp_MD_within x y z r = 0) : ((-r).toInt ≤ x.toInt ∧ x.toInt ≤ r.toInt) ∧ ((-r).toInt ≤ y.toInt ∧ y.toInt ≤ r.toInt) ∧ ((-r).toInt ≤ z.toInt ∧ z.toInt ≤ r.toInt) := by
  unfold sp_MD_within at h
  generalize -r = q at h ⊢
  by_cases a1 : x < q
  · exact absurd (if_pos a1) h
  rw [if_neg a1] at h
  by_cases a2 : r < x
  · exact absurd (if_pos a2) h
  rw [if_neg a2] at h
  by_cases a3 : y < q
  · exact absurd (if_pos a3) h
  rw [if_neg a3] at h
  by_cases a4 : r < y
  · exact absurd (if_pos a4) h
  rw [if_neg a4] at h
  by_cases a5 : z < q
  · exact absurd (if_pos a5) h
  rw [if_neg a5] at h
  by_cases a6 : r < z
  · exact absurd (if_pos a6) h
  rw [i32_lt] at a1 a2 a3 a4 a5 a6
  omega
/-- a call of both -/
theorem law2 {A : Option (Int32 × zMem)} {B : zMem → Option (Int32 × zMem)} {Q : zMem → Prop} {v : Int32} {m1 m2 : zMem} (hA : A = some (v, m1)) (hB : B m1 = some (v, m2)) (hQ : Q m2) : zok (zoS (sh0 W H 0) 0 (fun _ => Option.bind A (fun p3 => zoS (sh0 W H 1185) 1 (fun _ => Option.bind (B p3.2) (fun p6 => if p3.1 = p6.1 then some p6.2 else none))))) Q := by
  rw [zoS_h sh_0, zob_h hA, zoS_h sh_1185, zob_h hB, if_pos rfl]
  exact zok_s hQ
/-- no cell of a scene changes -/
theorem PB_A {m z : zMem} (h : PB W H m) (h2 : z.2 = m.2) (F : ∀ a, a ≠ 0 → a ≠ 1185 → a ≠ 1 → a ≠ 1186 → a ≠ 1281 → z.1 a = m.1 a) (F0 : ∀ c, c < 2 → z.1 0 c = m.1 0 c ∧ z.1 1185 c = m.1 1185 c) (F10 : z.1 1185 10 = m.1 1185 10) (F15 : z.1 1185 15 = m.1 1185 15) (hT : vT z.1) (hO : vO z.1) : PB W H z ∧ agP m z := by
  obtain ⟨hR, hK, _, ⟨s, hs, h5, hsc, htm, hpl⟩, hQ, _, hP⟩ := h
  have hsd : ∀ b, s ≤ b → b < s + 370 → z.1 b = m.1 b := fun b b1 b2 => F b (by rcases hs with e | e | e <;> omega) (by rcases hs with e | e | e <;> omega) (by rcases hs with e | e | e <;> omega) (by rcases hs with e | e | e <;> omega) (by rcases hs with e | e | e <;> omega)
  have hrw : ∀ q, q < 30 → z.1 (1187 + q) = m.1 (1187 + q) := fun q hq => F _ (by omega) (by omega) (by omega) (by omega) (by omega)
  refine ⟨⟨by rw [h2]; exact hR, ?_, hT, ⟨s, hs, by rw [h2]; exact h5, Rsc_c (fun b b1 b2 => hsd b (by omega) b2) (fun c _ => congrFun (hrw 0 (by decide)) c) (fun j _ j2 q _ => congrFun (hrw j j2) q) hsc, by rw [hsd s (by omega) (by omega), F10]; exact htm, fun hp => ?_⟩, ?_, hO, by rw [h2]; exact hP⟩, by rw [h2], by rw [h2], by rw [h2], fun a ha => F a (by omega) (by omega) (by omega) (by omega) (by omega), F15, fun p hp a ha => ?_⟩
  · unfold vK at *
    rw [(F0 0 (by decide)).1, (F0 1 (by decide)).1, (F0 0 (by decide)).2, (F0 1 (by decide)).2, F 1121 (by decide) (by decide) (by decide) (by decide) (by decide), F 1178 (by decide) (by decide) (by decide) (by decide) (by decide), F 1285 (by decide) (by decide) (by decide) (by decide) (by decide)]
    exact hK
  · rw [hsd s (by omega) (by omega)] at hp
    have hcn : cn (fun a => z.1 (1187 + a)) 3 = cn (fun a => m.1 (1187 + a)) 3 := by
      unfold cn
      dsimp only
      rw [hrw 0 (by decide)]
    rw [hcn]
    have h48 := (hsc.1.1 3 (by decide)).2.2
    rw [lim_v.2.2.2.1] at h48
    exact Plc_c h48 (fun b b1 b2 => hsd b (by omega) b2) hrw (hpl hp)
  · intro t ht i hi
    rw [F _ (by unfold txA; omega) (by rcases ht with e | e | e <;> (unfold txA; omega)) (by unfold txA; omega) (by rcases ht with e | e | e <;> (unfold txA; omega)) (by rcases ht with e | e | e <;> (unfold txA; omega))]
    exact hQ t ht i hi
  · have hps := hP p hp
    exact F a (by rcases hps with e | e | e <;> omega) (by rcases hps with e | e | e <;> omega) (by rcases hps with e | e | e <;> omega) (by rcases hps with e | e | e <;> omega) (by rcases hps with e | e | e <;> omega)
theorem PB_11 {m : zMem} (h : PB W H m) : PB W H (mI m 1185 11 0) ∧ agP m (mI m 1185 11 0) := by
  have o : ∀ a, a ≠ 1185 → (mI m 1185 11 0).1 a = m.1 a := fun a ha => mI_o ha
  have c : ∀ c, c ≠ 11 → (mI m 1185 11 0).1 1185 c = m.1 1185 c := fun c hc => by rw [mI_v, if_pos rfl, if_neg hc]
  refine PB_A h rfl (fun a _ ha _ _ _ => o a ha) (fun c' hc => ⟨by rw [o 0 (by decide)], c c' (by omega)⟩) (c 10 (by decide)) (c 15 (by decide)) ?_ ?_
  · have hT := h.2.2.1
    unfold vT at *
    rw [o 1186 (by decide), o 1 (by decide), o 0 (by decide), c 3 (by decide)]
    exact hT
  · have hO := h.2.2.2.2.2.1
    unfold vO at *
    rw [o 3 (by decide), o 0 (by decide), o 1281 (by decide), o 5 (by decide), o 6 (by decide), o 1278 (by decide), o 1280 (by decide), c 12 (by decide), c 13 (by decide), c 19 (by decide)]
    exact hO
theorem s_error {x1 x2 x3 x4 x5 : Int32} (h : PB W H mm) : zok (lawS3 (sh0 W H) mm x1 x2 x3 x4 x5) (fun mq => PB W H mq ∧ agP mm mq) := by
  have hR := h.1
  obtain ⟨⟨o1, o2⟩, _⟩ := h.2.2.2.2.2.1
  unfold lawS3
  refine law2 (B := fun m => F_MD_error (sh0 W H) m 1185 x1) (v := if x1 = 0 then mm.1 3 0 else if x1 = 1 then mm.1 3 1 else 0) (m1 := mm) (m2 := mI mm 1185 11 0) ?_ ?_ (PB_11 h)
  · unfold F_OB_error
    by_cases e : x1 = 0
    · rw [if_pos e, if_pos e, zoS_h sh_0, zob_h (rf_0_6 hR), zoS_h sh_3]
    · rw [if_neg e, if_neg e]
      by_cases e1 : x1 = 1
      · rw [if_pos e1, if_pos e1, zoS_h sh_0, zob_h (rf_0_6 hR), zoS_h sh_3]
      · rw [if_neg e1, if_neg e1]
  · show F_MD_error (sh0 W H) mm 1185 x1 = _
    unfold F_MD_error
    rw [zoS_h sh_1185, zoL_e]
    by_cases e : x1 = 0
    · rw [if_pos e, if_pos e, zoS_h sh_1185, o1, mI_v, if_pos rfl, if_neg (by decide)]
    · rw [if_neg e, if_neg e]
      by_cases e1 : x1 = 1
      · rw [if_pos e1, if_pos e1, zoS_h sh_1185, o2, mI_v, if_pos rfl, if_neg (by decide)]
      · rw [if_neg e1, if_neg e1]
theorem s_picked {x1 x2 x3 x4 x5 : Int32} (h : PB W H mm) : zok (lawS18 (sh0 W H) mm x1 x2 x3 x4 x5) (fun mq => PB W H mq ∧ agP mm mq) := by
  obtain ⟨_, _, o3, _⟩ := h.2.2.2.2.2.1
  unfold lawS18
  refine law2 (B := fun m => F_MD_picked (sh0 W H) m 1185) (v := mm.1 0 11) (m1 := mm) (m2 := mI mm 1185 11 0) ?_ ?_ (PB_11 h)
  · unfold F_OB_picked
    rw [zoS_h sh_0]
  · show F_MD_picked (sh0 W H) mm 1185 = _
    unfold F_MD_picked
    rw [zoS_h sh_1185, zoL_e, zoS_h sh_1185, o3, mI_v, if_pos rfl, if_neg (by decide)]
theorem i32_cl {x : Int32} (h : 0 ≤ x.toInt) : x = nI x.toNatClampNeg ∧ (x.toNatClampNeg : Int) = x.toInt := by
  have q := Int32.toNat_toInt x
  have u := Int32.toInt_lt x
  exact ⟨i32_ext (by rw [nI_toInt (by omega)]; omega), by omega⟩
theorem s_byteAt {x1 x2 x3 x4 x5 : Int32} (h : PB W H mm) : zok (lawS20 (sh0 W H) mm x1 x2 x3 x4 x5) (fun mq => PB W H mq ∧ agP mm mq) := by
  have hR := h.1
  have hR1 : RF (mI mm 1185 11 0).2.2 := hR
  obtain ⟨_, _, _, z, hz, z1, z2, z3⟩ := h.2.2.2.2.2.1
  unfold lawS20
  have e1 : (1 : Int32).toInt = 1 := rfl
  have e0 : (0 : Int32).toInt = 0 := rfl
  have hz1 : (nI z - 1).toInt = z - 1 := by rw [i32_sub (by rw [nI_toInt (by omega), e1]; omega) (by rw [nI_toInt (by omega), e1]; omega), nI_toInt (by omega), e1]
  have hzz : (nI z).toInt = z := nI_toInt (by omega)
  by_cases hx : 0 ≤ x1.toInt ∧ x1.toInt < z
  · obtain ⟨k1, k2⟩ := i32_cl hx.1
    refine law2 (B := fun m => F_MD_byteAt (sh0 W H) m 1185 x1) (v := mm.1 6 x1.toNatClampNeg &&& 255) (m1 := mm) (m2 := mI mm 1185 11 0) ?_ ?_ (PB_11 h)
    · unfold F_OB_byteAt
      rw [zoS_h sh_0, zob_h (rf_0_9 hR), zoS_h sh_5, if_neg (by rw [wi_0, z1, hz1, e0]; omega), zoS_h sh_0, zob_h (rf_0_9 hR), zoS_h sh_5, zob_h (rf_5_0 hR), zoS_h sh_6, if_neg (by rw [i32_lt, e0]; omega)]
    · show F_MD_byteAt (sh0 W H) mm 1185 x1 = _
      unfold F_MD_byteAt
      rw [zoS_h sh_1185, zoL_e, if_neg (by rw [i32_lt, e0]; omega), zoS_h sh_1185, zob_h (rf_1185_9 hR1), zoS_h sh_1278, if_pos (by rw [i32_lt, mI_o (by decide), z2, hzz]; omega), zoS_h sh_1185, zob_h (rf_1185_9 hR1), zoS_h sh_1278, zob_h (rf_1278_2 hR1), zoS_h sh_1280, if_neg (by rw [i32_lt, e0]; omega), mI_o (by decide), z3 _ (by omega)]
  · refine law2 (B := fun m => F_MD_byteAt (sh0 W H) m 1185 x1) (v := -1) (m1 := mm) (m2 := mI mm 1185 11 0) ?_ ?_ (PB_11 h)
    · unfold F_OB_byteAt
      rw [zoS_h sh_0, zob_h (rf_0_9 hR), zoS_h sh_5, if_pos (by rw [wi_0, z1, hz1, e0]; omega)]
    · show F_MD_byteAt (sh0 W H) mm 1185 x1 = _
      unfold F_MD_byteAt
      rw [zoS_h sh_1185, zoL_e]
      by_cases k : x1 < 0
      · rw [if_pos k]
      · rw [if_neg k, zoS_h sh_1185, zob_h (rf_1185_9 hR1), zoS_h sh_1278, if_neg (by rw [i32_lt, e0] at k; rw [i32_lt, mI_o (by decide), z2, hzz]; omega)]
/-- a tape's end is moved -/
theorem s_end {x1 x2 x3 x4 x5 : Int32} (h : PB W H mm) : zok (lawS1 (sh0 W H) mm x1 x2 x3 x4 x5) (fun mq => PB W H mq ∧ agP mm mq) := by
  obtain ⟨t1, ⟨n, hn, t2, t3⟩, t4⟩ := h.2.2.1
  have e0 : (0 : Int32).toInt = 0 := rfl
  have hnn : (nI n).toInt = n := nI_toInt (by omega)
  unfold lawS1
  by_cases hx : 0 ≤ x1.toInt ∧ x1.toInt ≤ n
  · obtain ⟨k1, k2⟩ := i32_cl hx.1
    refine law2 (B := fun m => F_MD_end (sh0 W H) m 1185 x1) (v := 1) (m1 := mI mm 0 3 x1) (m2 := mI (mI (mI mm 0 3 x1) 1185 11 0) 1185 3 x1) ?_ ?_ ?_
    · unfold F_OB_end
      rw [if_neg (by rw [i32_lt, e0]; omega), zoS_h sh_0, if_pos (by rw [i32_le, t2, hnn]; omega), zoS_h sh_0, zoL_e]
    · show F_MD_end (sh0 W H) (mI mm 0 3 x1) 1185 x1 = _
      unfold F_MD_end
      rw [zoS_h sh_1185, zoL_e, if_neg (by rw [i32_lt, e0]; omega), zoS_h sh_1185, if_pos (by rw [i32_le, mI_v, if_pos rfl, if_neg (by decide), mI_o (by decide), t3, hnn]; omega), zoS_h sh_1185, zoL_e]
    · have c : ∀ c, c ≠ 11 → c ≠ 3 → (mI (mI (mI mm 0 3 x1) 1185 11 0) 1185 3 x1).1 1185 c = mm.1 1185 c := fun c h1 h2 => by rw [mI_v, if_pos rfl, if_neg h2, mI_v, if_pos rfl, if_neg h1, mI_o (by decide)]
      have d : ∀ c, c ≠ 3 → (mI (mI (mI mm 0 3 x1) 1185 11 0) 1185 3 x1).1 0 c = mm.1 0 c := fun c h1 => by rw [mI_o (by decide), mI_o (by decide), mI_v, if_pos rfl, if_neg h1]
      have o : ∀ a, a ≠ 0 → a ≠ 1185 → (mI (mI (mI mm 0 3 x1) 1185 11 0) 1185 3 x1).1 a = mm.1 a := fun a h0 h1 => by rw [mI_o h1, mI_o h1, mI_o h0]
      refine PB_A h rfl (fun a a0 a1 _ _ _ => o a a0 a1) (fun k hk => ⟨d k (by omega), c k (by omega) (by omega)⟩) (c 10 (by decide) (by decide)) (c 15 (by decide) (by decide)) ⟨by rw [o 1186 (by decide) (by decide), o 1 (by decide) (by decide)]; exact t1, ⟨x1.toNatClampNeg, by omega, ?_, ?_⟩, by rw [o 1 (by decide) (by decide)]; exact t4⟩ ?_
      · rw [mI_o (by decide), mI_o (by decide), mI_v, if_pos rfl, if_pos rfl]
        exact k1
      · rw [mI_v, if_pos rfl, if_pos rfl]
        exact k1
      · have hO := h.2.2.2.2.2.1
        unfold vO at *
        rw [o 3 (by decide) (by decide), d 10 (by decide), d 11 (by decide), o 1281 (by decide) (by decide), o 5 (by decide) (by decide), o 6 (by decide) (by decide), o 1278 (by decide) (by decide), o 1280 (by decide) (by decide), c 12 (by decide) (by decide), c 13 (by decide) (by decide), c 19 (by decide) (by decide)]
        exact hO
  · refine law2 (B := fun m => F_MD_end (sh0 W H) m 1185 x1) (v := 0) (m1 := mm) (m2 := mI mm 1185 11 0) ?_ ?_ (PB_11 h)
    · unfold F_OB_end
      by_cases k : x1 < 0
      · rw [if_pos k]
      · rw [if_neg k, zoS_h sh_0, if_neg (by rw [i32_lt, e0] at k; rw [i32_le, t2, hnn]; omega)]
    · show F_MD_end (sh0 W H) mm 1185 x1 = _
      unfold F_MD_end
      rw [zoS_h sh_1185, zoL_e]
      by_cases k : x1 < 0
      · rw [if_pos k]
      · rw [if_neg k, zoS_h sh_1185, if_neg (by rw [i32_lt, e0] at k; rw [i32_le, mI_v, if_pos rfl, if_neg (by decide), t3, hnn]; omega)]
/-- the background -/
theorem s_back {x1 x2 x3 x4 x5 : Int32} (h : PB W H mm) : zok (lawS11 (sh0 W H) mm x1 x2 x3 x4 x5) (fun mq => PB W H mq ∧ agP mm mq) := by
  have hR := h.1
  have e0 : (0 : Int32).toInt = 0 := rfl
  have e255 : (255 : Int32).toInt = 255 := rfl
  have ww : ∀ x : Int32, (sp_OB_within x 0 255 = 0) ↔ (sp_MD_isByte x = 0) := fun x => by rw [wi_0, ib_0, e0, e255]
  unfold lawS11
  by_cases hx : (0 ≤ x1.toInt ∧ x1.toInt ≤ 255) ∧ (0 ≤ x2.toInt ∧ x2.toInt ≤ 255) ∧ (0 ≤ x3.toInt ∧ x3.toInt ≤ 255)
  · obtain ⟨a1, a2⟩ := i32_cl hx.1.1
    obtain ⟨b1, b2⟩ := i32_cl hx.2.1.1
    obtain ⟨c1, c2⟩ := i32_cl hx.2.2.1
    have w1 : ¬ sp_OB_within x1 0 255 = 0 := by rw [wi_0, e0, e255]; omega
    have w2 : ¬ sp_OB_within x2 0 255 = 0 := by rw [wi_0, e0, e255]; omega
    have w3 : ¬ sp_OB_within x3 0 255 = 0 := by rw [wi_0, e0, e255]; omega
    have hR3 : RF (mI (mI mm 0 10 (((x1 <<< (16 &&& 31)) ||| (x2 <<< (8 &&& 31))) ||| x3)) 1185 11 0).2.2 := hR
    refine law2 (B := fun m => F_MD_background (sh0 W H) m 1185 x1 x2 x3) (v := 1) (m1 := mI mm 0 10 (((x1 <<< (16 &&& 31)) ||| (x2 <<< (8 &&& 31))) ||| x3)) (m2 := mI (mI (mI (mI (mI mm 0 10 (((x1 <<< (16 &&& 31)) ||| (x2 <<< (8 &&& 31))) ||| x3)) 1185 11 0) 1281 0 x1) 1281 1 x2) 1281 2 x3) ?_ ?_ ?_
    · unfold F_OB_background
      rw [if_neg w1, if_neg w2, if_neg w3, zoL_e, zoS_h sh_0, zoL_e]
    · show F_MD_background (sh0 W H) (mI mm 0 10 (((x1 <<< (16 &&& 31)) ||| (x2 <<< (8 &&& 31))) ||| x3)) 1185 x1 x2 x3 = _
      unfold F_MD_background
      rw [zoS_h sh_1185, zoL_e, if_neg (fun q => w1 ((ww x1).mpr q)), if_neg (fun q => w2 ((ww x2).mpr q)), if_neg (fun q => w3 ((ww x3).mpr q))]
      simp (disch := first | assumption | omega) only [↓zS_s0, ↓zS_s1, ↓zS_s2, ↓zS_s3, ↓zS_s20, ↓zS_s21, ↓zS_s22, ↓zS_s23, ↓zS_s24, ↓zS_s25, ↓zS_smt, ↓zS_txA, ↓zS_txA1, ↓zS_txA2, ↓zS_msA, ↓zS_msA1, ↓zS_msA2, ↓zS_msA3, ↓zS_msA4, ↓zS_ndA, ↓zS_ndA1, ↓zS_ndA2, ↓zS_tkA, ↓zS_tkA1, ↓zS_tkA2, ↓zS_0, ↓zS_1, ↓zS_2, ↓zS_3, ↓zS_4, ↓zS_5, ↓zS_6, ↓zS_7, ↓zS_8, ↓zS_9, ↓zS_10, ↓zS_1121, ↓zS_1122, ↓zS_1123, ↓zS_1124, ↓zS_1125, ↓zS_1126, ↓zS_1175, ↓zS_1176, ↓zS_1177, ↓zS_1178, ↓zS_1179, ↓zS_1180, ↓zS_1181, ↓zS_1182, ↓zS_1183, ↓zS_1184, ↓zS_1185, ↓zS_1186, ↓zS_1277, ↓zS_1278, ↓zS_1279, ↓zS_1280, ↓zS_1281, ↓zS_1282, ↓zS_1283, ↓zS_1284, ↓zS_1285, ↓zS_1302, ↓zS_1286, ↓zS_1287, ↓zS_1288, ↓zS_1289, ↓zS_1290, ↓zS_1291, ↓zS_1292, ↓zS_1293, ↓zS_1294, ↓zS_1295, ↓zS_1296, ↓zS_1297, ↓zS_1298, ↓zS_1299, ↓zS_1300, ↓zS_1301, ↓zS_sg, ↓zS_m0, ↓zS_m1, ↓zS_m2, ↓zS_m3, ↓zS_m4, ↓zS_m5, ↓zS_m6, ↓zS_m7, ↓zS_m8, ↓zS_m9, ↓zS_m10, ↓zS_m11, ↓zS_m12, ↓zS_m13, ↓zS_m14, ↓zS_m15, ↓zS_m16, ↓zS_m17, ↓zS_m18, ↓zS_m19, ↓zS_m20, ↓zS_m21, ↓zS_m22, ↓zS_m23, ↓zS_m24, ↓zS_m25, ↓zS_m26, ↓zS_m27, ↓zS_m28, ↓zS_m29, ↓bf_0_2, ↓bf_0_4, ↓bf_0_6, ↓bf_0_7, ↓bf_0_8, ↓bf_0_9, ↓bf_3_2, ↓bf_5_0, ↓bf_5_2, ↓bf_5_3, ↓bf_5_5, ↓bf_5_6, ↓bf_1121_0, ↓bf_1121_8, ↓bf_1121_9, ↓bf_1121_10, ↓bf_1121_13, ↓bf_1122_1, ↓bf_1181_1, ↓bf_1178_1, ↓bf_1178_2, ↓bf_1178_8, ↓bf_1178_9, ↓bf_1178_11, ↓bf_1185_2, ↓bf_1185_4, ↓bf_1185_5, ↓bf_1185_6, ↓bf_1185_7, ↓bf_1185_8, ↓bf_1185_9, ↓bf_1185_14, ↓bf_1185_16, ↓bf_1185_17, ↓bf_1185_18, ↓bf_1277_0, ↓bf_1277_1, ↓bf_1278_0, ↓bf_1278_2, ↓bf_1285_3, ↓bf_1285_4, ↓bf_1285_14, ↓bf_1285_15, ↓bf_1285_16, ↓bf_1285_17, ↓bf_1285_18, ↓bf_1285_19, ↓bf_1285_20, ↓bf_1285_21, ↓bf_1285_22, ↓bf_1285_23, ↓bf_1285_24, ↓bf_1285_25, ↓bf_1285_27, ↓bf_1285_28, ↓bf_1285_29, ↓bf_1285_30, ↓bf_2, ↓bf_2_, ↓bf_1126, ↓bf_1126_, ↓bf_s0, ↓bf_s1, ↓bf_s2, ↓bf_s3, ↓bf_s4, ↓bf_s5, ↓bf_s6, ↓bf_s7, ↓bf_s10, ↓bf_tx, ↓bf_tx_, ↓bf_mt, ↓bf_mt_, ↓bf_ms, ↓bf_ms_, ↓bf_nd, ↓bf_nd_, ↓bf_tk, ↓bf_tk_, ↓bf_txA4, ↓bf_txA5, ↓bf_msA3, ↓bf_msA4, ↓bf_msA5, ↓bf_msA6, ↓bf_ndA4, ↓bf_ndA5, ↓bf_tkA4, ↓bf_tkA5, ↓bf_m5, ↓bf_m6, ↓bf_m7, ↓bf_m8, ↓bf_m9, ↓bf_m10, ↓bf_m11, ↓bf_m12, ↓bf_m13, ↓bf_m14, ↓bf_m15, ↓bf_m16, ↓bf_m17, ↓bf_m18, ↓bf_m19, ↓bf_m20, ↓bf_m21, ↓bf_m22, ↓bf_m23, ↓bf_m24, ↓bf_m25, ↓bf_m26, ↓bf_m27, ↓bf_m28, ↓bf_m29, ↓bf_m30, ↓bf_m31, ↓bf_m32, ↓bf_m33, mI_R, sI_R, sL_R, kl_0, kl_1, kl_2, kl_3, kl_4, kl_5, kl_6, kl_7, kl_8, kl_9, kl_10, kl_11, kl_12, kc_0, kc_1, kc_2, kc_3, kc_4, kc_5, kc_6, kc_7, kc_8, kc_9, kc_10, kc_11, kc_12, Nat.reduceAdd, Nat.reduceLeDiff, Nat.reduceLT, not_false_eq_true, and_self, and_true, true_and, ↓zoL_e, ↓zob_e, ↓reduceIte, zoS_e, zob_e, nI_lt0, nI_lt00, nI_cl, nle_f, or_self, or_false, false_or]
    · generalize hv : ((x1 <<< (16 &&& 31)) ||| (x2 <<< (8 &&& 31))) ||| x3 = v
      rw [a1, b1, c1, pk_mk (by omega) (by omega) (by omega)] at hv
      have o : ∀ a, a ≠ 0 → a ≠ 1185 → a ≠ 1281 → (mI (mI (mI (mI (mI mm 0 10 v) 1185 11 0) 1281 0 x1) 1281 1 x2) 1281 2 x3).1 a = mm.1 a := fun a h0 h1 h2 => by rw [mI_o h2, mI_o h2, mI_o h2, mI_o h1, mI_o h0]
      have c : ∀ c, c ≠ 11 → (mI (mI (mI (mI (mI mm 0 10 v) 1185 11 0) 1281 0 x1) 1281 1 x2) 1281 2 x3).1 1185 c = mm.1 1185 c := fun c h1 => by rw [mI_o (by decide), mI_o (by decide), mI_o (by decide), mI_v, if_pos rfl, if_neg h1, mI_o (by decide)]
      have d : ∀ c, c ≠ 10 → (mI (mI (mI (mI (mI mm 0 10 v) 1185 11 0) 1281 0 x1) 1281 1 x2) 1281 2 x3).1 0 c = mm.1 0 c := fun c h1 => by rw [mI_o (by decide), mI_o (by decide), mI_o (by decide), mI_o (by decide), mI_v, if_pos rfl, if_neg h1]
      refine PB_A h rfl (fun a a0 a1 _ _ a4 => o a a0 a1 a4) (fun k hk => ⟨d k (by omega), c k (by omega)⟩) (c 10 (by decide)) (c 15 (by decide)) ?_ ?_
      · have hT := h.2.2.1
        unfold vT at *
        rw [o 1186 (by decide) (by decide) (by decide), o 1 (by decide) (by decide) (by decide), d 3 (by decide), c 3 (by decide)]
        exact hT
      · obtain ⟨o1, _, o3, o4⟩ := h.2.2.2.2.2.1
        refine ⟨?_, ⟨x1.toNatClampNeg, x2.toNatClampNeg, x3.toNatClampNeg, by omega, by omega, by omega, ?_, ?_, ?_, ?_⟩, ?_, ?_⟩
        · rw [o 3 (by decide) (by decide) (by decide), c 12 (by decide), c 13 (by decide)]
          exact o1
        · rw [mI_o (by decide), mI_o (by decide), mI_o (by decide), mI_o (by decide), mI_v, if_pos rfl, if_pos rfl]
          exact hv.symm
        · rw [← a1]
          simp [mI_v]
        · rw [← b1]
          simp [mI_v]
        · rw [← c1]
          simp [mI_v]
        · rw [d 11 (by decide), c 19 (by decide)]
          exact o3
        · rw [o 5 (by decide) (by decide) (by decide), o 6 (by decide) (by decide) (by decide), o 1278 (by decide) (by decide) (by decide), o 1280 (by decide) (by decide) (by decide)]
          exact o4
  · refine law2 (B := fun m => F_MD_background (sh0 W H) m 1185 x1 x2 x3) (v := 0) (m1 := mm) (m2 := mI mm 1185 11 0) ?_ ?_ (PB_11 h)
    · unfold F_OB_background
      by_cases w1 : sp_OB_within x1 0 255 = 0
      · rw [if_pos w1]
      · by_cases w2 : sp_OB_within x2 0 255 = 0
        · rw [if_neg w1, if_pos w2]
        · rw [if_neg w1, if_neg w2, if_pos (by rw [wi_0, e0, e255] at *; omega)]
    · show F_MD_background (sh0 W H) mm 1185 x1 x2 x3 = _
      unfold F_MD_background
      rw [zoS_h sh_1185, zoL_e]
      by_cases w1 : sp_MD_isByte x1 = 0
      · rw [if_pos w1]
      · by_cases w2 : sp_MD_isByte x2 = 0
        · rw [if_neg w1, if_pos w2]
        · rw [if_neg w1, if_neg w2, if_pos (by rw [ib_0] at *; omega)]
end ZSM
