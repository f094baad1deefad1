/-! PURE: the reference writes a file -/
section ZMW
variable {W H : Nat}
/-- the reference's packer with its bytes B -/
def mJ (m0 : zMem) (B : List Int32) (m : zMem) : Prop := (m.2 = m0.2 ∧ (∀ k, (k < 1278 ∨ 1280 < k) → m.1 k = m0.1 k) ∧ m.1 1278 5 = m0.1 1278 5) ∧ wB 1278 3 1280 B m ∧ RF m.2.2
def mRw (R : Nat → Nat) (N : Nat) (m : zMem) : Prop := rwI 1279 R N m ∧ m.1 1278 1 = nI N
theorem mJ_p {m0 m m' : zMem} {B B' : List Int32} (h : mJ m0 B m) (k : pF 1278 3 1280 m m') (w : wB 1278 3 1280 B' m') : mJ m0 B' m' := by
  obtain ⟨⟨a1, a2, a3⟩, a5, a6⟩ := h
  exact ⟨⟨k.1.trans a1, fun x hx => by rw [k.2.1 x (by omega) (by omega), a2 x hx], by rw [k.2.2 5 (by decide)]; exact a3⟩, w, by rw [k.1]; exact a6⟩
theorem mJ_q {m0 m m' : zMem} {B B' : List Int32} (h : mJ m0 B m) (k : mQ m m') (w : wB 1278 3 1280 B' m') : mJ m0 B' m' := by
  obtain ⟨⟨a1, a2, a3⟩, a5, a6⟩ := h
  exact ⟨⟨k.1.trans a1, fun x hx => by rw [k.2.1 x (by omega) (by omega), a2 x hx], by rw [k.2.2 5 (by decide) (by decide)]; exact a3⟩, w, by rw [k.1]; exact a6⟩
theorem mRw_p {R : Nat → Nat} {N : Nat} {m m' : zMem} (h : mRw R N m) (k : pF 1278 3 1280 m m') : mRw R N m' := ⟨fun x hx => by rw [k.2.1 1279 (by decide) (by decide)]; exact h.1 x hx, by rw [k.2.2 1 (by decide)]; exact h.2⟩
theorem mRw_q {R : Nat → Nat} {N : Nat} {m m' : zMem} (h : mRw R N m) (k : mQ m m') : mRw R N m' := ⟨fun x hx => by rw [k.2.1 1279 (by decide) (by decide)]; exact h.1 x hx, by rw [k.2.2 1 (by decide) (by decide)]; exact h.2⟩
theorem m_num' {m0 m : zMem} {B : List Int32} {v : Int32} (h : mJ m0 B m) (hB : B.length + 4 ≤ 8192) : zok (F_MPacker_put4 (sh0 W H) m 1278 v) (fun m' => mJ m0 (B ++ nmB v) m' ∧ pF 1278 3 1280 m m') := zok_w (m_num h.2.2 h.2.1 hB) (fun m' g => ⟨mJ_p h (pF_w g.1) g.2, pF_w g.1⟩)
theorem m_put' {m0 m : zMem} {B : List Int32} {v : Int32} (h : mJ m0 B m) (hB : B.length < 8192) : zok (F_MPacker_put (sh0 W H) m 1278 v) (fun m' => mJ m0 (B ++ [st8 v]) m' ∧ pF 1278 3 1280 m m') := zok_w (m_put h.2.2 h.2.1 hB) (fun m' g => ⟨mJ_p h (pF_w g.1) g.2, pF_w g.1⟩)
theorem m_open' {m0 m : zMem} {B : List Int32} {a b c d : Int32} (h : mJ m0 B m) (hB : B.length + 8 ≤ 8192) : zok (F_MPacker_begin (sh0 W H) m 1278 a b c d) (fun z => z.1 = nI B.length ∧ mJ m0 ((B ++ nmB 0) ++ nm4 a b c d) z.2 ∧ pF 1278 3 1280 m z.2) := by
  have sx := sh_1278 (W := W) (H := H)
  unfold F_MPacker_begin
  rw [zoS_h sx, h.2.1.1, zoL_e, zoS_h sx]
  refine zok_b (m_num' (W := W) (H := H) h (by omega)) (fun m1 g1 => ?_)
  rw [zoS_h sx]
  refine zok_b (m_put' (W := W) (H := H) g1.1 (by rw [List.length_append, nmB_l]; omega)) (fun m2 g2 => ?_)
  rw [zoS_h sx]
  refine zok_b (m_put' (W := W) (H := H) g2.1 (by rw [List.length_append, List.length_append, nmB_l]; show B.length + 4 + 1 < _; omega)) (fun m3 g3 => ?_)
  rw [zoS_h sx]
  refine zok_b (m_put' (W := W) (H := H) g3.1 (by rw [List.length_append, List.length_append, List.length_append, nmB_l]; show B.length + 4 + 1 + 1 < _; omega)) (fun m4 g4 => ?_)
  rw [zoS_h sx]
  refine zok_b (m_put' (W := W) (H := H) g4.1 (by rw [List.length_append, List.length_append, List.length_append, List.length_append, nmB_l]; show B.length + 4 + 1 + 1 + 1 < _; omega)) (fun m5 g5 => zok_s ⟨rfl, ?_, pF_t g1.2 (pF_t g2.2 (pF_t g3.2 (pF_t g4.2 g5.2)))⟩)
  have e : (((((B ++ nmB 0) ++ [st8 a]) ++ [st8 b]) ++ [st8 c]) ++ [st8 d]) = (B ++ nmB 0) ++ nm4 a b c d := by
    rw [List.append_assoc, List.append_assoc, List.append_assoc]
    rfl
  have := g5.1
  rw [e] at this
  exact this
theorem m_close' {m0 m : zMem} {P Z Q : List Int32} (hz : Z.length = 4) (h : mJ m0 ((P ++ Z) ++ Q) m) (hB : P.length + 4 + Q.length + 4 ≤ 8192) : zok (F_MPacker_finish (sh0 W H) m 1278 (nI P.length)) (fun m' => mJ m0 (clB P Q ((nI (P.length + 4 + Q.length) - nI P.length) - 8)) m' ∧ pF 1278 3 1280 m m') := zok_w (m_close h.2.2 hz h.2.1 hB) (fun m' g => ⟨mJ_p h g.1 g.2, g.1⟩)
theorem nmB_8 : nmB 134348800 = nm4 8 2 0 0 := by decide
set_option maxHeartbeats 2000000 in
theorem m_write {m : zMem} {c : Nat → Nat} (hR : RF m.2.2) (hW8 : 8 ≤ W) (hH8 : 8 ≤ H) (hW48 : W ≤ 48) (hH48 : H ≤ 48) (hc : rwI 1283 c (H * (3 * W)) m) (hla : (b3B W H (RWf c (3 * W)) (H * (3 * W + 1))).length ≤ 7958) : zok (F_MPacker_write (sh0 W H) m 1278 (nI W) (nI H) 1283) (fun z => z.1 = nI (b3B W H (RWf c (3 * W)) (H * (3 * W + 1))).length ∧ (z.2.2.1 = m.2.1 ∧ (∀ k j, ¬ (k = 1278 ∧ j = 6) → z.2.2.2 k j = m.2.2 k j) ∧ ∀ k, (k < 1278 ∨ 1280 < k) → z.2.1 k = m.1 k) ∧ wB 1278 3 1280 (b3B W H (RWf c (3 * W)) (H * (3 * W + 1))) z.2) := by
  have hWH : H * (3 * W) ≤ 48 * 144 := Nat.mul_le_mul hH48 (by omega)
  rw [b3B_l] at hla
  have hN : H * (3 * W + 1) ≤ 48 * 145 := Nat.mul_le_mul hH48 (by omega)
  have sx := sh_1278 (W := W) (H := H)
  unfold F_MPacker_write
  rw [zoS_h sx, zoL_e, zoS_h sx, zoL_e, zoS_h sx, zoL_e]
  have J0 : mJ (mI (mR (mI m 1278 5 (nI W)) 1278 6 (some 1283)) 1278 3 0) [] (mI (mR (mI m 1278 5 (nI W)) 1278 6 (some 1283)) 1278 3 0) := ⟨⟨rfl, fun _ _ => rfl, rfl⟩, ⟨by rw [mI_v, if_pos rfl, if_pos rfl]; rfl, fun k hk => absurd hk (Nat.not_lt_zero _)⟩, RF_u hR (by unfold rMut; omega)⟩
  have fA : ∀ k, (k < 1278 ∨ 1280 < k) → (mI (mR (mI m 1278 5 (nI W)) 1278 6 (some 1283)) 1278 3 0).1 k = m.1 k := fun k hk => by rw [mI_o (by omega), mR_1, mI_o (by omega)]
  have w5 : (mI (mR (mI m 1278 5 (nI W)) 1278 6 (some 1283)) 1278 3 0).1 1278 5 = nI W := by rw [mI_v, if_pos rfl, if_neg (by decide), mR_1, mI_v, if_pos rfl, if_pos rfl]
  have r6 : (mI (mR (mI m 1278 5 (nI W)) 1278 6 (some 1283)) 1278 3 0).2.2 1278 6 = some 1283 := by
    show (mR (mI m 1278 5 (nI W)) 1278 6 (some 1283)).2.2 1278 6 = some 1283
    exact mR_e
  have ro : ∀ k j, ¬ (k = 1278 ∧ j = 6) → (mI (mR (mI m 1278 5 (nI W)) 1278 6 (some 1283)) 1278 3 0).2.2 k j = m.2.2 k j := fun k j hk => mR_ne hk
  have lA : (mI (mR (mI m 1278 5 (nI W)) 1278 6 (some 1283)) 1278 3 0).2.1 = m.2.1 := rfl
  generalize mI (mR (mI m 1278 5 (nI W)) 1278 6 (some 1283)) 1278 3 0 = mA at *
  rw [zoS_h sx]
  refine zok_b (m_num' (W := W) (H := H) (v := -1991225785) J0 (by decide)) (fun m4 g4 => ?_)
  rw [zoS_h sx]
  refine zok_b (m_num' (W := W) (H := H) (v := 218765834) g4.1 (by rw [List.length_append, nmB_l]; decide)) (fun m5 g5 => ?_)
  have J5 : mJ mA hdB m5 := g5.1
  have lh : hdB.length = 8 := rfl
  rw [zoS_h sx]
  refine zok_b (m_open' (W := W) (H := H) (a := 73) (b := 72) (c := 68) (d := 82) J5 (by rw [lh]; decide)) (fun z6 g6 => ?_)
  obtain ⟨v6, m6⟩ := z6
  obtain ⟨e6, J6, _⟩ := g6
  dsimp only at e6 J6 ⊢
  have l6 : ((hdB ++ nmB 0) ++ nm4 73 72 68 82).length = 16 := rfl
  rw [zoS_h sx]
  refine zok_b (m_num' (W := W) (H := H) (v := nI W) J6 (by rw [l6]; decide)) (fun m7 g7 => ?_)
  rw [zoS_h sx]
  refine zok_b (m_num' (W := W) (H := H) (v := nI H) g7.1 (by rw [List.length_append, l6, nmB_l]; decide)) (fun m8 g8 => ?_)
  have l8 : (((hdB ++ nmB 0) ++ nm4 73 72 68 82 ++ nmB (nI W)) ++ nmB (nI H)).length = 24 := by rw [List.length_append, List.length_append, l6, nmB_l, nmB_l]
  rw [zoS_h sx]
  refine zok_b (m_put' (W := W) (H := H) (v := 8) g8.1 (by rw [l8]; decide)) (fun m9 g9 => ?_)
  rw [zoS_h sx]
  refine zok_b (m_put' (W := W) (H := H) (v := 2) g9.1 (by rw [List.length_append, l8]; decide)) (fun m10 g10 => ?_)
  rw [zoS_h sx]
  refine zok_b (m_put' (W := W) (H := H) (v := 0) g10.1 (by rw [List.length_append, List.length_append, l8]; decide)) (fun m11 g11 => ?_)
  rw [zoS_h sx]
  refine zok_b (m_put' (W := W) (H := H) (v := 0) g11.1 (by rw [List.length_append, List.length_append, List.length_append, l8]; decide)) (fun m12 g12 => ?_)
  rw [zoS_h sx]
  refine zok_b (m_put' (W := W) (H := H) (v := 0) g12.1 (by rw [List.length_append, List.length_append, List.length_append, List.length_append, l8]; decide)) (fun m13 g13 => ?_)
  have J13 : mJ mA ((hdB ++ nmB 0) ++ q1B W H) m13 := by
    have e : ((((((((hdB ++ nmB 0) ++ nm4 73 72 68 82) ++ nmB (nI W)) ++ nmB (nI H)) ++ [st8 8]) ++ [st8 2]) ++ [st8 0]) ++ [st8 0]) ++ [st8 0] = (hdB ++ nmB 0) ++ q1B W H := by
      unfold q1B
      rw [nmB_8]
      unfold nm4
      simp only [List.append_assoc, List.cons_append, List.nil_append]
    have := g13.1
    rw [e] at this
    exact this
  rw [zoS_h sx, e6]
  refine zok_b (m_close' (W := W) (H := H) nmB_l J13 (by rw [lh, q1B_l]; decide)) (fun m14 g14 => ?_)
  obtain ⟨J14, _⟩ := g14
  rw [lh, q1B_l] at J14
  have J14' : mJ mA (b1B W H) m14 := J14
  rw [zoS_h sx, zoL_e]
  obtain ⟨⟨a1, a2, a3⟩, a4, a5⟩ := J14'
  have hP15 : mPk c W (H * (3 * W)) (mI m14 1278 1 0) := ⟨a5, by show m14.2.2 1278 6 = some 1283; rw [a1]; exact r6, by rw [mI_v, if_pos rfl, if_neg (by decide), a3]; exact w5, fun k hk => by rw [mI_o (by decide), a2 1283 (by omega), fA 1283 (by omega)]; exact hc k hk⟩
  refine zok_b (show zok (L_MPacker_write_91 (sh0 W H) zfuel 1278 (nI H) 0 (mI m14 1278 1 0)) _ from m_rw91 (H := H) (c := c) (hh := H) (by omega) hW8 hW48 hH48 H 0 zfuel (mI m14 1278 1 0) (by omega) (zf_lt (by omega)) hP15 (by rw [mI_v, if_pos rfl, if_pos rfl, Nat.zero_mul]; rfl) (fun k hk => by rw [Nat.zero_mul] at hk; exact absurd hk (Nat.not_lt_zero _))) (fun q hq => ?_)
  obtain ⟨q0, q1, q2, m15⟩ := q
  obtain ⟨x0, F15, x1, x2⟩ := hq
  dsimp only at x0 F15 x1 x2 ⊢
  subst x0
  generalize hRd : RWf c (3 * W) = R at *
  generalize hNd : H * (3 * W + 1) = N at *
  have J15 : mJ mA (b1B W H) m15 := ⟨⟨F15.1.trans a1, fun k hk => by rw [F15.2.1 k (by omega) (by omega), mI_o (by omega), a2 k hk], by rw [F15.2.2 5 (by decide), mI_v, if_pos rfl, if_neg (by decide)]; exact a3⟩, ⟨by rw [F15.2.2 3 (by decide), mI_v, if_pos rfl, if_neg (by decide)]; exact a4.1, fun k hk => by rw [F15.2.1 1280 (by decide) (by decide), mI_o (by decide)]; exact a4.2 k hk⟩, by rw [F15.1]; exact a5⟩
  have W15 : mRw R N m15 := ⟨x2, x1⟩
  rw [zoS_h sx]
  refine zok_b (m_open' (W := W) (H := H) (a := 73) (b := 68) (c := 65) (d := 84) J15 (by rw [b1B_l]; decide)) (fun z16 g16 => ?_)
  obtain ⟨v16, m16⟩ := z16
  obtain ⟨e16, J16, p16⟩ := g16
  dsimp only at e16 J16 p16 ⊢
  have l16 : ((b1B W H ++ nmB 0) ++ nm4 73 68 65 84).length = 41 := by rw [List.length_append, List.length_append, b1B_l, nmB_l]; rfl
  have W16 := mRw_p W15 p16
  rw [zoS_h sx]
  refine zok_b (m_put' (W := W) (H := H) (v := 120) J16 (by rw [l16]; decide)) (fun m17 g17 => ?_)
  rw [zoS_h sx]
  refine zok_b (m_put' (W := W) (H := H) (v := 1) g17.1 (by rw [List.length_append, l16]; decide)) (fun m18 g18 => ?_)
  have W18 := mRw_p (mRw_p W16 g17.2) g18.2
  have J18 := g18.1
  rw [zoS_h sx]
  refine zok_b (m_pack (W := W) (H := H) (by omega) J18.2.2 W18.1 W18.2 J18.2.1 (by rw [List.length_append, List.length_append, l16]; decide)) (fun m19 g19 => ?_)
  have J19 := mJ_q J18 g19.1 g19.2
  have W19 := mRw_q W18 g19.1
  have l19 : (((((b1B W H ++ nmB 0) ++ nm4 73 68 65 84) ++ [st8 120]) ++ [st8 1]) ++ dfl (allB R N)).length = 43 + ((allB R N).length + 7) / 8 := by
    rw [List.length_append, List.length_append, List.length_append, l16, dfl_l]
    rfl
  rw [zoS_h sx, zob_h (m_sum (W := W) (H := H) J19.2.2 W19.1 (by omega) W19.2)]
  dsimp only
  rw [zoS_h sx]
  refine zok_b (m_num' (W := W) (H := H) (v := adS R N) J19 (by rw [l19]; omega)) (fun m20 g20 => ?_)
  have J20 : mJ mA ((b1B W H ++ nmB 0) ++ q2B R N) m20 := by
    have := g20.1
    rw [as3, as3, as3, as3] at this
    exact this
  rw [zoS_h sx, e16]
  refine zok_b (m_close' (W := W) (H := H) nmB_l J20 (by rw [b1B_l, q2B_l]; omega)) (fun m21 g21 => ?_)
  obtain ⟨J21, _⟩ := g21
  rw [b1B_l] at J21
  have J21' : mJ mA (b2B W H R N) m21 := J21
  have l21 := b2B_l (W := W) (H := H) (R := R) (N := N)
  rw [zoS_h sx]
  refine zok_b (m_open' (W := W) (H := H) (a := 73) (b := 69) (c := 78) (d := 68) J21' (by rw [l21]; omega)) (fun z22 g22 => ?_)
  obtain ⟨v22, m22⟩ := z22
  obtain ⟨e22, J22, _⟩ := g22
  dsimp only at e22 J22 ⊢
  rw [zoS_h sx, e22]
  refine zok_b (m_close' (W := W) (H := H) nmB_l J22 (by rw [l21]; show _ + 4 + 4 + 4 ≤ _; omega)) (fun m23 g23 => ?_)
  obtain ⟨J23, _⟩ := g23
  rw [zoS_h sx]
  have J23' : mJ mA (b3B W H R N) m23 := J23
  obtain ⟨⟨y1, y2, _⟩, y4, _⟩ := J23'
  exact zok_s ⟨y4.1, ⟨by show m23.2.1 = m.2.1; rw [y1, lA], fun k j hk => by show m23.2.2 k j = m.2.2 k j; rw [y1]; exact ro k j hk, fun k hk => by show m23.1 k = m.1 k; rw [y2 k hk, fA k hk]⟩, y4⟩
end ZMW
