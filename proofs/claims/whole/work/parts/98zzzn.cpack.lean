/-! PURE: the class packs its rows -/
section ZPK
variable {W H : Nat}
theorem cBt_k {P : List Int32} {bs : List Nat} {m m' : zMem} (h : cBt P bs m) (e6 : m'.1 6 = m.1 6) (e1 : m'.1 5 1 = m.1 5 1) (e9 : m'.1 5 9 = m.1 5 9) (e10 : m'.1 5 10 = m.1 5 10) : cBt P bs m' := by
  unfold cBt
  rw [e6, e1, e9, e10]
  exact h
theorem c_pk40 {P : List Int32} {R : Nat → Nat} {N C : Nat} (hN : N ≤ 6960) (hC : P.length + (C + 40) / 8 < 7958) : ∀ (d p fuel : Nat) (m : zMem) (bs : List Nat), N ≤ p + d → p ≤ N → d < fuel → RF m.2.2 → rwI 8 R N m → m.1 5 4 = nI N → kTb R N p m → cBt P bs m → bs.length + 9 * (N - p) ≤ C → zok (L_XPacker_packRows_40 (sh0 W H) fuel 5 (nI p) m) (fun q => q.1 = 5 ∧ cZ m q.2.2 ∧ cBt P (bs ++ pkB R N d p) q.2.2 ∧ (bs ++ pkB R N d p).length ≤ C) := by
  intro d
  induction d with
  | zero =>
    intro p fuel m bs hd hp hf hR h h4 hT hb hc
    obtain ⟨fu, rfl⟩ : ∃ fu, fuel = fu + 1 := ⟨fuel - 1, by omega⟩
    rw [L_XPacker_packRows_40, zoS_h sh_5, h4, if_pos (by rw [nI_leD (by omega) (by omega)]; omega)]
    refine zok_s ⟨rfl, cZ_r, ?_⟩
    rw [pkB, List.append_nil]
    exact ⟨hb, by omega⟩
  | succ d ih =>
    intro p fuel m bs hd hp hf hR h h4 hT hb hc
    obtain ⟨fu, rfl⟩ : ∃ fu, fuel = fu + 1 := ⟨fuel - 1, by omega⟩
    rw [L_XPacker_packRows_40, zoS_h sh_5, h4, pkB]
    by_cases c : N ≤ p
    · rw [if_pos (by rw [nI_leD (by omega) (by omega)]; omega), if_pos c, List.append_nil]
      exact zok_s ⟨rfl, cZ_r, hb, by omega⟩
    rw [if_neg (by rw [nI_leD (by omega) (by omega)]; omega), if_neg c, zoS_h sh_5]
    refine zok_b (c_find (W := W) (H := H) hN (by omega) hR h h4 hT) (fun m1 g1 => ?_)
    obtain ⟨⟨r1, o1, c1⟩, s2, r, r258, e7, e8, e9⟩ := g1
    obtain ⟨b2, b3⟩ := bst_b (R := R) (N := N) (p := p)
    have hl : limN N p ≤ N - p ∧ limN N p ≤ 258 := ⟨Nat.min_le_right _ _, Nat.min_le_left _ _⟩
    have Z1 : cZ m m1 := ⟨r1, fun k h5 _ _ _ => o1 k h5, fun c _ h7 h8 _ _ => c1 c h7 h8⟩
    have R1 : RF m1.2.2 := by rw [r1]; exact hR
    have hb1 : cBt P bs m1 := cBt_k hb (o1 6 (by decide)) (c1 1 (by decide) (by decide)) (c1 9 (by decide) (by decide)) (c1 10 (by decide) (by decide))
    have T1 : kTb R N p m1 := by
      unfold kTb
      rw [o1 9 (by decide), o1 10 (by decide)]
      exact hT
    -- from the memory behind the put on
    have go : ∀ (m2 : zMem) (n : Nat) (bt : List Nat), cQ m1 m2 → 1 ≤ n → p + n ≤ N → cBt P (bs ++ bt) m2 → (bs ++ bt).length + 9 * (N - (p + n)) ≤ C → zok (Option.bind (L_XPacker_packRows_101 (sh0 W H) zfuel 5 (nI p) (nI (p + n)) m2) (fun q43 => L_XPacker_packRows_40 (sh0 W H) fu (q43.1) (q43.2.1) (q43.2.2.2))) (fun q => q.1 = 5 ∧ cZ m q.2.2 ∧ cBt P (bs ++ (bt ++ pkB R N d (p + n))) q.2.2 ∧ (bs ++ (bt ++ pkB R N d (p + n))).length ≤ C) := fun m2 n bt q2 n1 n2 b2 l2 => by
      have Z2 := cZ_t Z1 (cZ_q q2)
      have T2 : kTb R N p m2 := by
        unfold kTb
        rw [q2.2.1 9 (by decide) (by decide), q2.2.1 10 (by decide) (by decide)]
        exact T1
      have R2 : RF m2.2.2 := by rw [Z2.1]; exact hR
      have h42 : m2.1 5 4 = nI N := by rw [Z2.2.2 4 (by decide) (by decide) (by decide) (by decide) (by decide)]; exact h4
      refine zok_b (c_rem101 (W := W) (H := H) hN n2 n p zfuel m2 rfl (zf_lt (by omega)) R2 (rwI_Z h Z2) h42 T2) (fun q hq => ?_)
      obtain ⟨q0, q1, q2', m3⟩ := q
      obtain ⟨w0, w1, ⟨w2, w3⟩, w4⟩ := hq
      dsimp only at w0 w1 w2 w3 w4 ⊢
      subst w0 w1
      have Z3 : cZ m m3 := cZ_t Z2 ⟨w2, fun k _ _ h9 h10 => w3 k h9 h10, fun c _ _ _ _ _ => by rw [w3 5 (by decide) (by decide)]⟩
      have hb3 : cBt P (bs ++ bt) m3 := cBt_k b2 (w3 6 (by decide) (by decide)) (by rw [w3 5 (by decide) (by decide)]) (by rw [w3 5 (by decide) (by decide)]) (by rw [w3 5 (by decide) (by decide)])
      refine zok_w (ih (p + n) fu m3 (bs ++ bt) (by omega) n2 (by omega) (by rw [Z3.1]; exact hR) (rwI_Z h Z3) (by rw [Z3.2.2 4 (by decide) (by decide) (by decide) (by decide) (by decide)]; exact h4) w4 hb3 l2) (fun q hq => ?_)
      rw [List.append_assoc] at hq
      exact ⟨hq.1, cZ_t Z3 hq.2.1, hq.2.2⟩
    rw [zoL_e, zoS_h sh_5, e7]
    by_cases c3 : 3 ≤ (bst R N p).1
    · obtain ⟨b4, b5⟩ := b3 c3
      obtain ⟨er, _, e8'⟩ := e8 c3
      obtain ⟨l1, l2, l3⟩ := ld_l (n := r) (d := p - (bst R N p).2) (by omega) (by omega) (by omega)
      rw [if_neg (by rw [show (3 : Int32) = nI 3 from rfl, nI_ltD (by omega) (by decide)]; omega), if_pos c3, zoS_h sh_5, zoS_h sh_5]
      refine zok_b (c_len R1 hb1 (by omega) (by omega) (by omega)) (fun m2 g2 => ?_)
      rw [zoS_h sh_5, zoS_h sh_5, g2.1.2.2 8 (by decide) (by decide) (by decide), e8']
      refine zok_b (c_dis (by rw [g2.1.1]; exact R1) g2.2 (by omega) (by omega) (by rw [List.length_append]; omega)) (fun m3 g3 => ?_)
      have G := cQ_t g2.1 g3.1
      rw [zoS_h sh_5, G.2.2 7 (by decide) (by decide) (by decide), e7, nI_pp, zoL_e]
      have g3' := g3.2
      rw [List.append_assoc] at g3'
      rw [← er]
      exact go m3 r (lnB r ++ dsB (p - (bst R N p).2)) G (by omega) (by omega) g3' (by rw [List.length_append, List.length_append]; omega)
    · have r2 := e9 (by omega)
      obtain ⟨q1, q2⟩ := h p (by omega)
      have ls := sgB_l (s := R p)
      rw [if_pos (by rw [show (3 : Int32) = nI 3 from rfl, nI_ltD (by omega) (by decide)]; omega), if_neg c3, zoS_h sh_5, zob_h (rf_5_3 R1), zoS_h sh_8, nI_ix (by omega) (by decide), nI_cl (n := p) (by omega), zoS_h sh_5, o1 8 (by decide), q2, zoL_e]
      refine zok_b (c_sign R1 hb1 (by omega) (by omega)) (fun m2 g2 => ?_)
      rw [nI_p1]
      exact go m2 1 (sgB (R p)) g2.1 (by decide) (by omega) g2.2 (by rw [List.length_append]; omega)
theorem c_pk12 {m0 : zMem} (hR : RF m0.2.2) : ∀ (d k fuel : Nat) (m : zMem), k + d = 4096 → d < fuel → m.2 = m0.2 → (∀ a, a ≠ 9 → m.1 a = m0.1 a) → (∀ j, j < k → m.1 9 j = -1) → zok (L_XPacker_packRows_12 (sh0 W H) fuel 5 (nI k) m) (fun q => q.1 = 5 ∧ q.2.2.2 = m0.2 ∧ (∀ a, a ≠ 9 → q.2.2.1 a = m0.1 a) ∧ ∀ j, j < 4096 → q.2.2.1 9 j = -1) := by
  intro d
  induction d with
  | zero =>
    intro k fuel m hk hf h1 h2 h3
    obtain ⟨fu, rfl⟩ : ∃ fu, fuel = fu + 1 := ⟨fuel - 1, by omega⟩
    obtain rfl : k = 4096 := by omega
    rw [L_XPacker_packRows_12, if_pos (by decide)]
    exact zok_s ⟨rfl, h1, h2, h3⟩
  | succ d ih =>
    intro k fuel m hk hf h1 h2 h3
    obtain ⟨fu, rfl⟩ : ∃ fu, fuel = fu + 1 := ⟨fuel - 1, by omega⟩
    have Rm : RF m.2.2 := by rw [h1]; exact hR
    rw [L_XPacker_packRows_12, if_neg (by rw [show (4096 : Int32) = nI 4096 from rfl, nI_leD (by decide) (by omega)]; omega), zoS_h sh_5, zob_h (rf_5_5 Rm), zoS_h sh_9, nI_ix (by omega) (by decide), nI_cl (n := k) (by omega), zoL_e, nI_p1]
    refine ih (k + 1) fu _ (by omega) (by omega) h1 (fun a ha => by rw [mI_o ha, h2 a ha]) (fun j hj => ?_)
    rw [mI_v, if_pos rfl]
    by_cases e : j = k
    · rw [if_pos e]
    · rw [if_neg e]
      exact h3 j (by omega)
theorem loB_0 : ∀ d i, loB 0 i d = List.replicate d 0 := by
  intro d
  induction d with
  | zero => intro i; rfl
  | succ d ih =>
    intro i
    rw [loB, ih, List.replicate_succ]
    congr 1
    rw [Nat.zero_div]
theorem byN_z {bs : List Nat} {j : Nat} : ∀ d, byN (bs ++ List.replicate d 0) j = byN bs j := by
  intro d
  induction d generalizing bs with
  | zero => rw [List.replicate_zero, List.append_nil]
  | succ d ih =>
    rw [List.replicate_succ, ← app_c, ih, byN_s]
    split
    · rw [Nat.zero_mul, Nat.add_zero]
    · rfl
/-- bits as bytes -/
def dfl (bs : List Nat) : List Int32 := (List.range ((bs.length + 7) / 8)).map (fun j => st8 (nI (byN bs j)))
theorem dfl_l {bs : List Nat} : (dfl bs).length = (bs.length + 7) / 8 := by unfold dfl; rw [List.length_map, List.length_range]
theorem dfl_g {bs : List Nat} {j : Nat} (h : j < (bs.length + 7) / 8) : (dfl bs).getD j 0 = st8 (nI (byN bs j)) := by
  unfold dfl
  rw [List.getD_eq_getElem?_getD, List.getElem?_map, List.getElem?_range h]
  rfl
/-- all bits of a packing -/
def allB (R : Nat → Nat) (N : Nat) : List Nat := ([1, 1, 0] ++ pkB R N N 0) ++ hiB 0 7
theorem c_pack {m : zMem} {P : List Int32} {R : Nat → Nat} {N : Nat} (hN : N ≤ 6960) (hR : RF m.2.2) (h : rwI 8 R N m) (h4 : m.1 5 4 = nI N) (hb : wB 5 1 6 P m) (hP : P.length ≤ 50) : zok (F_XPacker_packRows (sh0 W H) m 5) (fun m' => cZ m m' ∧ wB 5 1 6 (P ++ dfl (allB R N)) m' ∧ (allB R N).length ≤ 10 + 9 * N) := by
  unfold F_XPacker_packRows
  rw [zoS_h sh_5, zoL_e, zoS_h sh_5, zoL_e]
  have Za : cZ m (mI (mI m 5 9 0) 5 10 0) := ⟨rfl, fun k h5 _ _ _ => by rw [mI_o h5, mI_o h5], fun c _ _ _ h9 h10 => by rw [mI_v, if_pos rfl, if_neg h10, mI_v, if_pos rfl, if_neg h9]⟩
  have ba : cBt P [] (mI (mI m 5 9 0) 5 10 0) := ⟨by rw [mI_v, if_pos rfl, if_neg (by decide), mI_v, if_pos rfl, if_neg (by decide)]; exact hb.1, fun k hk => by rw [mI_o (by decide), mI_o (by decide)]; exact hb.2 k hk, fun j hj => absurd hj (Nat.not_lt_zero _), by rw [mI_v, if_pos rfl, if_neg (by decide), mI_v, if_pos rfl, if_pos rfl]; rfl, by rw [mI_v, if_pos rfl, if_pos rfl]; rfl, fun i => by show ([] : List Nat).getD i 0 < 2; rw [gD_out (Nat.zero_le _)]; decide⟩
  generalize mI (mI m 5 9 0) 5 10 0 = ma at *
  have Ra : RF ma.2.2 := by rw [Za.1]; exact hR
  refine zok_b (show zok (L_XPacker_packRows_12 (sh0 W H) zfuel 5 0 ma) _ from c_pk12 (W := W) (H := H) (m0 := ma) Ra 4096 0 zfuel ma (by decide) (zf_lt (by decide)) rfl (fun _ _ => rfl) (fun j hj => absurd hj (Nat.not_lt_zero _))) (fun q hq => ?_)
  obtain ⟨q0, q1, m1⟩ := q
  obtain ⟨w0, w1, w2, w3⟩ := hq
  dsimp only at w0 w1 w2 w3 ⊢
  subst w0
  have Z1 : cZ m m1 := cZ_t Za ⟨w1, fun k _ _ h9 _ => w2 k h9, fun c _ _ _ _ _ => by rw [w2 5 (by decide)]⟩
  have b1 : cBt P [] m1 := cBt_k ba (w2 6 (by decide)) (by rw [w2 5 (by decide)]) (by rw [w2 5 (by decide)]) (by rw [w2 5 (by decide)])
  have R1 : RF m1.2.2 := by rw [Z1.1]; exact hR
  rw [zoS_h sh_5]
  refine zok_b (c_lo (v := 3) (n := 3) R1 b1 (by decide) (by decide) (by show P.length + 3 / 8 < _; omega)) (fun m2 g2 => ?_)
  have Z2 := cZ_t Z1 (cZ_q g2.1)
  have T2 : kTb R N 0 m2 := ⟨fun k hk => by rw [g2.1.2.1 9 (by decide) (by decide), w3 k hk]; rfl, fun q hq => absurd hq (Nat.not_lt_zero _)⟩
  have b2 : cBt P [1, 1, 0] m2 := g2.2
  refine zok_b (show zok (L_XPacker_packRows_40 (sh0 W H) zfuel 5 0 m2) _ from c_pk40 (W := W) (H := H) (C := 3 + 9 * N) hN (by omega) N 0 zfuel m2 [1, 1, 0] (by omega) (by omega) (zf_lt (by omega)) (by rw [Z2.1]; exact hR) (rwI_Z h Z2) (by rw [Z2.2.2 4 (by decide) (by decide) (by decide) (by decide) (by decide)]; exact h4) T2 b2 (by show 3 + 9 * (N - 0) ≤ _; omega)) (fun q hq => ?_)
  obtain ⟨q0, q1, m3⟩ := q
  obtain ⟨x0, x1, x2, x3⟩ := hq
  dsimp only at x0 x1 x2 x3 ⊢
  subst x0
  have Z3 := cZ_t Z2 x1
  rw [zoS_h sh_5]
  refine zok_b (show zok (F_XPacker_putSign (sh0 W H) m3 5 256) _ from c_sign (s := 256) (by rw [Z3.1]; exact hR) x2 (by decide) (by omega)) (fun m4 g4 => ?_)
  have Z4 := cZ_t Z3 (cZ_q g4.1)
  have b4 : cBt P (allB R N) m4 := g4.2
  have l4 : (allB R N).length ≤ 10 + 9 * N := by
    unfold allB
    rw [List.length_append, hiB_l]
    omega
  have e10 := b4.2.2.2.2.1
  have pad : (8 - m4.1 5 10) &&& 7 = nI ((8 - (allB R N).length % 8) % 8) := by
    rw [e10, show (8 : Int32) = nI 8 from rfl, nI_sub (by omega)]
    have hm := and_msk (x := nI (8 - (allB R N).length % 8)) (k := 3) (s := 8) (by decide) rfl
    have hm' : nI (8 - (allB R N).length % 8) &&& 7 = nI ((nI (8 - (allB R N).length % 8)).toInt % (8 : Nat)).toNat := hm
    rw [hm', nI_toInt (by omega)]
    rfl
  rw [zoS_h sh_5, zoS_h sh_5, pad, zoL_e]
  refine zok_b (show zok (F_XPacker_putLowFirst (sh0 W H) m4 5 0 (nI ((8 - (allB R N).length % 8) % 8))) _ from c_lo (v := 0) (by rw [Z4.1]; exact hR) b4 (by decide) (by omega) (by omega)) (fun m5 g5 => zok_s ⟨cZ_t Z4 (cZ_q g5.1), ?_, l4⟩)
  have g := g5.2
  rw [loB_0] at g
  generalize hd : (8 - (allB R N).length % 8) % 8 = pd at g
  generalize allB R N = bs at *
  obtain ⟨y1, y2, y3, _⟩ := g
  rw [List.length_append, List.length_replicate] at y1 y3
  have en : (bs.length + pd) / 8 = (bs.length + 7) / 8 := by omega
  rw [en] at y1 y3
  refine ⟨by rw [y1, List.length_append, dfl_l], fun k hk => ?_⟩
  rw [List.length_append, dfl_l] at hk
  rw [getD_app]
  by_cases c : k < P.length
  · rw [if_pos c]
    exact y2 k c
  · rw [if_neg c, dfl_g (by omega)]
    have := y3 (k - P.length) (by omega)
    rw [show P.length + (k - P.length) = k by omega, byN_z] at this
    exact this
theorem m_pack {m : zMem} {P : List Int32} {R : Nat → Nat} {N : Nat} (hN : N ≤ 6960) (hR : RF m.2.2) (h : rwI 1279 R N m) (h1 : m.1 1278 1 = nI N) (hb : wB 1278 3 1280 P m) (hP : P.length ≤ 50) : zok (F_MPacker_pack (sh0 W H) m 1278) (fun m' => mQ m m' ∧ wB 1278 3 1280 (P ++ dfl (allB R N)) m') := by
  unfold F_MPacker_pack
  rw [zoS_h sh_1278, zoL_e]
  have Qa : mQ m (mI m 1278 4 0) := ⟨rfl, fun k h5 _ => mI_o h5, fun c _ h4 => by rw [mI_v, if_pos rfl, if_neg h4]⟩
  have ba : mBt P [] (mI m 1278 4 0) := ⟨by rw [mI_v, if_pos rfl, if_neg (by decide)]; exact hb.1, fun k hk => by rw [mI_o (by decide)]; exact hb.2 k hk, fun j hj => absurd hj (Nat.not_lt_zero _), by rw [mI_v, if_pos rfl, if_pos rfl]; rfl, fun i => by show ([] : List Nat).getD i 0 < 2; rw [gD_out (Nat.zero_le _)]; decide⟩
  generalize mI m 1278 4 0 = ma at *
  have Ra : RF ma.2.2 := by rw [Qa.1]; exact hR
  rw [zoS_h sh_1278]
  refine zok_b (show zok (F_MPacker_bit (sh0 W H) ma 1278 1) _ from m_bit (b := 1) Ra ba (by decide) (by show P.length + 0 / 8 < _; omega)) (fun m1 g1 => ?_)
  rw [zoS_h sh_1278]
  refine zok_b (show zok (F_MPacker_bit (sh0 W H) m1 1278 1) _ from m_bit (b := 1) (by rw [g1.1.1]; exact Ra) g1.2 (by decide) (by show P.length + 1 / 8 < _; omega)) (fun m2 g2 => ?_)
  rw [zoS_h sh_1278]
  refine zok_b (show zok (F_MPacker_bit (sh0 W H) m2 1278 0) _ from m_bit (b := 0) (by rw [g2.1.1, g1.1.1]; exact Ra) g2.2 (by decide) (by show P.length + 2 / 8 < _; omega)) (fun m3 g3 => ?_)
  have Q3 := mQ_t Qa (mQ_t g1.1 (mQ_t g2.1 g3.1))
  have b3 : mBt P [1, 1, 0] m3 := g3.2
  refine zok_b (show zok (L_MPacker_pack_22 (sh0 W H) zfuel 1278 0 m3) _ from m_pk22 (W := W) (H := H) (C := 3 + 9 * N) hN (by omega) N 0 zfuel m3 [1, 1, 0] (by omega) (by omega) (zf_lt (by omega)) (by rw [Q3.1]; exact hR) (fun k hk => by rw [Q3.2.1 1279 (by decide) (by decide)]; exact h k hk) (by rw [Q3.2.2 1 (by decide) (by decide)]; exact h1) b3 (by show 3 + 9 * (N - 0) ≤ _; omega)) (fun q hq => ?_)
  obtain ⟨q0, q1, m4⟩ := q
  obtain ⟨x0, x1, x2, x3⟩ := hq
  dsimp only at x0 x1 x2 x3 ⊢
  subst x0
  have Q4 := mQ_t Q3 x1
  rw [zoS_h sh_1278]
  refine zok_b (show zok (F_MPacker_highFirst (sh0 W H) m4 1278 0 7) _ from m_hi (v := 0) (n := 7) (by rw [Q4.1]; exact hR) x2 (by decide) (by decide) (by omega)) (fun m5 g5 => ?_)
  have Q5 := mQ_t Q4 g5.1
  have b5 : mBt P (allB R N) m5 := g5.2
  rw [zoS_h sh_1278, zoL_e]
  refine zok_s ⟨mQ_t Q5 ⟨rfl, fun k h5 _ => mI_o h5, fun c _ h4 => by rw [mI_v, if_pos rfl, if_neg h4]⟩, ?_, fun k hk => ?_⟩
  · rw [mI_v, if_pos rfl, if_neg (by decide), b5.1, List.length_append, dfl_l]
  · rw [List.length_append, dfl_l] at hk
    rw [mI_o (by decide), getD_app]
    by_cases c : k < P.length
    · rw [if_pos c]
      exact b5.2.1 k c
    · rw [if_neg c, dfl_g (by omega)]
      have := b5.2.2.1 (k - P.length) (by omega)
      rw [show P.length + (k - P.length) = k by omega] at this
      exact this
end ZPK
