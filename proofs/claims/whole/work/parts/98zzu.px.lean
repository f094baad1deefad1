/-! PURE: the picture's invariant; a pixel and its nearness -/
section ZPI
variable {W H : Nat} {mm : zMem}
def nT (W H : Nat) : Nat := (W + 7) / 8 * ((H + 7) / 8)
def tlN (W x y : Nat) : Nat := (W + 7) / 8 * (y / 8) + x / 8
theorem tlN_lt {x y : Nat} (hx : x < W) (hy : y < H) : tlN W x y < nT W H := by
  have h := Nat.mul_le_mul_left ((W + 7) / 8) (show y / 8 + 1 ≤ (H + 7) / 8 by omega)
  rw [Nat.mul_add] at h
  unfold tlN nT
  omega
theorem nT_le (hW48 : W ≤ 48) (hH48 : H ≤ 48) : nT W H ≤ 36 := Nat.mul_le_mul (show (W + 7) / 8 ≤ 6 by omega) (show (H + 7) / 8 ≤ 6 by omega)
/-- which pixels a tile has -/
theorem tile_px {x y k : Nat} (hW8 : 8 ≤ W) (hx : x < W) (hy : y < H) : inR (tl W k) (tt W k) (tr W k) (tb W H k) x y = decide (tlN W x y = k) := by
  unfold inR tr tb tl tt tlN
  apply decide_eq_decide.mpr
  have hp : 0 < (W + 7) / 8 := by omega
  have hxa : x / 8 < (W + 7) / 8 := by omega
  have hm : k % ((W + 7) / 8) < (W + 7) / 8 := Nat.mod_lt _ hp
  have hd := Nat.div_add_mod k ((W + 7) / 8)
  generalize (W + 7) / 8 = a at *
  constructor
  · intro h
    have e1 : x / 8 = k % a := by omega
    have e2 : y / 8 = k / a := by omega
    rw [e1, e2]
    exact hd
  · intro h
    have e1 : k % a = x / 8 := by
      rw [← h, Nat.mul_add_mod, Nat.mod_eq_of_lt hxa]
    have e2 : k / a = y / 8 := by
      rw [← h, Nat.mul_add_div hp, Nat.div_eq_of_lt hxa, Nat.add_zero]
    rw [e1, e2]
    omega
/-- a picture that began -/
def PXb (W H s : Nat) (S S' : Nat → Nat → pSt) (gr : Nat → Nat) (N : Nat) (mm : zMem) : Prop := gS s ∧ SB s (fun a => mm.1 (1247 + a)) ((PLr W H mm.1 1247).take 36864) mm ∧ Wsc (fun a => mm.1 (1247 + a)) ∧ Wtx (fun a => mm.1 (1247 + a)) ∧ (mm.1 1178 7 = pk (gr 0) (gr 1) (gr 2) ∧ ∀ k, k < 3 → gr k < 256) ∧ (mm.2.1 1178 13 = oL N ∧ N < 2 ^ nT W H ∧ ∀ k, k < nT W H → N.testBit k = decide (¬ mm.1 1282 k = 0)) ∧ PXM W H S mm ∧ CPX W H S' mm ∧ ∀ x, x < W → ∀ y, y < H → if N.testBit (tlN W x y) = true then S x y = S' x y else S x y = ((fun k => nI (gr k)), 0)
def PX (W H : Nat) (mm : zMem) : Prop := hAB mm ∧ (∃ S', CPX W H S' mm) ∧ ((mm.1 1178 12 = 0 ∧ mm.1 1185 15 = 0) ∨ (mm.1 1178 12 = 1 ∧ mm.1 1185 15 = 1 ∧ ∃ s S S' gr N, PXb W H s S S' gr N mm))
theorem SB_30 {s : Nat} {g g' : Nat → Nat → Int32} {D : List Pc} {m : zMem} (h : ∀ q, q < 30 → g q = g' q) (k : SB s g D m) : SB s g' D m := by
  have i : ∀ g, SB s (cl30 g) D m = SB s g D m := fun _ => rfl
  rw [← i g', ← cl30_e h, i]
  exact k
theorem Wtx_30 {g g' : Nat → Nat → Int32} (h : ∀ q, q < 30 → g q = g' q) (k : Wtx g) : Wtx g' := by
  have i : ∀ g, Wtx (cl30 g) = Wtx g := fun _ => rfl
  rw [← i g', ← cl30_e h, i]
  exact k
theorem PX_ag {m m' : zMem} (h : PX W H m) (k : agP m m') (hR : RF m'.2.2) : PX W H m' := by
  obtain ⟨⟨A, B, a1, a2, a3⟩, ⟨S0, hS0⟩, hb⟩ := h
  obtain ⟨k1, k2, k3, k4, k5, k6⟩ := k
  rw [Prod.mk.injEq, Prod.mk.injEq] at k1
  obtain ⟨r1, r2, r3⟩ := k1
  have i8 := k4 1178 (by omega)
  have i3 := k4 1183 (by omega)
  have i4 := k4 1184 (by omega)
  have cpx : ∀ S, CPX W H S m → CPX W H S m' := fun S hS x hx y hy => by
    rw [i3, i4]
    exact hS x hx y hy
  refine ⟨⟨A, B, a1, by rw [r2]; exact a2, by rw [r3]; exact a3⟩, ⟨S0, cpx S0 hS0⟩, ?_⟩
  rw [i8, k5]
  rcases hb with hb | ⟨b1, b2, s, S, S', gr, N, p1, p2, p3, p4, p5, p6, p7, p8, p9⟩
  · exact Or.inl hb
  · refine Or.inr ⟨b1, b2, s, S, S', gr, N, p1, ?_, ?_, ?_, by rw [i8]; exact p5, by rw [k2, k4 1282 (by omega)]; exact p6, ?_, cpx S' p8, p9⟩
    · have rows : ∀ q, q < 30 → m'.1 (1247 + q) = m.1 (1247 + q) := fun q hq => k4 _ (by omega)
      have e := PLr_g (W := W) (H := H) rows
      rw [e]
      refine SB_30 (g := fun a => m.1 (1247 + a)) (fun q hq => (rows q hq).symm) ?_
      obtain ⟨q1, q2, q3, q4, q5, q6, q7, q8⟩ := p2
      have sc := k6 s q2
      refine ⟨hR, by rw [r1]; exact q2, fun n p hp => by rw [k4 1179 (by omega), k4 1180 (by omega)]; exact q3 n p hp, by rw [i8]; exact q4, q5, fun i hi => ⟨?_, (q6 i hi).2⟩, fun t ht => ?_, q8⟩
      · have hi16 : i < 16 := by have := q8.1; omega
        unfold RmtG
        rw [sc _ (by omega)]
        exact (q6 i hi).1
      · have ht8 : t < 8 := by have := q8.2.1; omega
        exact RtxN_a (q7 t ht) (sc _ (by unfold txA; omega)) (sc _ (by unfold txA; omega)) (sc _ (by unfold txA; omega))
    · exact Wsc_g (fun q hq => k4 _ (by omega)) p3
    · exact Wtx_30 (fun q hq => (k4 _ (by omega)).symm) p4
    · intro x hx y hy
      rw [k4 1283 (by omega), k3]
      exact p7 x hx y hy
/-- is it a pixel -/
def isP (W H : Nat) (x y : Int32) : Bool := decide ((0 ≤ x.toInt ∧ x.toInt < W) ∧ 0 ≤ y.toInt ∧ y.toInt < H)
theorem e_hasP {x y : Int32} (h0 : mm.1 0 0 = nI W) (h1 : mm.1 0 1 = nI H) (hW8 : 8 ≤ W) (hH8 : 8 ≤ H) (hW48 : W ≤ 48) (hH48 : H ≤ 48) : F_OB_hasPixel (sh0 W H) mm 0 x y = some (b32 (isP W H x y), mm) := by
  have w1 : (nI W - 1).toInt = (W : Int) - 1 := i32_m1 (by omega)
  have w2 : (nI H - 1).toInt = (H : Int) - 1 := i32_m1 (by omega)
  have z0 : (0 : Int32).toInt = 0 := rfl
  unfold F_OB_hasPixel isP
  rw [zoS_h sh_0, h0, h1]
  by_cases c1 : sp_OB_within x 0 (nI W - 1) = 0
  · rw [if_pos c1]
    rw [wi_0, w1, z0] at c1
    rw [decide_eq_false (by omega)]
    rfl
  · rw [if_neg c1, zoS_h sh_0]
    rw [wi_0, w1, z0] at c1
    by_cases c2 : sp_OB_within y 0 (nI H - 1) = 0
    · rw [if_pos c2]
      rw [wi_0, w2, z0] at c2
      rw [decide_eq_false (by omega)]
      rfl
    · rw [if_neg c2]
      rw [wi_0, w2, z0] at c2
      rw [decide_eq_true (by omega)]
      rfl
theorem e_isp {x y : Int32} (h0 : mm.1 1185 0 = nI W) (h1 : mm.1 1185 1 = nI H) (hW48 : W ≤ 48) (hH48 : H ≤ 48) : F_MD_isPixel (sh0 W H) mm 1185 x y = some (b32 (isP W H x y), mm) := by
  have w1 : (nI W).toInt = (W : Int) := nI_toInt (by omega)
  have w2 : (nI H).toInt = (H : Int) := nI_toInt (by omega)
  have z0 : (0 : Int32).toInt = 0 := rfl
  unfold F_MD_isPixel isP
  by_cases c1 : x.toInt < 0
  · rw [if_pos (by rw [i32_lt, z0]; exact c1), decide_eq_false (by omega)]
    rfl
  rw [if_neg (by rw [i32_lt, z0]; exact c1), zoS_h sh_1185, h0]
  by_cases c2 : x.toInt < W
  · rw [if_neg (by rw [i32_le, w1]; omega)]
    by_cases c3 : y.toInt < 0
    · rw [if_pos (by rw [i32_lt, z0]; exact c3), decide_eq_false (by omega)]
      rfl
    rw [if_neg (by rw [i32_lt, z0]; exact c3), zoS_h sh_1185, h1]
    by_cases c4 : y.toInt < H
    · rw [if_neg (by rw [i32_le, w2]; omega), decide_eq_true (by omega)]
      rfl
    · rw [if_pos (by rw [i32_le, w2]; omega), decide_eq_false (by omega)]
      rfl
  · rw [if_pos (by rw [i32_le, w1]; omega), decide_eq_false (by omega)]
    rfl
theorem isP_y {x y : Int32} (h : isP W H x y = true) : ∃ a b, a < W ∧ b < H ∧ x = nI a ∧ y = nI b := by
  unfold isP at h
  have h := of_decide_eq_true h
  obtain ⟨e1, f1⟩ := i32_cl h.1.1
  obtain ⟨e2, f2⟩ := i32_cl h.2.1
  exact ⟨_, _, by omega, by omega, e1, e2⟩
theorem tlN_I {a b : Nat} (ha : a < W) (hb : b < H) (hW48 : W ≤ 48) (hH48 : H ≤ 48) : (nI b / 8) * nI ((W + 7) / 8) + nI a / 8 = nI (tlN W a b) ∧ nI ((W + 7) / 8) * (nI b / 8) + nI a / 8 = nI (tlN W a b) := by
  have d1 : nI a / (8 : Int32) = nI (a / 8) := nI_div (b := 8) (by omega) (by decide) (by decide)
  have d2 : nI b / (8 : Int32) = nI (b / 8) := nI_div (b := 8) (by omega) (by decide) (by decide)
  rw [d1, d2, nI_mul, nI_mul, nI_pp, nI_pp]
  unfold tlN
  exact ⟨by rw [Nat.mul_comm], rfl⟩
theorem e_shw {a b N : Nat} (ha : a < W) (hb : b < H) (hW48 : W ≤ 48) (hH48 : H ≤ 48) (h12 : mm.1 1178 12 = 1) (h6 : mm.1 1178 6 = nI ((W + 7) / 8)) (hN : mm.2.1 1178 13 = oL N) (hN2 : N < 2 ^ nT W H) : F_XPicture_shows (sh0 W H) mm 1178 (nI a) (nI b) = some (b32 (N.testBit (tlN W a b)), mm) := by
  have h36 : 2 ^ nT W H ≤ 2 ^ 36 := Nat.pow_le_pow_right (by decide) (nT_le hW48 hH48)
  have hk := tlN_lt (W := W) (H := H) ha hb
  have h36' := nT_le hW48 hH48
  have hb := bt_11 (N := N) (k := tlN W a b) (by omega) (by omega)
  unfold F_XPicture_shows
  rw [zoS_h sh_1178, h12, if_neg (by decide), zoS_h sh_1178, zoS_h sh_1178, h6, hN, (tlN_I ha ‹b < H› hW48 hH48).1]
  cases e : N.testBit (tlN W a b) with
  | true =>
    rw [if_pos (hb.mpr e)]
    rfl
  | false =>
    rw [if_neg (fun q => by rw [hb.mp q] at e; cases e)]
    rfl
theorem e_across (h0 : mm.1 1185 0 = nI W) (hW48 : W ≤ 48) : F_MD_across (sh0 W H) mm 1185 = some (nI ((W + 7) / 8), mm) := by
  have d : nI (W + 7) / (8 : Int32) = nI ((W + 7) / 8) := nI_div (b := 8) (by omega) (by decide) (by decide)
  unfold F_MD_across
  rw [zoS_h sh_1185, h0, show (7 : Int32) = nI 7 from rfl, nI_pp, d]
theorem e_tiles (h0 : mm.1 1185 0 = nI W) (h1 : mm.1 1185 1 = nI H) (hW48 : W ≤ 48) (hH48 : H ≤ 48) : F_MD_tiles (sh0 W H) mm 1185 = some (nI (nT W H), mm) := by
  have d : nI (H + 7) / (8 : Int32) = nI ((H + 7) / 8) := nI_div (b := 8) (by omega) (by decide) (by decide)
  unfold F_MD_tiles
  rw [zoS_h sh_1185, zob_h (e_across (H := H) h0 hW48)]
  dsimp only
  rw [zoS_h sh_1185, h1, show (7 : Int32) = nI 7 from rfl, nI_pp, d, nI_mul]
  rfl
theorem e_isd {a b : Nat} (hR : RF mm.2.2) (ha : a < W) (hb : b < H) (hW48 : W ≤ 48) (hH48 : H ≤ 48) (h0 : mm.1 1185 0 = nI W) (h1 : mm.1 1185 1 = nI H) (h15 : mm.1 1185 15 = 1) : F_MD_isDone (sh0 W H) mm 1185 (nI a) (nI b) = some (b32 (decide (¬ mm.1 1282 (tlN W a b) = 0)), mm) := by
  have hk := tlN_lt (W := W) (H := H) ha hb
  have h36' := nT_le hW48 hH48
  have hP : isP W H (nI a) (nI b) = true := by
    unfold isP
    rw [nI_toInt (by omega), nI_toInt (by omega)]
    exact decide_eq_true (by omega)
  unfold F_MD_isDone
  rw [zoS_h sh_1185, h15, if_neg (by decide), zoS_h sh_1185, zob_h (e_isp h0 h1 hW48 hH48), hP]
  dsimp only
  rw [if_neg (show ¬ b32 true = 0 by decide), zoS_h sh_1185, zob_h (rf_1185_16 hR), zoS_h sh_1185, zob_h (e_across (H := H) h0 hW48)]
  dsimp only
  rw [(tlN_I ha hb hW48 hH48).2, zoL_e, zoS_h sh_1282, nI_ix (by omega) (by decide), nI_cl (n := tlN W a b) (by omega)]
  by_cases c : mm.1 1282 (tlN W a b) = 0
  · rw [if_pos c, decide_eq_false (fun q => q c)]
    rfl
  · rw [if_neg c, decide_eq_true c]
    rfl
end ZPI
