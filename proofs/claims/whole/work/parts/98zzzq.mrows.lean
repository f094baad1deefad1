/-! PURE: both packers make their rows -/
section ZMK
variable {W H : Nat}
def RWf (c : Nat → Nat) (l k : Nat) : Nat := if k % (l + 1) = 0 then bsY c l (k / (l + 1)) else flN c l (bsY c l (k / (l + 1))) (k % (l + 1) - 1) (k / (l + 1))
theorem bsY_b {c : Nat → Nat} {l y : Nat} (hl : l ≤ 144) : bsY c l y < 5 := (bfS_b (sm := smY c l y) (fun f => smY_b (c := c) (y := y) (f := f) hl) 5 (Nat.le_refl _)).1
theorem RWf_0 {c : Nat → Nat} {l y : Nat} : RWf c l (y * (l + 1)) = bsY c l y := by
  unfold RWf
  rw [Nat.mul_mod_left, if_pos rfl, Nat.mul_div_cancel _ (by omega)]
theorem RWf_x {c : Nat → Nat} {l y x : Nat} (hx : x < l) : RWf c l (y * (l + 1) + 1 + x) = flN c l (bsY c l y) x y := by
  have e1 : (y * (l + 1) + 1 + x) % (l + 1) = 1 + x := by
    rw [Nat.add_assoc, Nat.mul_comm, Nat.mul_add_mod, Nat.mod_eq_of_lt (by omega)]
  have e2 : (y * (l + 1) + 1 + x) / (l + 1) = y := by
    rw [Nat.add_assoc, Nat.mul_comm, Nat.mul_add_div (by omega), Nat.div_eq_of_lt (by omega), Nat.add_zero]
  unfold RWf
  rw [e1, e2, if_neg (by omega), show 1 + x - 1 = x by omega]
theorem rw_ext {A o sf n : Nat} {R : Nat → Nat} {m : zMem} (hA : A ≠ o) (h : rwI A R n m) (hb : R n < 256) : rwI A R (n + 1) (mI (mI m A n (nI (R n))) o sf (nI (n + 1))) := fun k hk => by
  rw [mI_o hA, mI_v, if_pos rfl]
  by_cases e : k = n
  · rw [if_pos e, e]
    exact ⟨hb, rfl⟩
  · rw [if_neg e]
    exact h k (by omega)
/-- what making rows leaves -/
def rF (o sf A : Nat) (m m' : zMem) : Prop := m'.2 = m.2 ∧ (∀ k, k ≠ o → k ≠ A → m'.1 k = m.1 k) ∧ ∀ c, c ≠ sf → m'.1 o c = m.1 o c
theorem rF_t {o sf A : Nat} {m m' m'' : zMem} (h : rF o sf A m m') (k : rF o sf A m' m'') : rF o sf A m m'' := ⟨k.1.trans h.1, fun x h1 h2 => (k.2.1 x h1 h2).trans (h.2.1 x h1 h2), fun x h1 => (k.2.2 x h1).trans (h.2.2 x h1)⟩
theorem rF_s {o sf A n : Nat} {v w : Int32} {m : zMem} (hA : A ≠ o) : rF o sf A m (mI (mI m A n v) o sf w) := ⟨rfl, fun k h1 h2 => by rw [mI_o h1, mI_o h2], fun c hc => by rw [mI_v, if_pos rfl, if_neg hc, mI_o hA.symm]⟩
theorem rF_r {o sf A : Nat} {m : zMem} : rF o sf A m m := ⟨rfl, fun _ _ _ => rfl, fun _ _ => rfl⟩
theorem c_rw44 {c : Nat → Nat} {l M y : Nat} {v2 : Int32} (hM : M ≤ 6912) (hl3 : 3 ≤ l) (hl : l ≤ 144) (hy : y < 48) (hyM : y * l + l ≤ M) : ∀ (d x fuel : Nat) (m : zMem), x + d = l → d < fuel → RF m.2.2 → rwI 7 c M m → m.1 5 4 = nI (y * (l + 1) + 1 + x) → rwI 8 (RWf c l) (y * (l + 1) + 1 + x) m → zok (L_XPacker_makeRows_44 (sh0 W H) fuel 5 (nI l) v2 (nI y) (nI (bsY c l y)) (nI x) m) (fun q => q.1 = 5 ∧ q.2.1 = nI l ∧ q.2.2.1 = v2 ∧ q.2.2.2.1 = nI y ∧ rF 5 4 8 m q.2.2.2.2.2.2 ∧ q.2.2.2.2.2.2.1 5 4 = nI ((y + 1) * (l + 1)) ∧ rwI 8 (RWf c l) ((y + 1) * (l + 1)) q.2.2.2.2.2.2) := by
  have e48 : y * (l + 1) ≤ 47 * (l + 1) := Nat.mul_le_mul_right _ (by omega)
  have es : (y + 1) * (l + 1) = y * (l + 1) + 1 + l := by rw [Nat.add_mul, Nat.one_mul]; omega
  intro d
  induction d with
  | zero =>
    intro x fuel m hx hf hR h7 h4 h8
    obtain ⟨fu, rfl⟩ : ∃ fu, fuel = fu + 1 := ⟨fuel - 1, by omega⟩
    obtain rfl : x = l := by omega
    rw [L_XPacker_makeRows_44, if_pos (by rw [nI_leD (by omega) (by omega)]; omega)]
    rw [← es] at h4 h8
    exact zok_s ⟨rfl, rfl, rfl, rfl, rF_r, h4, h8⟩
  | succ d ih =>
    intro x fuel m hx hf hR h7 h4 h8
    obtain ⟨fu, rfl⟩ : ∃ fu, fuel = fu + 1 := ⟨fuel - 1, by omega⟩
    have sx := sh_5 (W := W) (H := H)
    have ev := RWf_x (c := c) (l := l) (y := y) (x := x) (by omega)
    rw [L_XPacker_makeRows_44, if_neg (by rw [nI_leD (by omega) (by omega)]; omega), zoS_h sx, zob_h (rf_5_3 hR), zoS_h sx, zoS_h sx, zob_h (c_fil (W := W) (H := H) hR h7 hM (bsY_b hl) hl3 hl (show x < l by omega) hy (by omega))]
    dsimp only
    rw [h4, zoL_e, zoS_h sh_8, nI_ix (by omega) (by decide), nI_cl (n := y * (l + 1) + 1 + x) (by omega), zoL_e, zoS_h sx, mI_o (show 5 ≠ 8 by decide), h4, nI_p1, zoL_e, zoS_h sx, zoL_e, nI_p1, ← ev]
    have F := rF_s (o := 5) (sf := 4) (A := 8) (n := y * (l + 1) + 1 + x) (v := nI (RWf c l (y * (l + 1) + 1 + x))) (w := nI (y * (l + 1) + 1 + x + 1)) (m := m) (by decide)
    have h8' := rw_ext (A := 8) (o := 5) (sf := 4) (by decide) h8 (by rw [ev]; exact flN_b)
    refine zok_w (ih (x + 1) fu _ (by omega) (by omega) hR (fun k hk => by rw [F.2.1 7 (by decide) (by decide)]; exact h7 k hk) (by rw [mI_v, if_pos rfl, if_pos rfl]; rfl) h8') (fun q hq => ⟨hq.1, hq.2.1, hq.2.2.1, hq.2.2.2.1, rF_t F hq.2.2.2.2.1, hq.2.2.2.2.2⟩)
theorem c_rw7 {c : Nat → Nat} {l hh : Nat} (hM : hh * l ≤ 6912) (hl3 : 3 ≤ l) (hl : l ≤ 144) (hh48 : hh ≤ 48) : ∀ (d y fuel : Nat) (m : zMem), y + d = hh → d < fuel → RF m.2.2 → rwI 7 c (hh * l) m → m.1 5 4 = nI (y * (l + 1)) → rwI 8 (RWf c l) (y * (l + 1)) m → zok (L_XPacker_makeRows_7 (sh0 W H) fuel 5 (nI l) (nI hh) (nI y) m) (fun q => rF 5 4 8 m q.2.2.2.2 ∧ q.2.2.2.2.1 5 4 = nI (hh * (l + 1)) ∧ rwI 8 (RWf c l) (hh * (l + 1)) q.2.2.2.2) := by
  intro d
  induction d with
  | zero =>
    intro y fuel m hy hf hR h7 h4 h8
    obtain ⟨fu, rfl⟩ : ∃ fu, fuel = fu + 1 := ⟨fuel - 1, by omega⟩
    obtain rfl : y = hh := by omega
    rw [L_XPacker_makeRows_7, if_pos (by rw [nI_leD (by omega) (by omega)]; omega)]
    exact zok_s ⟨rF_r, h4, h8⟩
  | succ d ih =>
    intro y fuel m hy hf hR h7 h4 h8
    obtain ⟨fu, rfl⟩ : ∃ fu, fuel = fu + 1 := ⟨fuel - 1, by omega⟩
    have sx := sh_5 (W := W) (H := H)
    have e48 : y * (l + 1) ≤ 47 * (l + 1) := Nat.mul_le_mul_right _ (by omega)
    have eM : (y + 1) * l ≤ hh * l := Nat.mul_le_mul_right _ (by omega)
    rw [Nat.add_mul, Nat.one_mul] at eM
    rw [L_XPacker_makeRows_7, if_neg (by rw [nI_leD (by omega) (by omega)]; omega), zoS_h sx, zob_h (c_best (W := W) (H := H) hR h7 hM hl3 hl (show y < 48 by omega) eM)]
    dsimp only
    rw [zoS_h sx, zob_h (rf_5_3 hR), zoS_h sx, h4, zoL_e, zoS_h sh_8, nI_ix (by omega) (by decide), nI_cl (n := y * (l + 1)) (by omega), zoL_e, zoS_h sx, mI_o (show 5 ≠ 8 by decide), h4, nI_p1, zoL_e, zoS_h sx, zoL_e]
    have F := rF_s (o := 5) (sf := 4) (A := 8) (n := y * (l + 1)) (v := nI (bsY c l y)) (w := nI (y * (l + 1) + 1)) (m := m) (by decide)
    have h8' := rw_ext (A := 8) (o := 5) (sf := 4) (by decide) h8 (by rw [RWf_0]; have := bsY_b (c := c) (y := y) hl; omega)
    rw [RWf_0] at h8'
    have R1 : RF (mI (mI m 8 (y * (l + 1)) (nI (bsY c l y))) 5 4 (nI (y * (l + 1) + 1))).2.2 := hR
    have h41 : (mI (mI m 8 (y * (l + 1)) (nI (bsY c l y))) 5 4 (nI (y * (l + 1) + 1))).1 5 4 = nI (y * (l + 1) + 1 + 0) := by rw [mI_v, if_pos rfl, if_pos rfl]
    generalize mI (mI m 8 (y * (l + 1)) (nI (bsY c l y))) 5 4 (nI (y * (l + 1) + 1)) = m1 at *
    have h71 : rwI 7 c (hh * l) m1 := fun k hk => by rw [F.2.1 7 (by decide) (by decide)]; exact h7 k hk
    refine zok_b (show zok (L_XPacker_makeRows_44 (sh0 W H) zfuel 5 (nI l) (nI hh) (nI y) (nI (bsY c l y)) 0 m1) _ from c_rw44 (W := W) (H := H) (v2 := nI hh) hM hl3 hl (show y < 48 by omega) eM l 0 zfuel m1 (by omega) (zf_lt (by omega)) R1 h71 h41 h8') (fun q hq => ?_)
    obtain ⟨q0, q1, q2, q3, q4, q5, m2⟩ := q
    obtain ⟨w0, w1, w2, w3, w4, w5, w6⟩ := hq
    dsimp only at w0 w1 w2 w3 w4 w5 w6 ⊢
    subst w0 w1 w2 w3
    rw [nI_p1]
    have F2 := rF_t F w4
    refine zok_w (ih (y + 1) fu m2 (by omega) (by omega) (by rw [F2.1]; exact hR) (fun k hk => by rw [F2.2.1 7 (by decide) (by decide)]; exact h7 k hk) w5 w6) (fun q hq => ⟨rF_t F2 hq.1, hq.2⟩)
theorem m_rw112 {c : Nat → Nat} {M y : Nat} (hM : M ≤ 6912) (hW8 : 8 ≤ W) (hW : W ≤ 48) (hy : y < 48) (hyM : y * (3 * W) + 3 * W ≤ M) : ∀ (d x fuel : Nat) (m : zMem), x + d = 3 * W → d < fuel → mPk c W M m → m.1 1278 1 = nI (y * (3 * W + 1) + 1 + x) → rwI 1279 (RWf c (3 * W)) (y * (3 * W + 1) + 1 + x) m → zok (L_MPacker_row_112 (sh0 W H) fuel 1278 (nI y) (nI (bsY c (3 * W) y)) (nI x) m) (fun q => rF 1278 1 1279 m q.2.2.2.2 ∧ q.2.2.2.2.1 1278 1 = nI ((y + 1) * (3 * W + 1)) ∧ rwI 1279 (RWf c (3 * W)) ((y + 1) * (3 * W + 1)) q.2.2.2.2) := by
  have e48 : y * (3 * W + 1) ≤ 47 * (3 * W + 1) := Nat.mul_le_mul_right _ (by omega)
  have es : (y + 1) * (3 * W + 1) = y * (3 * W + 1) + 1 + 3 * W := by rw [Nat.add_mul, Nat.one_mul]; omega
  intro d
  induction d with
  | zero =>
    intro x fuel m hx hf hP h4 h8
    obtain ⟨fu, rfl⟩ : ∃ fu, fuel = fu + 1 := ⟨fuel - 1, by omega⟩
    obtain rfl : x = 3 * W := by omega
    rw [L_MPacker_row_112, zoS_h sh_1278, hP.2.2.1, nI_3mul, if_pos (by rw [nI_leD (by omega) (by omega)]; omega)]
    rw [← es] at h4 h8
    exact zok_s ⟨rF_r, h4, h8⟩
  | succ d ih =>
    intro x fuel m hx hf hP h4 h8
    obtain ⟨fu, rfl⟩ : ∃ fu, fuel = fu + 1 := ⟨fuel - 1, by omega⟩
    have sx := sh_1278 (W := W) (H := H)
    have hR := hP.1
    have ev := RWf_x (c := c) (l := 3 * W) (y := y) (x := x) (by omega)
    rw [L_MPacker_row_112, zoS_h sx, hP.2.2.1, nI_3mul, if_neg (by rw [nI_leD (by omega) (by omega)]; omega), zoS_h sx, zob_h (rf_1278_0 hR), zoS_h sx, zoS_h sx, zob_h (m_less (H := H) hP hM hW8 hW (bsY_b (by omega)) (show x < 3 * W by omega) hy (by omega))]
    dsimp only
    rw [h4, zoL_e, zoS_h sh_1279, nI_ix (by omega) (by decide), nI_cl (n := y * (3 * W + 1) + 1 + x) (by omega), zoL_e, zoS_h sx, mI_o (show 1278 ≠ 1279 by decide), h4, nI_p1, zoL_e, zoS_h sx, zoL_e, nI_p1, ← ev]
    have F := rF_s (o := 1278) (sf := 1) (A := 1279) (n := y * (3 * W + 1) + 1 + x) (v := nI (RWf c (3 * W) (y * (3 * W + 1) + 1 + x))) (w := nI (y * (3 * W + 1) + 1 + x + 1)) (m := m) (by decide)
    have h8' := rw_ext (A := 1279) (o := 1278) (sf := 1) (by decide) h8 (by rw [ev]; exact flN_b)
    refine zok_w (ih (x + 1) fu _ (by omega) (by omega) ⟨hR, hP.2.1, by rw [F.2.2 5 (by decide)]; exact hP.2.2.1, fun k hk => by rw [F.2.1 1283 (by decide) (by decide)]; exact hP.2.2.2 k hk⟩ (by rw [mI_v, if_pos rfl, if_pos rfl]; rfl) h8') (fun q hq => ⟨rF_t F hq.1, hq.2⟩)
theorem m_rowY {c : Nat → Nat} {M y : Nat} {m : zMem} (hM : M ≤ 6912) (hW8 : 8 ≤ W) (hW : W ≤ 48) (hy : y < 48) (hyM : y * (3 * W) + 3 * W ≤ M) (hP : mPk c W M m) (h4 : m.1 1278 1 = nI (y * (3 * W + 1))) (h8 : rwI 1279 (RWf c (3 * W)) (y * (3 * W + 1)) m) : zok (F_MPacker_row (sh0 W H) m 1278 (nI y)) (fun m' => rF 1278 1 1279 m m' ∧ m'.1 1278 1 = nI ((y + 1) * (3 * W + 1)) ∧ rwI 1279 (RWf c (3 * W)) ((y + 1) * (3 * W + 1)) m') := by
  have e48 : y * (3 * W + 1) ≤ 47 * (3 * W + 1) := Nat.mul_le_mul_right _ (by omega)
  have sx := sh_1278 (W := W) (H := H)
  have hR := hP.1
  obtain ⟨z, hz⟩ := m_row7 (H := H) hP hM hW8 hW hy hyM 5 0 zfuel (by decide) (zf_lt (by decide))
  unfold F_MPacker_row
  rw [zob_h (show L_MPacker_row_7 (sh0 W H) zfuel 1278 (nI y) 0 0 0 m = _ from hz)]
  dsimp only
  rw [zoS_h sx, zob_h (rf_1278_0 hR), zoS_h sx, h4, zoL_e, zoS_h sh_1279, nI_ix (by omega) (by decide), nI_cl (n := y * (3 * W + 1)) (by omega), zoL_e, zoS_h sx, mI_o (show 1278 ≠ 1279 by decide), h4, nI_p1, zoL_e, zoS_h sx, zoL_e]
  have F := rF_s (o := 1278) (sf := 1) (A := 1279) (n := y * (3 * W + 1)) (v := nI (bsY c (3 * W) y)) (w := nI (y * (3 * W + 1) + 1)) (m := m) (by decide)
  have h8' := rw_ext (A := 1279) (o := 1278) (sf := 1) (by decide) h8 (by rw [RWf_0]; have := bsY_b (c := c) (l := 3 * W) (y := y) (by omega); omega)
  rw [RWf_0] at h8'
  have h41 : (mI (mI m 1279 (y * (3 * W + 1)) (nI (bsY c (3 * W) y))) 1278 1 (nI (y * (3 * W + 1) + 1))).1 1278 1 = nI (y * (3 * W + 1) + 1 + 0) := by rw [mI_v, if_pos rfl, if_pos rfl]
  generalize mI (mI m 1279 (y * (3 * W + 1)) (nI (bsY c (3 * W) y))) 1278 1 (nI (y * (3 * W + 1) + 1)) = m1 at *
  have hP1 : mPk c W M m1 := ⟨by rw [F.1]; exact hR, by rw [F.1]; exact hP.2.1, by rw [F.2.2 5 (by decide)]; exact hP.2.2.1, fun k hk => by rw [F.2.1 1283 (by decide) (by decide)]; exact hP.2.2.2 k hk⟩
  exact zok_b (show zok (L_MPacker_row_112 (sh0 W H) zfuel 1278 (nI y) (nI (bsY c (3 * W) y)) 0 m1) _ from m_rw112 (H := H) hM hW8 hW hy hyM (3 * W) 0 zfuel m1 (by omega) (zf_lt (by omega)) hP1 h41 h8') (fun q hq => zok_s ⟨rF_t F hq.1, hq.2⟩)
theorem m_rw91 {c : Nat → Nat} {hh : Nat} (hM : hh * (3 * W) ≤ 6912) (hW8 : 8 ≤ W) (hW : W ≤ 48) (hh48 : hh ≤ 48) : ∀ (d y fuel : Nat) (m : zMem), y + d = hh → d < fuel → mPk c W (hh * (3 * W)) m → m.1 1278 1 = nI (y * (3 * W + 1)) → rwI 1279 (RWf c (3 * W)) (y * (3 * W + 1)) m → zok (L_MPacker_write_91 (sh0 W H) fuel 1278 (nI hh) (nI y) m) (fun q => q.1 = 1278 ∧ rF 1278 1 1279 m q.2.2.2 ∧ q.2.2.2.1 1278 1 = nI (hh * (3 * W + 1)) ∧ rwI 1279 (RWf c (3 * W)) (hh * (3 * W + 1)) q.2.2.2) := by
  intro d
  induction d with
  | zero =>
    intro y fuel m hy hf hP h4 h8
    obtain ⟨fu, rfl⟩ : ∃ fu, fuel = fu + 1 := ⟨fuel - 1, by omega⟩
    obtain rfl : y = hh := by omega
    rw [L_MPacker_write_91, if_pos (by rw [nI_leD (by omega) (by omega)]; omega)]
    exact zok_s ⟨rfl, rF_r, h4, h8⟩
  | succ d ih =>
    intro y fuel m hy hf hP h4 h8
    obtain ⟨fu, rfl⟩ : ∃ fu, fuel = fu + 1 := ⟨fuel - 1, by omega⟩
    have eM : (y + 1) * (3 * W) ≤ hh * (3 * W) := Nat.mul_le_mul_right _ (by omega)
    rw [Nat.add_mul, Nat.one_mul] at eM
    rw [L_MPacker_write_91, if_neg (by rw [nI_leD (by omega) (by omega)]; omega), zoS_h sh_1278]
    refine zok_b (m_rowY (H := H) hM hW8 hW (show y < 48 by omega) eM hP h4 h8) (fun m1 g => ?_)
    rw [nI_p1]
    obtain ⟨F, g1, g2⟩ := g
    refine zok_w (ih (y + 1) fu m1 (by omega) (by omega) ⟨by rw [F.1]; exact hP.1, by rw [F.1]; exact hP.2.1, by rw [F.2.2 5 (by decide)]; exact hP.2.2.1, fun k hk => by rw [F.2.1 1283 (by decide) (by decide)]; exact hP.2.2.2 k hk⟩ g1 g2) (fun q hq => ⟨hq.1, rF_t F hq.2.1, hq.2.2⟩)
/-- the class takes the colours apart -/
theorem c_raw2 {c : Nat → Nat} {T : Nat} (hT : T = W * H) (hT2 : T ≤ 2304) : ∀ (d i fuel : Nat) (m : zMem), i + d = T → d < fuel → RF m.2.2 → (∀ k, k < T → m.1 1183 k = pk (c (3 * k)) (c (3 * k + 1)) (c (3 * k + 2))) → (∀ k, k < 3 * T → c k < 256) → rwI 7 c (3 * i) m → zok (L_XPacker_makeRaw_2 (sh0 W H) fuel 5 1183 (nI T) (nI i) m) (fun q => (q.2.2.2.2.2 = m.2 ∧ ∀ k, k ≠ 7 → q.2.2.2.2.1 k = m.1 k) ∧ rwI 7 c (3 * T) q.2.2.2.2) := by
  intro d
  induction d with
  | zero =>
    intro i fuel m hi hf hR hc hb h7
    obtain ⟨fu, rfl⟩ : ∃ fu, fuel = fu + 1 := ⟨fuel - 1, by omega⟩
    obtain rfl : i = T := by omega
    rw [L_XPacker_makeRaw_2, if_pos (by rw [nI_leD (by omega) (by omega)]; omega)]
    exact zok_s ⟨⟨rfl, fun _ _ => rfl⟩, h7⟩
  | succ d ih =>
    intro i fuel m hi hf hR hc hb h7
    obtain ⟨fu, rfl⟩ : ∃ fu, fuel = fu + 1 := ⟨fuel - 1, by omega⟩
    have sx := sh_5 (W := W) (H := H)
    have b0 := hb (3 * i) (by omega)
    have b1 := hb (3 * i + 1) (by omega)
    have b2 := hb (3 * i + 2) (by omega)
    have p0 := pk_0 b0 b1 b2
    have a255 : pk (c (3 * i)) (c (3 * i + 1)) (c (3 * i + 2)) &&& 255 = nI (c (3 * i + 2)) := by
      apply i32_ext
      rw [i32_and255, pk_toInt b0 b1 b2, nI_toInt (by omega)]
      omega
    rw [L_XPacker_makeRaw_2, if_neg (by rw [nI_leD (by omega) (by omega)]; omega), zoS_h sx, zob_h (rf_5_2 hR), zoS_h sh_1183, nI_ix (by omega) (by omega), nI_cl (n := i) (by omega), hc i (by omega), pk_16 b0 b1 b2, zoL_e, nI_3mul, zoL_e, zoS_h sh_7, nI_ix (by omega) (by decide), nI_cl (n := 3 * i) (by omega), zoL_e, zoS_h sx, zob_h (rf_5_2 (show RF (mI m 7 (3 * i) _).2.2 from hR)), zoS_h sh_1183, if_neg (fun q => q.elim (nI_pos (by omega)) (by omega)), mI_o (show 1183 ≠ 7 by decide), hc i (by omega), pk_8 b0 b1 b2, zoL_e, nI_p1, zoL_e, zoS_h sh_7, nI_ix (by omega) (by decide), nI_cl (n := 3 * i + 1) (by omega), zoL_e, zoS_h sx, zob_h (rf_5_2 (show RF (mI (mI m 7 (3 * i) _) 7 (3 * i + 1) _).2.2 from hR)), zoS_h sh_1183, if_neg (fun q => q.elim (nI_pos (by omega)) (by omega)), mI_o (show 1183 ≠ 7 by decide), mI_o (show 1183 ≠ 7 by decide), hc i (by omega), a255, zoL_e, nI_p2, zoL_e, zoS_h sh_7, nI_ix (by omega) (by decide), nI_cl (n := 3 * i + 2) (by omega), zoL_e, nI_p1]
    refine zok_w (ih (i + 1) fu _ (by omega) (by omega) hR (fun k hk => by rw [mI_o (by decide), mI_o (by decide), mI_o (by decide)]; exact hc k hk) hb (fun k hk => ?_)) (fun q hq => ⟨⟨hq.1.1, fun k hk => by rw [hq.1.2 k hk, mI_o hk, mI_o hk, mI_o hk]⟩, hq.2⟩)
    refine ⟨hb k (by omega), ?_⟩
    rw [mI_v, if_pos rfl]
    by_cases e2 : k = 3 * i + 2
    · rw [if_pos e2, e2]
    rw [if_neg e2, mI_v, if_pos rfl]
    by_cases e1 : k = 3 * i + 1
    · rw [if_pos e1, e1]
    rw [if_neg e1, mI_v, if_pos rfl]
    by_cases e0 : k = 3 * i
    · rw [if_pos e0, e0]
    rw [if_neg e0]
    exact (h7 k (by omega)).2
end ZMK
