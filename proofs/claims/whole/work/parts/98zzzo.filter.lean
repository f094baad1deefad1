/-! PURE: both packers' sums and filters -/
section ZFL
variable {W H : Nat}
def adl (R : Nat → Nat) : Nat → Nat → Nat × Nat → Nat × Nat
  | 0, _, s => s
  | d + 1, k, s => adl R d (k + 1) ((s.1 + R k) % 65521, (s.2 + (s.1 + R k) % 65521) % 65521)
theorem adl_b {R : Nat → Nat} : ∀ d k s, s.1 < 65521 → s.2 < 65521 → (adl R d k s).1 < 65521 ∧ (adl R d k s).2 < 65521 := by
  intro d
  induction d with
  | zero => intro k s h1 h2; exact ⟨h1, h2⟩
  | succ d ih => intro k s h1 h2; exact ih _ _ (Nat.mod_lt _ (by decide)) (Nat.mod_lt _ (by decide))
theorem c_sum6 {m : zMem} {R : Nat → Nat} {N : Nat} (hR : RF m.2.2) (h : rwI 8 R N m) (hN : N ≤ 6960) (h4 : m.1 5 4 = nI N) : ∀ (d k fuel : Nat) (s : Nat × Nat), k + d = N → d < fuel → s.1 < 65521 → s.2 < 65521 → L_XPacker_sumOfRows_6 (sh0 W H) fuel 5 (nI s.1) (nI s.2) (nI k) m = some (5, nI (adl R d k s).1, nI (adl R d k s).2, nI N, m) := by
  intro d
  induction d with
  | zero =>
    intro k fuel s hk hf h1 h2
    obtain ⟨fu, rfl⟩ : ∃ fu, fuel = fu + 1 := ⟨fuel - 1, by omega⟩
    obtain rfl : k = N := by omega
    rw [L_XPacker_sumOfRows_6, zoS_h sh_5, h4, if_pos (by rw [nI_leD (by omega) (by omega)]; omega)]
    rfl
  | succ d ih =>
    intro k fuel s hk hf h1 h2
    obtain ⟨fu, rfl⟩ : ∃ fu, fuel = fu + 1 := ⟨fuel - 1, by omega⟩
    obtain ⟨r1, r2⟩ := h k (by omega)
    have m1 := Nat.mod_lt (s.1 + R k) (show 0 < 65521 by decide)
    have q1 : nI (s.1 + R k) - nI (s.1 + R k) / 65521 * 65521 = nI ((s.1 + R k) % 65521) := i32_rem (b := 65521) (by omega) (by decide) (by decide)
    have q2 : nI (s.2 + (s.1 + R k) % 65521) - nI (s.2 + (s.1 + R k) % 65521) / 65521 * 65521 = nI ((s.2 + (s.1 + R k) % 65521) % 65521) := i32_rem (b := 65521) (by omega) (by decide) (by decide)
    rw [L_XPacker_sumOfRows_6, zoS_h sh_5, h4, if_neg (by rw [nI_leD (by omega) (by omega)]; omega), zoS_h sh_5, zob_h (rf_5_3 hR), zoS_h sh_8, nI_ix (by omega) (by decide), nI_cl (n := k) (by omega), r2, nI_pp, q1, zoL_e, nI_pp, q2, zoL_e, nI_p1]
    exact ih (k + 1) fu ((s.1 + R k) % 65521, (s.2 + (s.1 + R k) % 65521) % 65521) (by omega) (by omega) (Nat.mod_lt _ (by decide)) (Nat.mod_lt _ (by decide))
theorem m_sum6 {m : zMem} {R : Nat → Nat} {N : Nat} (hR : RF m.2.2) (h : rwI 1279 R N m) (hN : N ≤ 6960) (h4 : m.1 1278 1 = nI N) : ∀ (d k fuel : Nat) (s : Nat × Nat), k + d = N → d < fuel → s.1 < 65521 → s.2 < 65521 → L_MPacker_sum_6 (sh0 W H) fuel 1278 (nI s.1) (nI s.2) (nI k) m = some (1278, nI (adl R d k s).1, nI (adl R d k s).2, nI N, m) := by
  intro d
  induction d with
  | zero =>
    intro k fuel s hk hf h1 h2
    obtain ⟨fu, rfl⟩ : ∃ fu, fuel = fu + 1 := ⟨fuel - 1, by omega⟩
    obtain rfl : k = N := by omega
    rw [L_MPacker_sum_6, zoS_h sh_1278, h4, if_pos (by rw [nI_leD (by omega) (by omega)]; omega)]
    rfl
  | succ d ih =>
    intro k fuel s hk hf h1 h2
    obtain ⟨fu, rfl⟩ : ∃ fu, fuel = fu + 1 := ⟨fuel - 1, by omega⟩
    obtain ⟨r1, r2⟩ := h k (by omega)
    have m1 := Nat.mod_lt (s.1 + R k) (show 0 < 65521 by decide)
    have q1 : nI (s.1 + R k) - nI (s.1 + R k) / 65521 * 65521 = nI ((s.1 + R k) % 65521) := i32_rem (b := 65521) (by omega) (by decide) (by decide)
    have q2 : nI (s.2 + (s.1 + R k) % 65521) - nI (s.2 + (s.1 + R k) % 65521) / 65521 * 65521 = nI ((s.2 + (s.1 + R k) % 65521) % 65521) := i32_rem (b := 65521) (by omega) (by decide) (by decide)
    rw [L_MPacker_sum_6, zoS_h sh_1278, h4, if_neg (by rw [nI_leD (by omega) (by omega)]; omega), zoS_h sh_1278, zob_h (rf_1278_0 hR), zoS_h sh_1279, nI_ix (by omega) (by decide), nI_cl (n := k) (by omega), r2, nI_pp, q1, zoL_e, nI_pp, q2, zoL_e, nI_p1]
    exact ih (k + 1) fu ((s.1 + R k) % 65521, (s.2 + (s.1 + R k) % 65521) % 65521) (by omega) (by omega) (Nat.mod_lt _ (by decide)) (Nat.mod_lt _ (by decide))
theorem shl16g (b : Nat) : nI b <<< (16 &&& 31) = nI (b * 65536) := by
  apply bv_ext
  show (BitVec.ofNat 32 b <<< ((16 : Int32) &&& 31).toBitVec.smod 32).toNat = (BitVec.ofNat 32 (b * 65536)).toNat
  rw [show (((16 : Int32) &&& 31).toBitVec.smod 32) = 16#32 by decide, BitVec.shiftLeft_eq', BitVec.toNat_shiftLeft, show (16#32).toNat = 16 by decide, BitVec.toNat_ofNat, BitVec.toNat_ofNat, Nat.shiftLeft_eq]
  omega
def adS (R : Nat → Nat) (N : Nat) : Int32 := nI ((adl R N 0 (1, 0)).2 * 65536 + (adl R N 0 (1, 0)).1)
theorem c_sum {m : zMem} {R : Nat → Nat} {N : Nat} (hR : RF m.2.2) (h : rwI 8 R N m) (hN : N ≤ 6960) (h4 : m.1 5 4 = nI N) : F_XPacker_sumOfRows (sh0 W H) m 5 = some (adS R N, m) := by
  obtain ⟨b1, b2⟩ := adl_b (R := R) N 0 (1, 0) (by decide) (by decide)
  unfold F_XPacker_sumOfRows adS
  rw [zob_h (show L_XPacker_sumOfRows_6 (sh0 W H) zfuel 5 1 0 0 m = _ from c_sum6 (W := W) (H := H) hR h hN h4 N 0 zfuel (1, 0) (by omega) (zf_lt (by omega)) (by decide) (by decide))]
  dsimp only
  rw [shl16g, nI_or (c := (adl R N 0 (1, 0)).2) 16 rfl (by omega) (by omega)]
theorem m_sum {m : zMem} {R : Nat → Nat} {N : Nat} (hR : RF m.2.2) (h : rwI 1279 R N m) (hN : N ≤ 6960) (h4 : m.1 1278 1 = nI N) : F_MPacker_sum (sh0 W H) m 1278 = some (adS R N, m) := by
  unfold F_MPacker_sum adS
  rw [zob_h (show L_MPacker_sum_6 (sh0 W H) zfuel 1278 1 0 0 m = _ from m_sum6 (W := W) (H := H) hR h hN h4 N 0 zfuel (1, 0) (by omega) (zf_lt (by omega)) (by decide) (by decide))]
  dsimp only
  rw [show (65536 : Int32) = nI 65536 from rfl, nI_mul, nI_pp]
/-- guesses -/
def pae (a b c : Nat) : Nat := if ((a : Int) - c).natAbs < ((b : Int) - c).natAbs then (if ((a : Int) + b - 2 * c).natAbs < ((a : Int) - c).natAbs then c else b) else (if ((a : Int) + b - 2 * c).natAbs < ((b : Int) - c).natAbs then (if ((a : Int) + b - 2 * c).natAbs < ((a : Int) - c).natAbs then c else b) else a)
def gsN (f a b c : Nat) : Nat := if f = 0 then 0 else if f = 1 then a else if f = 2 then b else if f = 3 then (a + b) / 2 else pae a b c
theorem gsN_b {f a b c : Nat} (ha : a < 256) (hb : b < 256) (hc : c < 256) : gsN f a b c < 256 := by
  unfold gsN pae
  repeat' split
  all_goals omega
theorem abs_i {x : Int32} {k : Int} (h : x.toInt = k) (h1 : -100000 ≤ k) (h2 : k ≤ 100000) : (sp_JMath_abs x).toInt = (k.natAbs : Int) := by
  unfold sp_JMath_abs
  by_cases c : (0 : Int32) ≤ x
  · rw [if_pos c]
    rw [i32_le, show (0 : Int32).toInt = 0 from rfl] at c
    omega
  · rw [if_neg c, i32_neg (by omega)]
    rw [i32_le, show (0 : Int32).toInt = 0 from rfl] at c
    omega
theorem abs_lt {x y : Int32} {k l : Int} (hx : x.toInt = k) (hy : y.toInt = l) (h1 : -100000 ≤ k) (h2 : k ≤ 100000) (h3 : -100000 ≤ l) (h4 : l ≤ 100000) : (sp_JMath_abs x < sp_JMath_abs y) ↔ k.natAbs < l.natAbs := by
  rw [i32_lt, abs_i hx h1 h2, abs_i hy h3 h4]
  omega
theorem pae_c {a b c : Nat} (ha : a < 256) (hb : b < 256) (hc : c < 256) : sp_XPacker_nearestOf (nI a) (nI b) (nI c) = nI (pae a b c) := by
  have ea : (nI a).toInt = a := nI_toInt (by omega)
  have eb : (nI b).toInt = b := nI_toInt (by omega)
  have ec : (nI c).toInt = c := nI_toInt (by omega)
  have e1 : (nI a - nI c).toInt = (a : Int) - c := by rw [i32_sub (by omega) (by omega), ea, ec]
  have e2 : (nI b - nI c).toInt = (b : Int) - c := by rw [i32_sub (by omega) (by omega), eb, ec]
  have e3 : ((nI a + nI b) - (2 * nI c)).toInt = (a : Int) + b - 2 * c := by
    rw [nI_pp, nI_2mul, i32_sub (by rw [nI_toInt (by omega), nI_toInt (by omega)]; omega) (by rw [nI_toInt (by omega), nI_toInt (by omega)]; omega), nI_toInt (by omega), nI_toInt (by omega)]
    omega
  have l1 := abs_lt e1 e2 (by omega) (by omega) (by omega) (by omega)
  have l2 := abs_lt e3 e1 (by omega) (by omega) (by omega) (by omega)
  have l3 := abs_lt e3 e2 (by omega) (by omega) (by omega) (by omega)
  unfold sp_XPacker_nearestOf pae
  by_cases c1 : ((a : Int) - c).natAbs < ((b : Int) - c).natAbs
  · rw [if_pos (l1.mpr c1), if_pos c1]
    by_cases c2 : ((a : Int) + b - 2 * c).natAbs < ((a : Int) - c).natAbs
    · rw [if_pos (l2.mpr c2), if_pos c2]
    · rw [if_neg (fun q => c2 (l2.mp q)), if_neg c2]
  · rw [if_neg (fun q => c1 (l1.mp q)), if_neg c1]
    by_cases c3 : ((a : Int) + b - 2 * c).natAbs < ((b : Int) - c).natAbs
    · rw [if_pos (l3.mpr c3), if_pos c3]
      by_cases c2 : ((a : Int) + b - 2 * c).natAbs < ((a : Int) - c).natAbs
      · rw [if_pos (l2.mpr c2), if_pos c2]
      · rw [if_neg (fun q => c2 (l2.mp q)), if_neg c2]
    · rw [if_neg (fun q => c3 (l3.mp q)), if_neg c3]
theorem gs_c {f a b c : Nat} (hf : f < 5) (ha : a < 256) (hb : b < 256) (hc : c < 256) : sp_XPacker_guess (nI f) (nI a) (nI b) (nI c) = nI (gsN f a b c) := by
  have d2 : nI (a + b) / (2 : Int32) = nI ((a + b) / 2) := nI_div (b := 2) (by omega) (by decide) (by decide)
  unfold sp_XPacker_guess gsN
  by_cases f0 : f = 0
  · rw [if_pos (show nI f = 0 by rw [f0]; rfl), if_pos f0]
    rfl
  rw [if_neg (show ¬ (nI f = 0) from fun q => f0 ((nI_eqD (b := 0) (by omega) (by decide)).mp q)), if_neg f0]
  by_cases f1 : f = 1
  · rw [if_pos (show nI f = 1 by rw [f1]; rfl), if_pos f1]
  rw [if_neg (show ¬ (nI f = 1) from fun q => f1 ((nI_eqD (b := 1) (by omega) (by decide)).mp q)), if_neg f1]
  by_cases f2 : f = 2
  · rw [if_pos (show nI f = 2 by rw [f2]; rfl), if_pos f2]
  rw [if_neg (show ¬ (nI f = 2) from fun q => f2 ((nI_eqD (b := 2) (by omega) (by decide)).mp q)), if_neg f2]
  by_cases f3 : f = 3
  · rw [if_pos (show nI f = 3 by rw [f3]; rfl), if_pos f3, nI_pp, d2]
  rw [if_neg (show ¬ (nI f = 3) from fun q => f3 ((nI_eqD (b := 3) (by omega) (by decide)).mp q)), if_neg f3]
  exact pae_c ha hb hc
/-- a filtered byte -/
def flN (c : Nat → Nat) (l f x y : Nat) : Nat := (c (y * l + x) + 256 - gsN f (if x < 3 then 0 else c (y * l + x - 3)) (if y = 0 then 0 else c (y * l + x - l)) (if x < 3 ∨ y = 0 then 0 else c (y * l + x - l - 3))) % 256
theorem and_255 {v g : Nat} (hv : v < 256) (hg : g < 256) : (nI v - nI g) &&& 255 = nI ((v + 256 - g) % 256) := by
  apply i32_ext
  rw [i32_and255, i32_sub (by rw [nI_toInt (by omega), nI_toInt (by omega)]; omega) (by rw [nI_toInt (by omega), nI_toInt (by omega)]; omega), nI_toInt (by omega), nI_toInt (by omega), nI_toInt (by omega)]
  omega
theorem flN_b {c : Nat → Nat} {l f x y : Nat} : flN c l f x y < 256 := Nat.mod_lt _ (by decide)
end ZFL
