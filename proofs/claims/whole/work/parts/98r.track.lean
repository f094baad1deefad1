/-! PURE: tracks -/
def nxF (tm : Nat → Int32) (t : Int32) : Nat → Nat → Nat
  | 0, j => j
  | d + 1, j => if t < tm j then j else nxF tm t d (j + 1)
theorem nxF_g {tm : Nat → Int32} {t : Int32} : ∀ d j, j ≤ nxF tm t d j ∧ nxF tm t d j ≤ j + d := by
  intro d
  induction d with
  | zero => intro j; exact ⟨Nat.le_refl _, Nat.le_refl _⟩
  | succ d ih =>
    intro j
    rw [nxF]
    by_cases e : t < tm j
    · rw [if_pos e]; omega
    · rw [if_neg e]
      have := ih (j + 1)
      omega
theorem nxF_c {tm tm' : Nat → Int32} {t : Int32} {n : Nat} (h : ∀ j, j < n → tm j = tm' j) : ∀ d j, j + d = n → nxF tm t d j = nxF tm' t d j := by
  intro d
  induction d with
  | zero => intro j _; rfl
  | succ d ih =>
    intro j hj
    rw [nxF, nxF, h j (by omega), ih (j + 1) (by omega)]
theorem nxF_lt {tm : Nat → Int32} {t : Int32} : ∀ d j, (∀ q, j ≤ q → q < nxF tm t d j → ¬ t < tm q) ∧ (nxF tm t d j < j + d → t < tm (nxF tm t d j)) := by
  intro d
  induction d with
  | zero => intro j; exact ⟨fun q h1 h2 => absurd (show q < j from h2) (by omega), fun q => absurd (show j < j + 0 from q) (by omega)⟩
  | succ d ih =>
    intro j
    rw [nxF]
    by_cases e : t < tm j
    · rw [if_pos e]
      exact ⟨fun q h1 h2 => by omega, fun _ => e⟩
    · rw [if_neg e]
      obtain ⟨i1, i2⟩ := ih (j + 1)
      refine ⟨fun q h1 h2 => ?_, fun q => i2 (by omega)⟩
      by_cases e2 : q = j
      · rw [e2]; exact e
      · exact i1 q (by omega) h2
/-- between two keys -/
def btw (s e a b how t : Int32) : Int32 := if how = 0 then a else if how = 1 then (a.toInt64 + zx_fdiv ((b.toInt64 - a.toInt64) * (t.toInt64 - s.toInt64)) (e.toInt64 - s.toInt64)).toInt32 else (a.toInt64 + sp_MPainter_mul (b.toInt64 - a.toInt64) (sp_MPainter_mul (sp_MPainter_mul (zx_fdiv ((t.toInt64 - s.toInt64) * 65536) (e.toInt64 - s.toInt64)) (zx_fdiv ((t.toInt64 - s.toInt64) * 65536) (e.toInt64 - s.toInt64))) (196608 - 2 * zx_fdiv ((t.toInt64 - s.toInt64) * 65536) (e.toInt64 - s.toInt64)))).toInt32
def vAt (tm vl : Nat → Int32) (how : Int32) (nk : Nat) (t : Int32) (c : Nat) : Int32 := if nxF tm t nk 0 = 0 then vl c else if nxF tm t nk 0 = nk then vl (3 * (nk - 1) + c) else btw (tm (nxF tm t nk 0 - 1)) (tm (nxF tm t nk 0)) (vl (3 * (nxF tm t nk 0 - 1) + c)) (vl (3 * nxF tm t nk 0 + c)) how t
theorem sub64 {a b : Int32} (h1 : -2147483648 ≤ a.toInt - b.toInt) (h2 : a.toInt - b.toInt ≤ 2147483647) : (a - b).toInt64 = a.toInt64 - b.toInt64 := by
  apply i64_ext
  have ea := Int32.toInt_toInt64 a
  have eb := Int32.toInt_toInt64 b
  rw [Int32.toInt_toInt64, i32_sub h1 h2, i64_sub (by rw [ea, eb]; omega) (by rw [ea, eb]; omega), ea, eb]
theorem part_in {D p w : Int} (hp : 0 ≤ p) (hw : p ≤ w) (h0 : 0 < w) : (0 ≤ D → 0 ≤ D * p / w ∧ D * p / w ≤ D) ∧ (D ≤ 0 → D ≤ D * p / w ∧ D * p / w ≤ 0) := by
  constructor
  · intro hD
    refine ⟨Int.ediv_nonneg (Int.mul_nonneg hD hp) (by omega), ?_⟩
    exact Int.ediv_le_of_le_mul h0 (Int.mul_le_mul_of_nonneg_left hw hD)
  · intro hD
    refine ⟨Int.le_ediv_of_mul_le h0 (Int.mul_le_mul_of_nonpos_left hD hw), ?_⟩
    refine Int.ediv_le_of_le_mul h0 ?_
    rw [Int.zero_mul]
    exact Int.mul_nonpos_of_nonpos_of_nonneg hD hp
theorem ease {f : Int} (h0 : 0 ≤ f) (h1 : f ≤ 65536) : (0 ≤ f * f / 65536 ∧ f * f / 65536 ≤ 65536) ∧ 0 ≤ f * f / 65536 * (196608 - 2 * f) / 65536 ∧ f * f / 65536 * (196608 - 2 * f) / 65536 ≤ 65536 := by
  have hff : 0 ≤ f * f := Int.mul_nonneg h0 h0
  have hfm : f * f ≤ 65536 * 65536 := Int.mul_le_mul h1 h1 h0 (by decide)
  have k1 : 0 ≤ f * f / 65536 := Int.ediv_nonneg hff (by decide)
  have k2 : f * f / 65536 ≤ 65536 := by omega
  have k3 : f * f / 65536 * 65536 ≤ f * f := Int.ediv_mul_le _ (by decide)
  have k4 : 0 ≤ 196608 - 2 * f := by omega
  have k5 : f * f / 65536 * 65536 * (196608 - 2 * f) ≤ f * f * (196608 - 2 * f) := Int.mul_le_mul_of_nonneg_right k3 k4
  have k6 : 0 ≤ (65536 - f) * (65536 - f) * (65536 + 2 * f) := Int.mul_nonneg (Int.mul_nonneg (by omega) (by omega)) (by omega)
  have k7 : (65536 - f) * (65536 - f) * (65536 + 2 * f) = 281474976710656 - f * f * (196608 - 2 * f) := by grind
  have k8 : f * f / 65536 * 65536 * (196608 - 2 * f) = f * f / 65536 * (196608 - 2 * f) * 65536 := by grind
  have k9 : 0 ≤ f * f / 65536 * (196608 - 2 * f) := Int.mul_nonneg k1 k4
  refine ⟨⟨k1, k2⟩, Int.ediv_nonneg k9 (by decide), ?_⟩
  rw [k8] at k5
  rw [k7] at k6
  generalize f * f / 65536 * (196608 - 2 * f) = X at k5 k9 ⊢
  generalize f * f * (196608 - 2 * f) = Y at k5 k6
  omega
theorem btw_r {s e a b how t : Int32} {M : Int} (hM : M ≤ 4194304) (ha : -M ≤ a.toInt ∧ a.toInt ≤ M) (hb : -M ≤ b.toInt ∧ b.toInt ≤ M) (h0 : 0 ≤ s.toInt) (h1 : s.toInt ≤ t.toInt) (h2 : t.toInt < e.toInt) (h3 : e.toInt ≤ 1000000) : -M ≤ (btw s e a b how t).toInt ∧ (btw s e a b how t).toInt ≤ M := by
  have ea := Int32.toInt_toInt64 a
  have eb := Int32.toInt_toInt64 b
  have es := Int32.toInt_toInt64 s
  have ee := Int32.toInt_toInt64 e
  have et := Int32.toInt_toInt64 t
  have d1 : (b.toInt64 - a.toInt64).toInt = b.toInt - a.toInt := by rw [i64_sub (by rw [ea, eb]; omega) (by rw [ea, eb]; omega), ea, eb]
  have d2 : (t.toInt64 - s.toInt64).toInt = t.toInt - s.toInt := by rw [i64_sub (by rw [et, es]; omega) (by rw [et, es]; omega), et, es]
  have d3 : (e.toInt64 - s.toInt64).toInt = e.toInt - s.toInt := by rw [i64_sub (by rw [ee, es]; omega) (by rw [ee, es]; omega), ee, es]
  have fin : ∀ x : Int64, (0 ≤ b.toInt - a.toInt → 0 ≤ x.toInt ∧ x.toInt ≤ b.toInt - a.toInt) ∧ (b.toInt - a.toInt ≤ 0 → b.toInt - a.toInt ≤ x.toInt ∧ x.toInt ≤ 0) → -M ≤ ((a.toInt64 + x).toInt32).toInt ∧ ((a.toInt64 + x).toInt32).toInt ≤ M := fun x hx => by
    have hq : -M ≤ a.toInt + x.toInt ∧ a.toInt + x.toInt ≤ M := by
      rcases Int.le_total 0 (b.toInt - a.toInt) with q | q
      · have := hx.1 q; omega
      · have := hx.2 q; omega
    have e1 : (a.toInt64 + x).toInt = a.toInt + x.toInt := by rw [i64_add (by rw [ea]; omega) (by rw [ea]; omega), ea]
    rw [i64_32 (by rw [e1]; omega) (by rw [e1]; omega), e1]
    exact hq
  have lim1 : ∀ D p : Int, -8388608 ≤ D → D ≤ 8388608 → 0 ≤ p → p ≤ 1000000 → -8388608000000 ≤ D * p ∧ D * p ≤ 8388608000000 := fun D p q1 q2 q3 q4 => by
    have u1 : D * p ≤ 8388608 * p := Int.mul_le_mul_of_nonneg_right q2 q3
    have u2 : -8388608 * p ≤ D * p := Int.mul_le_mul_of_nonneg_right q1 q3
    omega
  unfold btw
  by_cases c0 : how = 0
  · rw [if_pos c0]
    exact ha
  rw [if_neg c0]
  by_cases c1 : how = 1
  · rw [if_pos c1]
    apply fin
    have lm := lim1 (b.toInt - a.toInt) (t.toInt - s.toInt) (by omega) (by omega) (by omega) (by omega)
    rw [fdiv_pos (by rw [d3]; omega), d3, i64_mul (by rw [d1, d2]; omega) (by rw [d1, d2]; omega), d1, d2]
    exact part_in (by omega) (by omega) (by omega)
  · rw [if_neg c1]
    apply fin
    have k65 : (65536 : Int64).toInt = 65536 := rfl
    have k2 : (2 : Int64).toInt = 2 := rfl
    have k19 : (196608 : Int64).toInt = 196608 := rfl
    have hF : (zx_fdiv ((t.toInt64 - s.toInt64) * 65536) (e.toInt64 - s.toInt64)).toInt = (t.toInt - s.toInt) * 65536 / (e.toInt - s.toInt) := by
      rw [fdiv_pos (by rw [d3]; omega), d3, i64_mul (by rw [d2, k65]; omega) (by rw [d2, k65]; omega), d2, k65]
    have hf : 0 ≤ (t.toInt - s.toInt) * 65536 / (e.toInt - s.toInt) ∧ (t.toInt - s.toInt) * 65536 / (e.toInt - s.toInt) ≤ 65536 := by
      have := (part_in (D := 65536) (p := t.toInt - s.toInt) (w := e.toInt - s.toInt) (by omega) (by omega) (by omega)).1 (by decide)
      rw [Int.mul_comm] at this
      exact this
    generalize zx_fdiv ((t.toInt64 - s.toInt64) * 65536) (e.toInt64 - s.toInt64) = F at hF
    rw [← hF] at hf
    obtain ⟨⟨z1, z2⟩, z3, z4⟩ := ease hf.1 hf.2
    have sq : 0 ≤ F.toInt * F.toInt ∧ F.toInt * F.toInt ≤ 65536 * 65536 := ⟨Int.mul_nonneg hf.1 hf.1, Int.mul_le_mul hf.2 hf.2 hf.1 (by decide)⟩
    have m1 : (sp_MPainter_mul F F).toInt = F.toInt * F.toInt / 65536 := by rw [mul_toInt, i64_mul (by omega) (by omega)]
    have s2 : (2 * F).toInt = 2 * F.toInt := by rw [i64_mul (by rw [k2]; omega) (by rw [k2]; omega), k2]
    have s3 : (196608 - 2 * F).toInt = 196608 - 2 * F.toInt := by rw [i64_sub (by rw [s2, k19]; omega) (by rw [s2, k19]; omega), s2, k19]
    have pr : 0 ≤ F.toInt * F.toInt / 65536 * (196608 - 2 * F.toInt) ∧ F.toInt * F.toInt / 65536 * (196608 - 2 * F.toInt) ≤ 65536 * 196608 := ⟨Int.mul_nonneg z1 (by omega), Int.mul_le_mul z2 (by omega) (by omega) (by decide)⟩
    have m2 : (sp_MPainter_mul (sp_MPainter_mul F F) (196608 - 2 * F)).toInt = F.toInt * F.toInt / 65536 * (196608 - 2 * F.toInt) / 65536 := by rw [mul_toInt, i64_mul (by rw [m1, s3]; omega) (by rw [m1, s3]; omega), m1, s3]
    generalize sp_MPainter_mul (sp_MPainter_mul F F) (196608 - 2 * F) = G at m2
    rw [← m2] at z3 z4
    have lm := lim1 (b.toInt - a.toInt) G.toInt (by omega) (by omega) (by omega) (by omega)
    rw [mul_toInt, i64_mul (by rw [d1]; omega) (by rw [d1]; omega), d1]
    exact part_in (by omega) (by omega) (by decide)
theorem vAt_r {tm vl : Nat → Int32} {how t : Int32} {nk c : Nat} {M : Int} (hM : M ≤ 4194304) (hc : c < 3) (h1 : 1 ≤ nk) (ht : 0 ≤ t.toInt) (hT : ∀ j, j < nk → 0 ≤ (tm j).toInt ∧ (tm j).toInt ≤ 1000000) (hV : ∀ j, j < 3 * nk → -M ≤ (vl j).toInt ∧ (vl j).toInt ≤ M) : -M ≤ (vAt tm vl how nk t c).toInt ∧ (vAt tm vl how nk t c).toInt ≤ M := by
  unfold vAt
  obtain ⟨g1, g2⟩ := nxF_g (tm := tm) (t := t) nk 0
  obtain ⟨l1, l2⟩ := nxF_lt (tm := tm) (t := t) nk 0
  generalize nxF tm t nk 0 = x at g1 g2 l1 l2
  by_cases e0 : x = 0
  · rw [if_pos e0]
    exact hV c (by omega)
  rw [if_neg e0]
  by_cases e1 : x = nk
  · rw [if_pos e1]
    exact hV _ (by omega)
  rw [if_neg e1]
  have p1 := l1 (x - 1) (by omega) (by omega)
  have p2 := l2 (by omega)
  rw [i32_lt] at p1 p2
  exact btw_r hM (hV _ (by omega)) (hV _ (by omega)) (hT _ (by omega)).1 (by omega) p2 (hT _ (by omega)).2
