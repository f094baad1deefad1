/-! PURE: corners stay in their bounds while a shape is cut -/
theorem itp_i {P Q a b lo hi : Int} (ha : 0 ≤ a) (hb : b < 0) (hP : lo ≤ P ∧ P ≤ hi) (hQ : lo ≤ Q ∧ Q ≤ hi) : lo ≤ P + (Q - P) * a / (a - b) ∧ P + (Q - P) * a / (a - b) ≤ hi := by
  have k := part_in (D := Q - P) (p := a) (w := a - b) ha (by omega) (by omega)
  rcases Int.le_total 0 (Q - P) with h | h
  · have := k.1 h; omega
  · have := k.2 h; omega
theorem itp_s {P0 P2 Q0 Q2 a b α β K : Int} (ha : 0 ≤ a) (hb : b < 0) (hα : -512 ≤ α ∧ α ≤ 512) (hβ : 0 ≤ β ∧ β ≤ 48) (hK : (a - b) * (-K) ≤ (-b) * (α * P0 + β * P2) + a * (α * Q0 + β * Q2)) : -K - 560 ≤ α * (P0 + (Q0 - P0) * a / (a - b)) + β * (P2 + (Q2 - P2) * a / (a - b)) := by
  have hD : 0 < a - b := by omega
  have m0 := Int.mul_ediv_add_emod ((Q0 - P0) * a) (a - b)
  have m2 := Int.mul_ediv_add_emod ((Q2 - P2) * a) (a - b)
  have r0 := Int.emod_nonneg ((Q0 - P0) * a) (show a - b ≠ 0 by omega)
  have r0' := Int.emod_lt_of_pos ((Q0 - P0) * a) hD
  have r2 := Int.emod_nonneg ((Q2 - P2) * a) (show a - b ≠ 0 by omega)
  have r2' := Int.emod_lt_of_pos ((Q2 - P2) * a) hD
  generalize (Q0 - P0) * a / (a - b) = x at m0 ⊢
  generalize (Q2 - P2) * a / (a - b) = z at m2 ⊢
  generalize (Q0 - P0) * a % (a - b) = rx at m0 r0 r0'
  generalize (Q2 - P2) * a % (a - b) = rz at m2 r2 r2'
  have u1 : α * rx ≤ 512 * (a - b) := by
    have q1 : α * rx ≤ 512 * rx := Int.mul_le_mul_of_nonneg_right hα.2 r0
    omega
  have u2 : β * rz ≤ 48 * (a - b) := by
    have q1 : β * rz ≤ 48 * rz := Int.mul_le_mul_of_nonneg_right hβ.2 r2
    omega
  have id : (a - b) * (α * (P0 + x) + β * (P2 + z)) = (-b) * (α * P0 + β * P2) + a * (α * Q0 + β * Q2) - α * rx - β * rz := by grind
  have fin : (a - b) * (-K - 560) ≤ (a - b) * (α * (P0 + x) + β * (P2 + z)) := by
    rw [id, Int.mul_sub]
    have : (a - b) * 560 = 512 * (a - b) + 48 * (a - b) := by omega
    omega
  exact Int.le_of_mul_le_mul_left fin hD
theorem itp_k {P0 P2 Q0 Q2 a b α β K : Int} (ha : 0 ≤ a) (hb : b < 0) (hP : -K ≤ α * P0 + β * P2) (hQ : -K ≤ α * Q0 + β * Q2) : (a - b) * (-K) ≤ (-b) * (α * P0 + β * P2) + a * (α * Q0 + β * Q2) := by
  have q1 : (-b) * (-K) ≤ (-b) * (α * P0 + β * P2) := Int.mul_le_mul_of_nonneg_left hP (by omega)
  have q2 : a * (-K) ≤ a * (α * Q0 + β * Q2) := Int.mul_le_mul_of_nonneg_left hQ ha
  have e : (a - b) * (-K) = (-b) * (-K) + a * (-K) := by grind
  omega
/-- a corner before side j is cut -/
def CB (w h f : Int) (j : Nat) (p : Nat → Int64) : Prop := (-16777216 ≤ (p 0).toInt ∧ (p 0).toInt ≤ 16777216) ∧ (-16777216 ≤ (p 1).toInt ∧ (p 1).toInt ≤ 16777216) ∧ (-16777216 ≤ (p 2).toInt ∧ (p 2).toInt ≤ 16777216) ∧ (-131072 ≤ (p 3).toInt ∧ (p 3).toInt ≤ 131072) ∧ (-131072 ≤ (p 4).toInt ∧ (p 4).toInt ≤ 131072) ∧ (0 ≤ (p 5).toInt ∧ (p 5).toInt ≤ 65536) ∧ (1 ≤ j → 4096 ≤ (p 2).toInt) ∧ (2 ≤ j → -560 * ((j : Int) - 1) ≤ f * (p 0).toInt + w * (p 2).toInt) ∧ (3 ≤ j → -560 * ((j : Int) - 2) ≤ (-f) * (p 0).toInt + w * (p 2).toInt) ∧ (4 ≤ j → -560 * ((j : Int) - 3) ≤ f * (p 1).toInt + h * (p 2).toInt) ∧ (5 ≤ j → -560 * ((j : Int) - 4) ≤ (-f) * (p 1).toInt + h * (p 2).toInt)
def whf (w h f : Int64) : Prop := (8 ≤ w.toInt ∧ w.toInt ≤ 48) ∧ (8 ≤ h.toInt ∧ h.toInt ≤ 48) ∧ (8 ≤ f.toInt ∧ f.toInt ≤ 512)
theorem mul_b {x y A B : Int} (hx : -A ≤ x ∧ x ≤ A) (hy : -B ≤ y ∧ y ≤ B) (hA : 0 ≤ A) (hB : 0 ≤ B) : -(A * B) ≤ x * y ∧ x * y ≤ A * B := by
  have h1 : 0 ≤ (A - x) * (B - y) := Int.mul_nonneg (by omega) (by omega)
  have h2 : 0 ≤ (A + x) * (B + y) := Int.mul_nonneg (by omega) (by omega)
  have h3 : 0 ≤ (A - x) * (B + y) := Int.mul_nonneg (by omega) (by omega)
  have h4 : 0 ≤ (A + x) * (B - y) := Int.mul_nonneg (by omega) (by omega)
  have e1 : (A - x) * (B - y) + (A + x) * (B + y) = 2 * (A * B) + 2 * (x * y) := by grind
  have e2 : (A - x) * (B + y) + (A + x) * (B - y) = 2 * (A * B) - 2 * (x * y) := by grind
  omega
/-- a side's number is what it is: no overflow -/
theorem bes_i {w h f : Int64} {j : Nat} {p : Nat → Int64} (hw : whf w h f) (h0 : -16777216 ≤ (p 0).toInt ∧ (p 0).toInt ≤ 16777216) (h1 : -16777216 ≤ (p 1).toInt ∧ (p 1).toInt ≤ 16777216) (h2 : -16777216 ≤ (p 2).toInt ∧ (p 2).toInt ≤ 16777216) : (bes w h f j p).toInt = (if j = 0 then (p 2).toInt - 4096 else if j = 1 then f.toInt * (p 0).toInt + w.toInt * (p 2).toInt else if j = 2 then (-f.toInt) * (p 0).toInt + w.toInt * (p 2).toInt else if j = 3 then f.toInt * (p 1).toInt + h.toInt * (p 2).toInt else (-f.toInt) * (p 1).toInt + h.toInt * (p 2).toInt) ∧ -9395240960 ≤ (bes w h f j p).toInt ∧ (bes w h f j p).toInt ≤ 9395240960 := by
  obtain ⟨w1, w2, w3⟩ := hw
  have a0 := mul_b (x := f.toInt) (y := (p 0).toInt) (A := 512) (B := 16777216) (by omega) h0 (by decide) (by decide)
  have a1 := mul_b (x := f.toInt) (y := (p 1).toInt) (A := 512) (B := 16777216) (by omega) h1 (by decide) (by decide)
  have b0 := mul_b (x := w.toInt) (y := (p 2).toInt) (A := 48) (B := 16777216) (by omega) h2 (by decide) (by decide)
  have b1 := mul_b (x := h.toInt) (y := (p 2).toInt) (A := 48) (B := 16777216) (by omega) h2 (by decide) (by decide)
  have m0 : (f * p 0).toInt = f.toInt * (p 0).toInt := i64_mul (by omega) (by omega)
  have m1 : (f * p 1).toInt = f.toInt * (p 1).toInt := i64_mul (by omega) (by omega)
  have m2 : (w * p 2).toInt = w.toInt * (p 2).toInt := i64_mul (by omega) (by omega)
  have m3 : (h * p 2).toInt = h.toInt * (p 2).toInt := i64_mul (by omega) (by omega)
  have e4 : (4096 : Int64).toInt = 4096 := rfl
  have ng0 : (-f.toInt) * (p 0).toInt = -(f.toInt * (p 0).toInt) := Int.neg_mul _ _
  have ng1 : (-f.toInt) * (p 1).toInt = -(f.toInt * (p 1).toInt) := Int.neg_mul _ _
  unfold bes
  by_cases j0 : j = 0
  · rw [if_pos j0, if_pos j0, i64_sub (by rw [e4]; omega) (by rw [e4]; omega), e4]; omega
  rw [if_neg j0, if_neg j0]
  by_cases j1 : j = 1
  · rw [if_pos j1, if_pos j1, i64_add (by rw [m0, m2]; omega) (by rw [m0, m2]; omega), m0, m2]; omega
  rw [if_neg j1, if_neg j1]
  by_cases j2 : j = 2
  · rw [if_pos j2, if_pos j2, i64_sub (by rw [m0, m2]; omega) (by rw [m0, m2]; omega), m0, m2]; omega
  rw [if_neg j2, if_neg j2]
  by_cases j3 : j = 3
  · rw [if_pos j3, if_pos j3, i64_add (by rw [m1, m3]; omega) (by rw [m1, m3]; omega), m1, m3]; omega
  rw [if_neg j3, if_neg j3, i64_sub (by rw [m1, m3]; omega) (by rw [m1, m3]; omega), m1, m3]; omega
/-- a number between two corners -/
theorem itp_t {p q : Nat → Int64} {a b : Int64} {k : Nat} {lo hi : Int} (ha : 0 ≤ a.toInt ∧ a.toInt ≤ 9395240960) (hb : b.toInt < 0 ∧ -9395240960 ≤ b.toInt) (hlo : -16777216 ≤ lo) (hhi : hi ≤ 16777216) (hp : lo ≤ (p k).toInt ∧ (p k).toInt ≤ hi) (hq : lo ≤ (q k).toInt ∧ (q k).toInt ≤ hi) : (itp p q a b k).toInt = (p k).toInt + ((q k).toInt - (p k).toInt) * a.toInt / (a.toInt - b.toInt) ∧ lo ≤ (itp p q a b k).toInt ∧ (itp p q a b k).toInt ≤ hi := by
  have d1 : (q k - p k).toInt = (q k).toInt - (p k).toInt := i64_sub (by omega) (by omega)
  have d2 : (a - b).toInt = a.toInt - b.toInt := i64_sub (by omega) (by omega)
  have mb := mul_b (x := (q k).toInt - (p k).toInt) (y := a.toInt) (A := 33554432) (B := 9395240960) (by omega) (by omega) (by decide) (by decide)
  have d3 : ((q k - p k) * a).toInt = ((q k).toInt - (p k).toInt) * a.toInt := by
    rw [i64_mul (by rw [d1]; omega) (by rw [d1]; omega), d1]
  have d4 : (zx_fdiv ((q k - p k) * a) (a - b)).toInt = ((q k).toInt - (p k).toInt) * a.toInt / (a.toInt - b.toInt) := by
    rw [fdiv_pos (by rw [d2]; omega), d3, d2]
  have r := itp_i (P := (p k).toInt) (Q := (q k).toInt) ha.1 hb.1 hp hq
  have e : (itp p q a b k).toInt = (p k).toInt + ((q k).toInt - (p k).toInt) * a.toInt / (a.toInt - b.toInt) := by
    unfold itp
    rw [i64_add (by rw [d4]; omega) (by rw [d4]; omega), d4]
  exact ⟨e, by rw [e]; exact r.1, by rw [e]; exact r.2⟩
