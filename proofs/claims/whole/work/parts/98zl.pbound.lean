/-! PURE: bounds of a piece on the picture -/
/-- a corner on the picture -/
def CP (p : Nat → Int64) : Prop := (-1200 ≤ (p 0).toInt ∧ (p 0).toInt ≤ 1200) ∧ (-1200 ≤ (p 1).toInt ∧ (p 1).toInt ≤ 1200) ∧ (256 ≤ (p 2).toInt ∧ (p 2).toInt ≤ 1048576) ∧ (-131072 ≤ (p 3).toInt ∧ (p 3).toInt ≤ 131072) ∧ (-131072 ≤ (p 4).toInt ∧ (p 4).toInt ≤ 131072) ∧ (0 ≤ (p 5).toInt ∧ (p 5).toInt ≤ 65536)
theorem prj_b {f w x z : Int64} {w8 : Int64} (hf : 8 ≤ f.toInt ∧ f.toInt ≤ 512) (hw : 8 ≤ w.toInt ∧ w.toInt ≤ 48) (hw8 : w8.toInt = 8 * w.toInt) (hx : -16777216 ≤ x.toInt ∧ x.toInt ≤ 16777216) (hz : 4096 ≤ z.toInt ∧ z.toInt ≤ 16777216) (h1 : -2240 ≤ f.toInt * x.toInt + w.toInt * z.toInt) (h2 : -2240 ≤ (-f.toInt) * x.toInt + w.toInt * z.toInt) : (zx_fdiv ((16 * f) * x) z + w8).toInt = 16 * (f.toInt * x.toInt) / z.toInt + 8 * w.toInt ∧ -1200 ≤ (zx_fdiv ((16 * f) * x) z + w8).toInt ∧ (zx_fdiv ((16 * f) * x) z + w8).toInt ≤ 1200 := by
  have e16 : (16 : Int64).toInt = 16 := rfl
  have m1 : (16 * f).toInt = 16 * f.toInt := by rw [i64_mul (by rw [e16]; omega) (by rw [e16]; omega), e16]
  have mb := mul_b (x := f.toInt) (y := x.toInt) (A := 512) (B := 16777216) (by omega) hx (by decide) (by decide)
  have as : 16 * f.toInt * x.toInt = 16 * (f.toInt * x.toInt) := Int.mul_assoc _ _ _
  have m2 : ((16 * f) * x).toInt = 16 * (f.toInt * x.toInt) := by rw [i64_mul (by rw [m1, as]; omega) (by rw [m1, as]; omega), m1, as]
  have fd : (zx_fdiv ((16 * f) * x) z).toInt = 16 * (f.toInt * x.toInt) / z.toInt := by rw [fdiv_pos (by omega), m2]
  have ng : (-f.toInt) * x.toInt = -(f.toInt * x.toInt) := Int.neg_mul _ _
  rw [ng] at h2
  have lo : -16 * w.toInt - 9 ≤ 16 * (f.toInt * x.toInt) / z.toInt := by
    refine Int.le_ediv_of_mul_le (by omega) ?_
    have : (-16 * w.toInt - 9) * z.toInt = -16 * (w.toInt * z.toInt) - 9 * z.toInt := by grind
    omega
  have hi : 16 * (f.toInt * x.toInt) / z.toInt ≤ 16 * w.toInt + 9 := by
    refine Int.ediv_le_of_le_mul (by omega) ?_
    have : (16 * w.toInt + 9) * z.toInt = 16 * (w.toInt * z.toInt) + 9 * z.toInt := by grind
    omega
  have e : (zx_fdiv ((16 * f) * x) z + w8).toInt = 16 * (f.toInt * x.toInt) / z.toInt + 8 * w.toInt := by rw [i64_add (by rw [fd, hw8]; omega) (by rw [fd, hw8]; omega), fd, hw8]
  exact ⟨e, by rw [e]; omega, by rw [e]; omega⟩
theorem CP_of {w h f w8 h8 : Int64} {p : Nat → Int64} (hwf : whf w h f) (hw8 : w8.toInt = 8 * w.toInt) (hh8 : h8.toInt = 8 * h.toInt) (hp : CB w.toInt h.toInt f.toInt 5 p) : CP (pcr f w8 h8 p) ∧ p 2 ≠ 0 := by
  obtain ⟨a0, a1, a2, a3, a4, a5, b1, b2, b3, b4, b5⟩ := hp
  have z1 := b1 (by decide)
  have q2 := b2 (by decide)
  have q3 := b3 (by decide)
  have q4 := b4 (by decide)
  have q5 := b5 (by decide)
  have X := prj_b (x := p 0) (z := p 2) hwf.2.2 hwf.1 hw8 a0 ⟨z1, a2.2⟩ (by omega) (by omega)
  have Y := prj_b (x := p 1) (z := p 2) hwf.2.2 hwf.2.1 hh8 a1 ⟨z1, a2.2⟩ (by omega) (by omega)
  have r : (prR p).toInt = 4294967296 / (p 2).toInt := by
    unfold prR
    rw [fdiv_pos (by omega)]
    rfl
  refine ⟨⟨X.2, Y.2, ?_, a3, a4, a5⟩, fun e => ?_⟩
  · show 256 ≤ (prR p).toInt ∧ (prR p).toInt ≤ 1048576
    rw [r]
    exact ⟨Int.le_ediv_of_mul_le (by omega) (by omega), Int.ediv_le_of_le_mul (by omega) (by omega)⟩
  · rw [e] at z1
    exact absurd z1 (by decide)
theorem cX_i {n : Nat} (hn : n < 48) : (cX n).toInt = 16 * n + 8 := by
  unfold cX
  rw [Int32.toInt_toInt64]
  have e16 : 16 * nI n = nI (16 * n) := by rw [show (16 : Int32) = nI 16 from rfl, nI_mul]
  rw [e16, show nI (16 * n) + 8 = nI (16 * n + 8) from (Int32.ofNat_add _ _).symm, nI_toInt (by omega)]
  omega
theorem edg_i {A B : Nat → Int64} {x y : Int64} (hA : CP A) (hB : CP B) (hx : 0 ≤ x.toInt ∧ x.toInt ≤ 1200) (hy : 0 ≤ y.toInt ∧ y.toInt ≤ 1200) : (edg A B x y).toInt = ((B 0).toInt - (A 0).toInt) * (y.toInt - (A 1).toInt) - ((B 1).toInt - (A 1).toInt) * (x.toInt - (A 0).toInt) ∧ -11520000 ≤ (edg A B x y).toInt ∧ (edg A B x y).toInt ≤ 11520000 := by
  have a0 := hA.1
  have a1 := hA.2.1
  have b0 := hB.1
  have b1 := hB.2.1
  have d1 : (B 0 - A 0).toInt = (B 0).toInt - (A 0).toInt := i64_sub (by omega) (by omega)
  have d2 : (y - A 1).toInt = y.toInt - (A 1).toInt := i64_sub (by omega) (by omega)
  have d3 : (B 1 - A 1).toInt = (B 1).toInt - (A 1).toInt := i64_sub (by omega) (by omega)
  have d4 : (x - A 0).toInt = x.toInt - (A 0).toInt := i64_sub (by omega) (by omega)
  have m1 := mul_b (x := (B 0).toInt - (A 0).toInt) (y := y.toInt - (A 1).toInt) (A := 2400) (B := 2400) (by omega) (by omega) (by decide) (by decide)
  have m2 := mul_b (x := (B 1).toInt - (A 1).toInt) (y := x.toInt - (A 0).toInt) (A := 2400) (B := 2400) (by omega) (by omega) (by decide) (by decide)
  have e1 : ((B 0 - A 0) * (y - A 1)).toInt = ((B 0).toInt - (A 0).toInt) * (y.toInt - (A 1).toInt) := by rw [i64_mul (by rw [d1, d2]; omega) (by rw [d1, d2]; omega), d1, d2]
  have e2 : ((B 1 - A 1) * (x - A 0)).toInt = ((B 1).toInt - (A 1).toInt) * (x.toInt - (A 0).toInt) := by rw [i64_mul (by rw [d3, d4]; omega) (by rw [d3, d4]; omega), d3, d4]
  have e : (edg A B x y).toInt = ((B 0).toInt - (A 0).toInt) * (y.toInt - (A 1).toInt) - ((B 1).toInt - (A 1).toInt) * (x.toInt - (A 0).toInt) := by
    unfold edg
    rw [i64_sub (by rw [e1, e2]; omega) (by rw [e1, e2]; omega), e1, e2]
  exact ⟨e, by rw [e]; omega, by rw [e]; omega⟩
theorem are_i {A B C : Nat → Int64} (hA : CP A) (hB : CP B) (hC : CP C) : (are A B C).toInt = ((B 0).toInt - (A 0).toInt) * ((C 1).toInt - (A 1).toInt) - ((C 0).toInt - (A 0).toInt) * ((B 1).toInt - (A 1).toInt) ∧ -11520000 ≤ (are A B C).toInt ∧ (are A B C).toInt ≤ 11520000 := by
  have a0 := hA.1
  have a1 := hA.2.1
  have b0 := hB.1
  have b1 := hB.2.1
  have c0 := hC.1
  have c1 := hC.2.1
  have d1 : (B 0 - A 0).toInt = (B 0).toInt - (A 0).toInt := i64_sub (by omega) (by omega)
  have d2 : (C 1 - A 1).toInt = (C 1).toInt - (A 1).toInt := i64_sub (by omega) (by omega)
  have d3 : (C 0 - A 0).toInt = (C 0).toInt - (A 0).toInt := i64_sub (by omega) (by omega)
  have d4 : (B 1 - A 1).toInt = (B 1).toInt - (A 1).toInt := i64_sub (by omega) (by omega)
  have m1 := mul_b (x := (B 0).toInt - (A 0).toInt) (y := (C 1).toInt - (A 1).toInt) (A := 2400) (B := 2400) (by omega) (by omega) (by decide) (by decide)
  have m2 := mul_b (x := (C 0).toInt - (A 0).toInt) (y := (B 1).toInt - (A 1).toInt) (A := 2400) (B := 2400) (by omega) (by omega) (by decide) (by decide)
  have e1 : ((B 0 - A 0) * (C 1 - A 1)).toInt = ((B 0).toInt - (A 0).toInt) * ((C 1).toInt - (A 1).toInt) := by rw [i64_mul (by rw [d1, d2]; omega) (by rw [d1, d2]; omega), d1, d2]
  have e2 : ((C 0 - A 0) * (B 1 - A 1)).toInt = ((C 0).toInt - (A 0).toInt) * ((B 1).toInt - (A 1).toInt) := by rw [i64_mul (by rw [d3, d4]; omega) (by rw [d3, d4]; omega), d3, d4]
  have e : (are A B C).toInt = ((B 0).toInt - (A 0).toInt) * ((C 1).toInt - (A 1).toInt) - ((C 0).toInt - (A 0).toInt) * ((B 1).toInt - (A 1).toInt) := by
    unfold are
    rw [i64_sub (by rw [e1, e2]; omega) (by rw [e1, e2]; omega), e1, e2]
  exact ⟨e, by rw [e]; omega, by rw [e]; omega⟩
theorem ins_e {A B : Nat → Int64} {x y : Int64} (h : ins A B x y = true) : 0 ≤ (edg A B x y).toInt := by
  unfold ins at h
  simp at h
  omega
theorem avg_b {a b c x y z M : Int} (ha : 0 ≤ a) (hb : 0 ≤ b) (hc : 0 ≤ c) (hs : 0 < a + b + c) {lo : Int} (hx : lo ≤ x ∧ x ≤ M) (hy : lo ≤ y ∧ y ≤ M) (hz : lo ≤ z ∧ z ≤ M) : (lo * (a + b + c) ≤ a * x + b * y + c * z ∧ a * x + b * y + c * z ≤ M * (a + b + c)) ∧ lo ≤ (a * x + b * y + c * z) / (a + b + c) ∧ (a * x + b * y + c * z) / (a + b + c) ≤ M := by
  have l1 : a * lo ≤ a * x := Int.mul_le_mul_of_nonneg_left hx.1 ha
  have l2 : b * lo ≤ b * y := Int.mul_le_mul_of_nonneg_left hy.1 hb
  have l3 : c * lo ≤ c * z := Int.mul_le_mul_of_nonneg_left hz.1 hc
  have u1 : a * x ≤ a * M := Int.mul_le_mul_of_nonneg_left hx.2 ha
  have u2 : b * y ≤ b * M := Int.mul_le_mul_of_nonneg_left hy.2 hb
  have u3 : c * z ≤ c * M := Int.mul_le_mul_of_nonneg_left hz.2 hc
  have e1 : lo * (a + b + c) = a * lo + b * lo + c * lo := by grind
  have e2 : M * (a + b + c) = a * M + b * M + c * M := by grind
  have L : lo * (a + b + c) ≤ a * x + b * y + c * z := by omega
  have U : a * x + b * y + c * z ≤ M * (a + b + c) := by omega
  exact ⟨⟨L, U⟩, Int.le_ediv_of_mul_le hs L, Int.ediv_le_of_le_mul hs U⟩
/-- all that is known of a pixel that a piece covers -/
theorem cov_b {A B C : Nat → Int64} {x y : Int64} (hA : CP A) (hB : CP B) (hC : CP C) (hx : 0 ≤ x.toInt ∧ x.toInt ≤ 1200) (hy : 0 ≤ y.toInt ∧ y.toInt ≤ 1200) (har : 0 < (are A B C).toInt) (hc : cov A B C x y = true) : (0 ≤ (pW0 A B C x y).toInt ∧ 0 ≤ (pW1 A B C x y).toInt ∧ 0 ≤ (pW2 A B C x y).toInt) ∧ (pHH A B C x y).toInt = (pW0 A B C x y).toInt + (pW1 A B C x y).toInt + (pW2 A B C x y).toInt ∧ (0 < (pHH A B C x y).toInt ∧ (pHH A B C x y).toInt ≤ 12079595520000) ∧ (256 ≤ (pNr A B C (are A B C) x y).toInt ∧ (pNr A B C (are A B C) x y).toInt ≤ 1048576) ∧ (∀ i, i = 3 ∨ i = 4 → -131072 ≤ (pMx A B C x y i).toInt ∧ (pMx A B C x y i).toInt ≤ 131072) ∧ (0 ≤ (pMx A B C x y 5).toInt ∧ (pMx A B C x y 5).toInt ≤ 65536) ∧ (((A 0).toInt ≤ x.toInt ∨ (B 0).toInt ≤ x.toInt ∨ (C 0).toInt ≤ x.toInt) ∧ (x.toInt ≤ (A 0).toInt ∨ x.toInt ≤ (B 0).toInt ∨ x.toInt ≤ (C 0).toInt)) ∧ (((A 1).toInt ≤ y.toInt ∨ (B 1).toInt ≤ y.toInt ∨ (C 1).toInt ≤ y.toInt) ∧ (y.toInt ≤ (A 1).toInt ∨ y.toInt ≤ (B 1).toInt ∨ y.toInt ≤ (C 1).toInt)) := by
  unfold cov at hc
  simp at hc
  obtain ⟨c0, c1, c2⟩ := hc
  have n0 := ins_e c0
  have n1 := ins_e c1
  have n2 := ins_e c2
  obtain ⟨i0, l0, u0⟩ := edg_i (x := x) (y := y) hB hC hx hy
  obtain ⟨i1, l1, u1⟩ := edg_i (x := x) (y := y) hC hA hx hy
  obtain ⟨i2, l2, u2⟩ := edg_i (x := x) (y := y) hA hB hx hy
  obtain ⟨ia, la, ua⟩ := are_i hA hB hC
  have hsum : (edg B C x y).toInt + (edg C A x y).toInt + (edg A B x y).toInt = (are A B C).toInt := by
    rw [i0, i1, i2, ia]
    grind
  have hbx : (edg B C x y).toInt * (A 0).toInt + (edg C A x y).toInt * (B 0).toInt + (edg A B x y).toInt * (C 0).toInt = (are A B C).toInt * x.toInt := by
    rw [i0, i1, i2, ia]
    grind
  have hby : (edg B C x y).toInt * (A 1).toInt + (edg C A x y).toInt * (B 1).toInt + (edg A B x y).toInt * (C 1).toInt = (are A B C).toInt * y.toInt := by
    rw [i0, i1, i2, ia]
    grind
  have ra := hA.2.2.1
  have rb := hB.2.2.1
  have rc := hC.2.2.1
  have mW : ∀ {E R : Int64}, 0 ≤ E.toInt → E.toInt ≤ 11520000 → 256 ≤ R.toInt → R.toInt ≤ 1048576 → (E * R).toInt = E.toInt * R.toInt ∧ 0 ≤ (E * R).toInt ∧ 256 * E.toInt ≤ (E * R).toInt ∧ (E * R).toInt ≤ 1048576 * E.toInt := fun {E R} h1 h2 h3 h4 => by
    have q1 : 256 * E.toInt ≤ E.toInt * R.toInt := by
      have := Int.mul_le_mul_of_nonneg_left h3 h1
      omega
    have q2 : E.toInt * R.toInt ≤ 1048576 * E.toInt := by
      have := Int.mul_le_mul_of_nonneg_left h4 h1
      omega
    have e : (E * R).toInt = E.toInt * R.toInt := i64_mul (by omega) (by omega)
    exact ⟨e, by omega, by omega, by omega⟩
  obtain ⟨e0, p0, a0, b0⟩ := mW n0 u0 ra.1 ra.2
  obtain ⟨e1, p1, a1, b1⟩ := mW n1 u1 rb.1 rb.2
  obtain ⟨e2, p2, a2, b2⟩ := mW n2 u2 rc.1 rc.2
  have w0 : (pW0 A B C x y).toInt = (edg B C x y * A 2).toInt := rfl
  have w1 : (pW1 A B C x y).toInt = (edg C A x y * B 2).toInt := rfl
  have w2 : (pW2 A B C x y).toInt = (edg A B x y * C 2).toInt := rfl
  rw [← w0] at p0 a0 b0
  rw [← w1] at p1 a1 b1
  rw [← w2] at p2 a2 b2
  have s1 : (pW0 A B C x y + pW1 A B C x y).toInt = (pW0 A B C x y).toInt + (pW1 A B C x y).toInt := i64_add (by omega) (by omega)
  have hH : (pHH A B C x y).toInt = (pW0 A B C x y).toInt + (pW1 A B C x y).toInt + (pW2 A B C x y).toInt := by
    unfold pHH
    rw [i64_add (by rw [s1]; omega) (by rw [s1]; omega), s1]
  have hn : (pNr A B C (are A B C) x y).toInt = (pHH A B C x y).toInt / (are A B C).toInt := by
    unfold pNr
    rw [fdiv_pos har]
  have mx : ∀ (i : Nat) (lo M : Int), -131072 ≤ lo → M ≤ 131072 → (lo ≤ (A i).toInt ∧ (A i).toInt ≤ M) → (lo ≤ (B i).toInt ∧ (B i).toInt ≤ M) → (lo ≤ (C i).toInt ∧ (C i).toInt ≤ M) → lo ≤ (pMx A B C x y i).toInt ∧ (pMx A B C x y i).toInt ≤ M := fun i lo M hlo hM ha hb hc => by
    have av := avg_b (a := (pW0 A B C x y).toInt) (b := (pW1 A B C x y).toInt) (c := (pW2 A B C x y).toInt) p0 p1 p2 (by omega) ha hb hc
    have t0 := mul_b (x := (pW0 A B C x y).toInt) (y := (A i).toInt) (A := 12079595520000) (B := 131072) (by omega) (by omega) (by decide) (by decide)
    have t1 := mul_b (x := (pW1 A B C x y).toInt) (y := (B i).toInt) (A := 12079595520000) (B := 131072) (by omega) (by omega) (by decide) (by decide)
    have t2 := mul_b (x := (pW2 A B C x y).toInt) (y := (C i).toInt) (A := 12079595520000) (B := 131072) (by omega) (by omega) (by decide) (by decide)
    have q0 : (pW0 A B C x y * A i).toInt = (pW0 A B C x y).toInt * (A i).toInt := i64_mul (by omega) (by omega)
    have q1 : (pW1 A B C x y * B i).toInt = (pW1 A B C x y).toInt * (B i).toInt := i64_mul (by omega) (by omega)
    have q2 : (pW2 A B C x y * C i).toInt = (pW2 A B C x y).toInt * (C i).toInt := i64_mul (by omega) (by omega)
    have q3 : (pW0 A B C x y * A i + pW1 A B C x y * B i).toInt = (pW0 A B C x y).toInt * (A i).toInt + (pW1 A B C x y).toInt * (B i).toInt := by rw [i64_add (by rw [q0, q1]; omega) (by rw [q0, q1]; omega), q0, q1]
    have q4 : (pW0 A B C x y * A i + pW1 A B C x y * B i + pW2 A B C x y * C i).toInt = (pW0 A B C x y).toInt * (A i).toInt + (pW1 A B C x y).toInt * (B i).toInt + (pW2 A B C x y).toInt * (C i).toInt := by rw [i64_add (by rw [q2, q3]; omega) (by rw [q2, q3]; omega), q2, q3]
    unfold pMx
    rw [fdiv_pos (by omega), q4, hH]
    exact av.2
  have inX : ∀ (p q r t : Int), (edg B C x y).toInt * p + (edg C A x y).toInt * q + (edg A B x y).toInt * r = (are A B C).toInt * t → (p ≤ t ∨ q ≤ t ∨ r ≤ t) ∧ (t ≤ p ∨ t ≤ q ∨ t ≤ r) := fun p q r t h => by
    have sm : ∀ (E d : Int), 0 ≤ E → 0 < d → 0 ≤ E * d ∧ E ≤ E * d := fun E d h1 h2 => by
      have := Int.mul_le_mul_of_nonneg_left (show (1 : Int) ≤ d by omega) h1
      omega
    have ht : (are A B C).toInt * t = (edg B C x y).toInt * t + (edg C A x y).toInt * t + (edg A B x y).toInt * t := by rw [← hsum]; grind
    constructor
    · apply Classical.byContradiction
      intro k
      have k1 := sm (edg B C x y).toInt (p - t) n0 (by omega)
      have k2 := sm (edg C A x y).toInt (q - t) n1 (by omega)
      have k3 := sm (edg A B x y).toInt (r - t) n2 (by omega)
      rw [Int.mul_sub] at k1 k2 k3
      omega
    · apply Classical.byContradiction
      intro k
      have k1 := sm (edg B C x y).toInt (t - p) n0 (by omega)
      have k2 := sm (edg C A x y).toInt (t - q) n1 (by omega)
      have k3 := sm (edg A B x y).toInt (t - r) n2 (by omega)
      rw [Int.mul_sub] at k1 k2 k3
      omega
  refine ⟨⟨p0, p1, p2⟩, hH, ⟨by omega, by omega⟩, ?_, fun i hi => ?_, ?_, inX _ _ _ _ hbx, inX _ _ _ _ hby⟩
  · rw [hn]
    exact ⟨Int.le_ediv_of_mul_le har (by omega), Int.ediv_le_of_le_mul har (by omega)⟩
  · rcases hi with rfl | rfl
    · exact mx 3 _ _ (by decide) (by decide) hA.2.2.2.1 hB.2.2.2.1 hC.2.2.2.1
    · exact mx 4 _ _ (by decide) (by decide) hA.2.2.2.2.1 hB.2.2.2.2.1 hC.2.2.2.2.1
  · exact mx 5 0 65536 (by decide) (by decide) hA.2.2.2.2.2 hB.2.2.2.2.2 hC.2.2.2.2.2
