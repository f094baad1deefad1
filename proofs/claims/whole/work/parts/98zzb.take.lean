/-! PURE: the class takes a piece -/
section ZTK
variable {W H : Nat}
/-- three corners lie in an array of ints -/
def tri (g : Nat → Int32) (A B C : Nat → Int64) : Prop := ∀ k, k < 6 → (g k).toInt64 = A k ∧ (g (6 + k)).toInt64 = B k ∧ (g (12 + k)).toInt64 = C k
theorem sub32 {a b : Int32} {x y : Int64} (ha : a.toInt64 = x) (hb : b.toInt64 = y) (hx : -1000000000 ≤ x.toInt ∧ x.toInt ≤ 1000000000) (hy : -1000000000 ≤ y.toInt ∧ y.toInt ≤ 1000000000) : (a - b).toInt64 = x - y := by
  subst ha hb
  rw [Int32.toInt_toInt64] at hx hy
  apply i64_ext
  rw [Int32.toInt_toInt64, i32_sub (by omega) (by omega), i64_sub (by rw [Int32.toInt_toInt64, Int32.toInt_toInt64]; omega) (by rw [Int32.toInt_toInt64, Int32.toInt_toInt64]; omega), Int32.toInt_toInt64, Int32.toInt_toInt64]
theorem CP_k {p : Nat → Int64} {k : Nat} (h : CP p) (hk : k < 6) : -1000000000 ≤ (p k).toInt ∧ (p k).toInt ≤ 1000000000 := by
  obtain ⟨a, b, c, d, e, f⟩ := h
  rcases (show k = 0 ∨ k = 1 ∨ k = 2 ∨ k = 3 ∨ k = 4 ∨ k = 5 by omega) with rfl | rfl | rfl | rfl | rfl | rfl <;> omega
theorem e_cross {m : zMem} {x y : Nat} {A B C : Nat → Int64} (hR : RF m.2.2) (hT : tri (m.1 1123) A B C) (hA : CP A) (hB : CP B) (hC : CP C) (hx : x < 6) (hy : y < 6) : F_XPiece_cross (sh0 W H) m 1122 (nI x) (nI y) = some ((B x - A x) * (C y - A y) - (C x - A x) * (B y - A y), m) := by
  have six : ∀ a : Nat, (6 : Int32) + nI a = nI (6 + a) := fun a => nI_pp 6 a
  have twl : ∀ a : Nat, (12 : Int32) + nI a = nI (12 + a) := fun a => nI_pp 12 a
  unfold F_XPiece_cross
  rw [zoS_h sh_1122, zob_h (rf_1122_1 hR), six, zoL_e, zoS_h sh_1123, nI_ix (by omega) (by decide), nI_cl (n := 6 + x) (by omega), zoS_h sh_1122, zob_h (rf_1122_1 hR), zoS_h sh_1123, nI_ix (by omega) (by decide), nI_cl (n := x) (by omega), zoS_h sh_1122, zob_h (rf_1122_1 hR), twl, zoL_e, zoS_h sh_1123, nI_ix (by omega) (by decide), nI_cl (n := 12 + y) (by omega), zoS_h sh_1122, zob_h (rf_1122_1 hR), zoS_h sh_1123, if_neg (fun q => q.elim (nI_pos (by omega)) (by rw [nI_cl (n := y) (by omega)]; omega)), zoL_e, zoS_h sh_1122, zob_h (rf_1122_1 hR), twl, zoL_e, zoS_h sh_1123, if_neg (fun q => q.elim (nI_pos (by omega)) (by rw [nI_cl (n := 12 + x) (by omega)]; omega)), zoS_h sh_1122, zob_h (rf_1122_1 hR), zoS_h sh_1123, if_neg (fun q => q.elim (nI_pos (by omega)) (by omega)), zoS_h sh_1122, zob_h (rf_1122_1 hR), six, zoL_e, zoS_h sh_1123, if_neg (fun q => q.elim (nI_pos (by omega)) (by rw [nI_cl (n := 6 + y) (by omega)]; omega)), zoS_h sh_1122, zob_h (rf_1122_1 hR), zoS_h sh_1123, if_neg (fun q => q.elim (nI_pos (by omega)) (by rw [nI_cl (n := y) (by omega)]; omega)), nI_cl (n := y) (by omega), nI_cl (n := 12 + x) (by omega), nI_cl (n := 6 + y) (by omega)]
  rw [sub32 (hT x hx).2.1 (hT x hx).1 (CP_k hB hx) (CP_k hA hx), sub32 (hT y hy).2.2 (hT y hy).1 (CP_k hC hy) (CP_k hA hy), sub32 (hT x hx).2.2 (hT x hx).1 (CP_k hC hx) (CP_k hA hx), sub32 (hT y hy).2.1 (hT y hy).1 (CP_k hB hy) (CP_k hA hy)]
/-- what taking a piece leaves -/
def TF (m m' : zMem) : Prop := m'.2.2 = m.2.2 ∧ (∀ a, a ≠ 1123 → m'.1 a = m.1 a) ∧ ∀ a, a ≠ 1122 → m'.2.1 a = m.2.1 a
/-- the piece held -/
def PCm (A B C : Nat → Int64) (m : zMem) : Prop := tri (m.1 1123) A B C ∧ m.2.1 1122 0 = are A B C
theorem mC_1 {m : zMem} {a b sp dp n : Nat} {x : Nat} (h : x ≠ b) : (mC m a b sp dp n).1 x = m.1 x := by rw [mC_sI, sI_ne h]
theorem mC_v {m : zMem} {a b sp dp n i : Nat} : (mC m a b sp dp n).1 b i = if dp ≤ i ∧ i < dp + n then m.1 a (sp + (i - dp)) else m.1 b i := by
  rw [mC_sI, sI_at]
  rfl
theorem are_b {A B C : Nat → Int64} (hA : CP A) (hB : CP B) (hC : CP C) : -100000000 ≤ (are A B C).toInt ∧ (are A B C).toInt ≤ 100000000 := by
  have a0 := hA.1
  have a1 := hA.2.1
  have b0 := hB.1
  have b1 := hB.2.1
  have c0 := hC.1
  have c1 := hC.2.1
  unfold are
  have s1 : (B 0 - A 0).toInt = (B 0).toInt - (A 0).toInt := i64_sub (by omega) (by omega)
  have s2 : (C 1 - A 1).toInt = (C 1).toInt - (A 1).toInt := i64_sub (by omega) (by omega)
  have s3 : (C 0 - A 0).toInt = (C 0).toInt - (A 0).toInt := i64_sub (by omega) (by omega)
  have s4 : (B 1 - A 1).toInt = (B 1).toInt - (A 1).toInt := i64_sub (by omega) (by omega)
  have m1 := mul_b (x := (B 0 - A 0).toInt) (y := (C 1 - A 1).toInt) (A := 2400) (B := 2400) (by omega) (by omega) (by decide) (by decide)
  have m2 := mul_b (x := (C 0 - A 0).toInt) (y := (B 1 - A 1).toInt) (A := 2400) (B := 2400) (by omega) (by omega) (by decide) (by decide)
  have p1 : ((B 0 - A 0) * (C 1 - A 1)).toInt = (B 0 - A 0).toInt * (C 1 - A 1).toInt := i64_mul (by omega) (by omega)
  have p2 : ((C 0 - A 0) * (B 1 - A 1)).toInt = (C 0 - A 0).toInt * (B 1 - A 1).toInt := i64_mul (by omega) (by omega)
  rw [i64_sub (by rw [p1, p2]; omega) (by rw [p1, p2]; omega), p1, p2]
  omega
set_option maxHeartbeats 2000000 in
theorem e_take {m : zMem} {A D b nd fc : Nat} {both : Bool} {P Q R : Nat → Int64} (hR : RF m.2.2) (hAD : cAB A D) (hb : b + 1 < 24) (h0 : ∀ k, k < 6 → (m.1 A k).toInt64 = P k) (h1 : ∀ k, k < 6 → (m.1 A (6 * b + k)).toInt64 = Q k) (h2 : ∀ k, k < 6 → (m.1 A (6 * (b + 1) + k)).toInt64 = R k) (hP : CP P) (hQ : CP Q) (hR3 : CP R) : zok (F_XPiece_take (sh0 W H) m 1122 A (nI b) (b32 both)) (fun z => TF m z.2 ∧ ((z.1 = 0 ∧ fan1 both nd fc P Q R = []) ∨ ∃ Y Z, z.1 = 1 ∧ fan1 both nd fc P Q R = [(nd, fc, P, Y, Z)] ∧ PCm P Y Z z.2 ∧ CP Y ∧ CP Z ∧ 0 < (are P Y Z).toInt)) := by
  have sA := cAB_A (W := W) (H := H) hAD
  have nA : A ≠ 1123 := by rcases hAD with ⟨e, f⟩ | ⟨e, f⟩ <;> omega
  have c0 : (0 : Int32).toNatClampNeg = 0 := rfl
  have c6 : (6 : Int32).toNatClampNeg = 6 := rfl
  have c12 : (12 : Int32).toNatClampNeg = 12 := rfl
  have ab := are_b hP hQ hR3
  have z0 : (0 : Int64).toInt = 0 := rfl
  unfold F_XPiece_take
  rw [zoS_h sh_1122, zob_h (rf_1122_1 hR), zoS_h sA, zoS_h sh_1123, if_pos (by decide), c0, c6, zoL_e]
  generalize hm1 : mC m A 1123 0 0 6 = m1
  have R1 : RF m1.2.2 := by rw [← hm1]; exact hR
  have e1 : ∀ a, a ≠ 1123 → m1.1 a = m.1 a := fun a ha => by rw [← hm1, mC_1 ha]
  have v1 : ∀ k, k < 6 → m1.1 1123 k = m.1 A k := fun k hk => by rw [← hm1, mC_v, if_pos (by omega), show 0 + (k - 0) = k by omega]
  have r1 : m1.2 = m.2 := by rw [← hm1]; rfl
  rw [zoS_h sh_1122, zob_h (rf_1122_1 R1), nI_6mul, zoL_e, zoS_h sA, zoS_h sh_1123, if_pos (by rw [nI_cl (n := 6 * b) (by omega)]; exact ⟨nI_pos (by omega), by decide, by decide, by show 6 * b + 12 ≤ 144; omega, by decide⟩), nI_cl (n := 6 * b) (by omega), c12, zoL_e]
  generalize hm2 : mC m1 A 1123 (6 * b) 6 12 = m2
  have R2 : RF m2.2.2 := by rw [← hm2]; exact R1
  have e2 : ∀ a, a ≠ 1123 → m2.1 a = m.1 a := fun a ha => by rw [← hm2, mC_1 ha, e1 a ha]
  have r2 : m2.2 = m.2 := by rw [← hm2]; exact r1
  have T2 : tri (m2.1 1123) P Q R := fun k hk => by
    refine ⟨?_, ?_, ?_⟩
    · rw [← hm2, mC_v, if_neg (by omega), v1 k hk, h0 k hk]
    · rw [← hm2, mC_v, if_pos (by omega), e1 A nA, show 6 * b + (6 + k - 6) = 6 * b + k by omega, h1 k hk]
    · rw [← hm2, mC_v, if_pos (by omega), e1 A nA, show 6 * b + (12 + k - 6) = 6 * (b + 1) + k by omega, h2 k hk]
  have hcr := e_cross (W := W) (H := H) (m := m2) (x := 0) (y := 1) R2 T2 hP hQ hR3 (by decide) (by decide)
  have hcr' : F_XPiece_cross (sh0 W H) m2 1122 0 1 = some (are P Q R, m2) := hcr
  rw [zoS_h sh_1122, zob_h hcr', zoS_h sh_1122, zoL_e, zoS_h sh_1122]
  dsimp only
  generalize hm3 : mL m2 1122 0 (are P Q R) = m3
  have a3 : m3.2.1 1122 0 = are P Q R := by rw [← hm3, mL_v, if_pos rfl, if_pos rfl]
  have R3 : RF m3.2.2 := by rw [← hm3]; exact R2
  have e3 : m3.1 = m2.1 := by rw [← hm3, mL_1]
  have F3 : TF m m3 := ⟨by rw [← hm3, mL_R, r2], fun a ha => by rw [e3, e2 a ha], fun a ha => by rw [← hm3, mL_o ha, r2]⟩
  rw [a3]
  by_cases pos : 0 < (are P Q R).toInt
  · rw [if_pos (lgc_ge.mpr (by rw [i64_lt]; omega)), zoS_h sh_1122, if_neg (fun t => lgc_le.mp t (by rw [i64_lt]; omega))]
    exact zok_s ⟨F3, .inr ⟨Q, R, rfl, by unfold fan1; rw [if_pos pos], ⟨by rw [e3]; exact T2, a3⟩, hQ, hR3, pos⟩⟩
  by_cases neg : (are P Q R).toInt < 0
  rotate_left
  · rw [if_pos (lgc_ge.mpr (by rw [i64_lt]; omega)), zoS_h sh_1122, if_pos (lgc_le.mpr (by rw [i64_lt]; omega))]
    exact zok_s ⟨F3, .inl ⟨rfl, by unfold fan1; rw [if_neg pos, if_neg (fun t => neg t.1)]⟩⟩
  rw [if_neg (fun t => lgc_ge.mp t (by rw [i64_lt]; omega))]
  cases both with
  | false =>
    rw [if_pos (show b32 false = 0 from rfl), zoS_h sh_1122, if_pos (lgc_le.mpr (by rw [i64_lt]; omega))]
    exact zok_s ⟨F3, .inl ⟨rfl, by unfold fan1; rw [if_neg pos, if_neg (fun t => absurd t.2 (by decide))]⟩⟩
  | true =>
    rw [if_neg (by decide), zoS_h sh_1122, zob_h (rf_1122_1 R3), zoL_e, zoS_h sA, zoS_h sh_1123, if_pos (by exact ⟨nI_pos (by omega), by decide, by decide, by rw [nI_cl (n := 6 * b) (by omega)]; show 6 * b + 6 ≤ 144; omega, by decide⟩), zoL_e, nI_cl (n := 6 * b) (by omega)]
    generalize hm4 : mC m3 A 1123 (6 * b) 12 6 = m4
    have R4 : RF m4.2.2 := by rw [← hm4]; exact R3
    have e4 : ∀ a, a ≠ 1123 → m4.1 a = m.1 a := fun a ha => by rw [← hm4, mC_1 ha, e3, e2 a ha]
    have r4 : m4.2 = m3.2 := by rw [← hm4]; rfl
    rw [zoS_h sh_1122, zob_h (rf_1122_1 R4), nI_p1, nI_6mul, zoL_e, zoS_h sA, zoS_h sh_1123, if_pos (by exact ⟨nI_pos (by omega), by decide, by decide, by rw [nI_cl (n := 6 * (b + 1)) (by omega)]; show 6 * (b + 1) + 6 ≤ 144; omega, by decide⟩), zoL_e, nI_cl (n := 6 * (b + 1)) (by omega)]
    generalize hm5 : mC m4 A 1123 (6 * (b + 1)) 6 6 = m5
    have r5 : m5.2 = m3.2 := by rw [← hm5]; exact r4
    have e5 : ∀ a, a ≠ 1123 → m5.1 a = m.1 a := fun a ha => by rw [← hm5, mC_1 ha, e4 a ha]
    have T5 : tri (m5.1 1123) P R Q := fun k hk => by
      refine ⟨?_, ?_, ?_⟩
      · rw [← hm5, mC_v, if_neg (by omega), ← hm4, mC_v, if_neg (by omega), e3]; exact (T2 k hk).1
      · rw [← hm5, mC_v, if_pos (by omega), e4 A nA, show 6 * (b + 1) + (6 + k - 6) = 6 * (b + 1) + k by omega, h2 k hk]
      · rw [← hm5, mC_v, if_neg (by omega), ← hm4, mC_v, if_pos (by omega), e3, e2 A nA, show 6 * b + (12 + k - 12) = 6 * b + k by omega, h1 k hk]
    have a5 : m5.2.1 1122 0 = are P Q R := by rw [r5, a3]
    rw [zoS_h sh_1122, a5, zoL_e, zoS_h sh_1122, zoL_e, zoS_h sh_1122]
    generalize hm6 : mL m5 1122 0 (-are P Q R) = m6
    have a6 : m6.2.1 1122 0 = -are P Q R := by rw [← hm6, mL_v, if_pos rfl, if_pos rfl]
    have np : (-are P Q R).toInt = -(are P Q R).toInt := i64_neg (by omega)
    rw [a6, if_neg (fun t => lgc_le.mp t (by rw [i64_lt]; omega))]
    exact zok_s ⟨⟨by rw [← hm6, mL_R, r5]; exact F3.1, fun a ha => by rw [← hm6, mL_1, e5 a ha], fun a ha => by rw [← hm6, mL_o ha, r5]; exact F3.2.2 a ha⟩, .inr ⟨R, Q, rfl, by unfold fan1; rw [if_neg pos, if_pos ⟨neg, rfl⟩], ⟨by rw [← hm6, mL_1]; exact T5, by rw [a6]; exact are_sw.symm⟩, hR3, hQ, by rw [are_sw]; omega⟩⟩
end ZTK
