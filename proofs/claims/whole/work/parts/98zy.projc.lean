/-! PURE: the class's corners on the picture -/
section ZPJ
variable {W H : Nat}
theorem add32 {a : Int64} {b : Int32} (h1 : -1000000000 ≤ a.toInt ∧ a.toInt ≤ 1000000000) (h2 : -1000000000 ≤ b.toInt ∧ b.toInt ≤ 1000000000) : (a.toInt32 + b).toInt64 = a + b.toInt64 := by
  have e : a.toInt32.toInt = a.toInt := by
    have := congrArg Int64.toInt (i64_rt (a := a) (by omega) (by omega))
    rw [Int32.toInt_toInt64] at this
    exact this
  apply i64_ext
  rw [Int32.toInt_toInt64, i32_add (by omega) (by omega), i64_add (by rw [Int32.toInt_toInt64]; omega) (by rw [Int32.toInt_toInt64]; omega), Int32.toInt_toInt64, e]
theorem fdx {f w x z w8 : Int64} (hf : 8 ≤ f.toInt ∧ f.toInt ≤ 512) (hw : 8 ≤ w.toInt ∧ w.toInt ≤ 48) (hw8 : w8.toInt = 8 * w.toInt) (hx : -16777216 ≤ x.toInt ∧ x.toInt ≤ 16777216) (hz : 4096 ≤ z.toInt ∧ z.toInt ≤ 16777216) (h1 : -2240 ≤ f.toInt * x.toInt + w.toInt * z.toInt) (h2 : -2240 ≤ (-f.toInt) * x.toInt + w.toInt * z.toInt) : -2000 ≤ (zx_fdiv ((16 * f) * x) z).toInt ∧ (zx_fdiv ((16 * f) * x) z).toInt ≤ 2000 := by
  have X := prj_b hf hw hw8 hx hz h1 h2
  have e16 : (16 : Int64).toInt = 16 := rfl
  have m1 : (16 * f).toInt = 16 * f.toInt := by rw [i64_mul (by rw [e16]; omega) (by rw [e16]; omega), e16]
  have mb := mul_b (x := f.toInt) (y := x.toInt) (A := 512) (B := 16777216) (by omega) hx (by decide) (by decide)
  have as : 16 * f.toInt * x.toInt = 16 * (f.toInt * x.toInt) := Int.mul_assoc _ _ _
  have m2 : ((16 * f) * x).toInt = 16 * (f.toInt * x.toInt) := by rw [i64_mul (by rw [m1, as]; omega) (by rw [m1, as]; omega), m1, as]
  have fd : (zx_fdiv ((16 * f) * x) z).toInt = 16 * (f.toInt * x.toInt) / z.toInt := by rw [fdiv_pos (by omega), m2]
  rw [fd]
  omega
/-- corners on the picture, in an array of ints -/
def prC (f w8 h8 : Int64) (l : List (Nat → Int64)) (g : Nat → Int32) : Prop := ∀ q, q < l.length → ∀ k, k < 6 → (g (6 * q + k)).toInt64 = pcr f w8 h8 (l.getD q oF) k
set_option maxHeartbeats 2000000 in
theorem e_pc18 {l : List (Nat → Int64)} {w h f w8 h8 : Int64} {A B : Nat} {m0 : zMem} (hAB : cAB A B) (hA0 : m0.2.2 1121 2 = some A) (hw8 : ((8 : Int32) * m0.1 1121 5).toInt64 = w8) (hh8 : ((8 : Int32) * m0.1 1121 6).toInt64 = h8) (hwv : w8.toInt = 8 * w.toInt) (hhv : h8.toInt = 8 * h.toInt) (hwf : whf w h f) (hn : l.length ≤ 19) (hn0 : m0.1 1121 3 = nI l.length) (ha : arr (m64 (m0.1 A)) l) (hCB : ∀ p, p ∈ l → CB w.toInt h.toInt f.toInt 5 p) : ∀ (d c fuel : Nat) (m : zMem), c + d = l.length → d < fuel → m.2 = m0.2 → (∀ a, a ≠ A → m.1 a = m0.1 a) → (∀ q, q < c → ∀ k, k < 6 → (m.1 A (6 * q + k)).toInt64 = pcr f w8 h8 (l.getD q oF) k) → (∀ x, 6 * c ≤ x → m.1 A x = m0.1 A x) → zok (L_XSight_projectCorners_18 (sh0 W H) fuel 1121 (16 * f) (nI (6 * c)) m) (fun z => z.2.2.2.2 = m0.2 ∧ (∀ a, a ≠ A → z.2.2.2.1 a = m0.1 a) ∧ prC f w8 h8 l (z.2.2.2.1 A)) := by
  have sA := cAB_A (W := W) (H := H) hAB
  have nA : 1121 ≠ A := by rcases hAB with ⟨e, f⟩ | ⟨e, f⟩ <;> omega
  have mem : ∀ c, c < l.length → l.getD c oF ∈ l := fun c hc => by
    rw [List.getD_eq_getElem?_getD, List.getElem?_eq_getElem hc, Option.getD_some]
    exact List.getElem_mem hc
  intro d
  induction d with
  | zero =>
    intro c fuel m hc hf q1 q2 q3 q4
    obtain ⟨fu, rfl⟩ : ∃ fu, fuel = fu + 1 := ⟨fuel - 1, by omega⟩
    obtain rfl : c = l.length := by omega
    rw [L_XSight_projectCorners_18, zoS_h sh_1121, q2 1121 nA, hn0, nI_6mul, if_pos (by rw [nI_leD (by omega) (by omega)]; omega)]
    exact zok_s ⟨q1, q2, q3⟩
  | succ d ih =>
    intro c fuel m hc hf' q1 q2 q3 q4
    obtain ⟨fu, rfl⟩ : ∃ fu, fuel = fu + 1 := ⟨fuel - 1, by omega⟩
    have hcl : c < l.length := by omega
    have hA : m.2.2 1121 2 = some A := by rw [q1]; exact hA0
    have e21 : m.1 1121 = m0.1 1121 := q2 1121 nA
    have aC := ha c hcl
    have cC := hCB _ (mem c hcl)
    have hCP := CP_of hwf hwv hhv cC
    have v0 : (m.1 A (6 * c)).toInt64 = l.getD c oF 0 := by rw [q4 _ (by omega)]; exact aC 0 (by decide)
    have v1 : (m.1 A (6 * c + 1)).toInt64 = l.getD c oF 1 := by rw [q4 _ (by omega)]; exact aC 1 (by decide)
    have v2 : (m.1 A (6 * c + 2)).toInt64 = l.getD c oF 2 := by rw [q4 _ (by omega)]; exact aC 2 (by decide)
    generalize hP : l.getD c oF = P at aC cC hCP v0 v1 v2
    obtain ⟨a0, a1, a2, _, _, _, b1, b2, b3, b4, b5⟩ := cC
    have z1 := b1 (by decide)
    have p2 := b2 (by decide)
    have p3 := b3 (by decide)
    have p4 := b4 (by decide)
    have p5 := b5 (by decide)
    have X := fdx (x := P 0) (z := P 2) hwf.2.2 hwf.1 hwv a0 ⟨z1, a2.2⟩ (by omega) (by omega)
    have Y := fdx (x := P 1) (z := P 2) hwf.2.2 hwf.2.1 hhv a1 ⟨z1, a2.2⟩ (by omega) (by omega)
    have wb := hwf.1
    have hb := hwf.2.1
    have w32 : ((8 : Int32) * m0.1 1121 5).toInt = w8.toInt := by rw [← hw8, Int32.toInt_toInt64]
    have h32 : ((8 : Int32) * m0.1 1121 6).toInt = h8.toInt := by rw [← hh8, Int32.toInt_toInt64]
    have x3 : ((zx_div ((16 * f) * P 0) (P 2)).toInt32 + (8 : Int32) * m0.1 1121 5).toInt64 = prX f w8 P := by
      rw [zx_div_pos (by omega), add32 (by omega) (by omega), hw8]
      rfl
    have y3 : ((zx_div ((16 * f) * P 1) (P 2)).toInt32 + (8 : Int32) * m0.1 1121 6).toInt64 = prY f h8 P := by
      rw [zx_div_pos (by omega), add32 (by omega) (by omega), hh8]
      rfl
    have r3 : (zx_div 4294967296 (P 2)).toInt32.toInt64 = prR P := by
      rw [zx_div_pos (by omega)]
      have hc2 := hCP.1.2.2.1
      have hc2' : 256 ≤ (prR P).toInt ∧ (prR P).toInt ≤ 1048576 := hc2
      exact i64_rt (a := prR P) (by omega) (by omega)
    rw [L_XSight_projectCorners_18, zoS_h sh_1121, e21, hn0, nI_6mul, if_neg (by rw [nI_leD (by omega) (by omega)]; omega), zoS_h sh_1121, zob_h hA, nI_p2, zoL_e, zoS_h sA, nI_ix (by omega) (by decide), nI_cl (n := 6 * c + 2) (by omega), v2, zoL_e, zoS_h sh_1121, zob_h hA, zoS_h sh_1121, zob_h hA, zoS_h sA, nI_ix (by omega) (by decide), nI_cl (n := 6 * c) (by omega), v0, zoL_e, zoS_h sh_1121, zoL_e, zoS_h sA, if_neg (fun q => q.elim (nI_pos (by omega)) (by omega)), zoL_e]
    generalize (zx_div ((16 * f) * P 0) (P 2)).toInt32 + (8 : Int32) * m0.1 1121 5 = X3 at x3 ⊢
    generalize hm1 : mI m A (6 * c) X3 = m1
    have hA1 : m1.2.2 1121 2 = some A := by rw [← hm1]; exact hA
    have f1 : m1.1 1121 = m0.1 1121 := by rw [← hm1, mI_o nA, e21]
    have g1 : m1.1 A (6 * c + 1) = m.1 A (6 * c + 1) := by rw [← hm1, mI_v, if_pos rfl, if_neg (by omega)]
    rw [zoS_h sh_1121, zob_h hA1, zoS_h sh_1121, zob_h hA1, nI_p1, zoL_e, zoS_h sA, nI_ix (by omega) (by decide), nI_cl (n := 6 * c + 1) (by omega), g1, v1, zoL_e, zoS_h sh_1121, f1, zoL_e, zoS_h sA, if_neg (fun q => q.elim (nI_pos (by omega)) (by omega)), zoL_e]
    generalize (zx_div ((16 * f) * P 1) (P 2)).toInt32 + (8 : Int32) * m0.1 1121 6 = Y3 at y3 ⊢
    generalize hm2 : mI m1 A (6 * c + 1) Y3 = m2
    have hA2 : m2.2.2 1121 2 = some A := by rw [← hm2]; exact hA1
    rw [zoS_h sh_1121, zob_h hA2, zoL_e, zoL_e, zoS_h sA, nI_ix (by omega) (by decide), nI_cl (n := 6 * c + 2) (by omega), zoL_e, nI_p6]
    generalize (zx_div 4294967296 (P 2)).toInt32 = Z3 at r3 ⊢
    have six : 6 * c + 6 = 6 * (c + 1) := by omega
    rw [six]
    have hv : ∀ x, (mI m2 A (6 * c + 2) Z3).1 A x = if x = 6 * c + 2 then Z3 else if x = 6 * c + 1 then Y3 else if x = 6 * c then X3 else m.1 A x := fun x => by
      rw [mI_v, if_pos rfl, ← hm2, mI_v, if_pos rfl, ← hm1, mI_v, if_pos rfl]
    refine ih (c + 1) fu _ (by omega) (by omega) (by show m2.2 = _; rw [← hm2]; show m1.2 = _; rw [← hm1]; exact q1) (fun a ha' => by rw [mI_o ha', ← hm2, mI_o ha', ← hm1, mI_o ha', q2 a ha']) (fun q hq k hk => ?_) (fun x hx => ?_)
    · rw [hv]
      by_cases e : q = c
      · rw [e, hP]
        rcases (show k = 0 ∨ k = 1 ∨ k = 2 ∨ k = 3 ∨ k = 4 ∨ k = 5 by omega) with rfl | rfl | rfl | rfl | rfl | rfl
        · rw [if_neg (by omega), if_neg (by omega), if_pos (by omega), x3]; rfl
        · rw [if_neg (by omega), if_pos rfl, y3]; rfl
        · rw [if_pos rfl, r3]; rfl
        · rw [if_neg (by omega), if_neg (by omega), if_neg (by omega), q4 _ (by omega)]; exact aC 3 (by decide)
        · rw [if_neg (by omega), if_neg (by omega), if_neg (by omega), q4 _ (by omega)]; exact aC 4 (by decide)
        · rw [if_neg (by omega), if_neg (by omega), if_neg (by omega), q4 _ (by omega)]; exact aC 5 (by decide)
      · rw [if_neg (by omega), if_neg (by omega), if_neg (by omega), q3 q (by omega) k hk]
    · rw [hv, if_neg (by omega), if_neg (by omega), if_neg (by omega), q4 x (by omega)]
end ZPJ
