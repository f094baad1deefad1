/-! PURE: corners on the picture; edges -/
/-- a corner as it stands on the picture: X, Y, r, u, v, l -/
def pcr (f w8 h8 : Int64) (p : Nat → Int64) : Nat → Int64 := fun k => if k = 0 then prX f w8 p else if k = 1 then prY f h8 p else if k = 2 then prR p else p k
/-- the picture's arrays hold the shape l -/
def prj (f w8 h8 : Int64) (l : List (Nat → Int64)) (L : Nat → Nat → Int64) : Prop := ∀ c, c < l.length → L 1298 c = prX f w8 (l.getD c oF) ∧ L 1299 c = prY f h8 (l.getD c oF) ∧ L 1300 c = prR (l.getD c oF)
def edg (A B : Nat → Int64) (x y : Int64) : Int64 := (B 0 - A 0) * (y - A 1) - (B 1 - A 1) * (x - A 0)
def are (A B C : Nat → Int64) : Int64 := (B 0 - A 0) * (C 1 - A 1) - (C 0 - A 0) * (B 1 - A 1)
def ins (A B : Nat → Int64) (x y : Int64) : Bool := decide (0 < (edg A B x y).toInt) || (decide ((edg A B x y).toInt = 0) && (decide ((B 1).toInt < (A 1).toInt) || (decide ((B 1).toInt = (A 1).toInt) && decide ((A 0).toInt < (B 0).toInt))))
theorem lgc_gt {x : Int64} : (0 < lg_cmp x 0) ↔ 0 < x.toInt := by
  have e0 : (0 : Int64).toInt = 0 := rfl
  have q0 : (0 : Int32).toInt = 0 := rfl
  have h := lgc_le (x := x) (y := 0)
  rw [i64_lt, e0, i32_le, q0] at h
  rw [i32_lt, q0]
  constructor
  · intro q
    by_cases e : 0 < x.toInt
    · exact e
    · have := h.mpr e; omega
  · intro q
    by_cases e : 0 < (lg_cmp x 0).toInt
    · exact e
    · exact absurd q (h.mp (by omega))
theorem lgc_lt2 {x y : Int64} : (lg_cmp x y < 0) ↔ x.toInt < y.toInt := by
  have q0 : (0 : Int32).toInt = 0 := rfl
  have h := lgc_ge (x := x) (y := y)
  rw [i64_lt, i32_le, q0] at h
  rw [i32_lt, q0]
  constructor
  · intro q
    by_cases e : x.toInt < y.toInt
    · exact e
    · have := h.mpr e; omega
  · intro q
    by_cases e : (lg_cmp x y).toInt < 0
    · exact e
    · exact absurd q (h.mp (by omega))
theorem lgc_eq {x y : Int64} : (lg_cmp x y = 0) ↔ x.toInt = y.toInt := by
  rw [lgc_0]
  exact ⟨fun q => by rw [q], i64_ext⟩
section ZPJ
variable {W H : Nat}
set_option maxHeartbeats 4000000 in
theorem e_gf81 {r fc : Nat} {l : List (Nat → Int64)} {m0 : zMem} {x : Int32} {f w8 h8 : Int64} (hr : gM r) (hR0 : RF m0.2.2) (hs0 : m0.2.2 1285 5 = some r) (hf : (m0.1 r 34).toInt64 = f) (hw : ((8 : Int32) * m0.1 1285 1).toInt64 = w8) (hh : ((8 : Int32) * m0.1 1285 2).toInt64 = h8) (hn : l.length ≤ 19) (hn0 : m0.1 1285 26 = nI l.length) (ha : arr (m0.2.1 1295) l) (hz : ∀ c, c < l.length → l.getD c oF 2 ≠ 0) : ∀ (d c fuel : Nat) (m : zMem), c + d = l.length → d < fuel → frm [] [1298, 1299, 1300] m0 m → (∀ k, k < c → m.2.1 1298 k = prX f w8 (l.getD k oF) ∧ m.2.1 1299 k = prY f h8 (l.getD k oF) ∧ m.2.1 1300 k = prR (l.getD k oF)) → zok (L_MPainter_goOverFace_81 (sh0 W H) fuel 1285 x (nI fc) (nI c) m) (fun q => q.1 = 1285 ∧ q.2.1 = x ∧ q.2.2.1 = nI fc ∧ frm [] [1298, 1299, 1300] m0 q.2.2.2.2 ∧ prj f w8 h8 l q.2.2.2.2.2.1) := by
  intro d
  induction d with
  | zero =>
    intro c fuel m hc hfu h1 h2
    obtain ⟨fu, rfl⟩ : ∃ fu, fuel = fu + 1 := ⟨fuel - 1, by omega⟩
    rw [L_MPainter_goOverFace_81, zoS_h sh_1285, h1.2.1 1285 (by simp), hn0, if_pos (by rw [nI_leD (by omega) (by omega)]; omega)]
    exact zok_s ⟨rfl, rfl, rfl, h1, fun k hk => h2 k (by omega)⟩
  | succ d ih =>
    intro c fuel m hc hfu h1 h2
    obtain ⟨fu, rfl⟩ : ∃ fu, fuel = fu + 1 := ⟨fuel - 1, by omega⟩
    have hcl : c < l.length := by omega
    have hR : RF m.2.2 := by rw [h1.1]; exact hR0
    have hs : m.2.2 1285 5 = some r := by rw [h1.1]; exact hs0
    have e1 : m.1 = m0.1 := funext fun a => h1.2.1 a (by simp)
    have e95 : m.2.1 1295 = m0.2.1 1295 := h1.2.2 1295 (by simp)
    have a0 := ha c hcl 0 (by decide)
    have a1 := ha c hcl 1 (by decide)
    have a2 := ha c hcl 2 (by decide)
    rw [Nat.add_zero] at a0
    have hz2 := hz c hcl
    have g0 : 6 * nI c = nI (6 * c) := by rw [show (6 : Int32) = nI 6 from rfl, nI_mul]
    have g1 : 6 * nI c + 1 = nI (6 * c + 1) := nI_6 c 1
    have g2 : 6 * nI c + 2 = nI (6 * c + 2) := nI_6 c 2
    have c0 := nI_cl (show 6 * c < 2147483648 by omega)
    have c1 := nI_cl (show 6 * c + 1 < 2147483648 by omega)
    have c2 := nI_cl (show 6 * c + 2 < 2147483648 by omega)
    have cc := nI_cl (show c < 2147483648 by omega)
    have dv : ∀ (m' : zMem) (y : Int64), F_MPainter_div (sh0 W H) m' y (l.getD c oF 2) = some (zx_fdiv y (l.getD c oF 2), m') := fun m' y => e_div hz2
    rw [L_MPainter_goOverFace_81, zoS_h sh_1285, e1, hn0, if_neg (by rw [nI_leD (by omega) (by omega)]; omega), g1, g2, g0, zoS_h sh_1285, zob_h (rf_1285_23 hR), zoL_e, zoS_h sh_1295, nI_ix (by omega) (by decide), c2, e95, a2, zoL_e, zoS_h sh_1285, zob_h (rf_1285_27 hR), zoS_h sh_1285, zob_h hs, zoS_h (sh_m0 hr), zoS_h sh_1285, zob_h (rf_1285_23 hR), zoL_e, zoS_h sh_1295, nI_ix (by omega) (by decide), c0, e95, a0, hf, zoL_e, zob_h (dv _ _), zoS_h sh_1285]
    dsimp only
    rw [e1, hw, zoL_e, zoS_h sh_1298, nI_ix (by omega) (by decide), cc, zoL_e]
    generalize hmA : mL m 1298 c (zx_fdiv (16 * f * l.getD c oF 0) (l.getD c oF 2) + w8) = mA
    have hRA : RF mA.2.2 := by rw [← hmA]; exact hR
    have hsA : mA.2.2 1285 5 = some r := by rw [← hmA]; exact hs
    have eA : mA.1 = m0.1 := by rw [← hmA, mL_1]; exact e1
    have eA95 : mA.2.1 1295 = m0.2.1 1295 := by rw [← hmA, mL_o (by decide)]; exact e95
    rw [zoS_h sh_1285, zob_h (rf_1285_28 hRA), zoS_h sh_1285, zob_h hsA, zoS_h (sh_m0 hr), zoS_h sh_1285, zob_h (rf_1285_23 hRA), zoL_e, zoS_h sh_1295, nI_ix (by omega) (by decide), c1, eA95, a1, eA, hf, zoL_e, zob_h (dv _ _), zoS_h sh_1285]
    dsimp only
    rw [eA, hh, zoL_e, zoS_h sh_1299, if_neg (fun q => q.elim (nI_pos (by omega)) (by omega)), zoL_e]
    generalize hmB : mL mA 1299 c (zx_fdiv (16 * f * l.getD c oF 1) (l.getD c oF 2) + h8) = mB
    have hRB : RF mB.2.2 := by rw [← hmB]; exact hRA
    rw [zoS_h sh_1285, zob_h (rf_1285_29 hRB), zob_h (dv _ _)]
    dsimp only
    rw [zoS_h sh_1300, if_neg (fun q => q.elim (nI_pos (by omega)) (by omega)), zoL_e, nI_p1]
    refine ih (c + 1) fu (mL mB 1300 c (zx_fdiv 4294967296 (l.getD c oF 2))) (by omega) (by omega) ⟨by rw [mL_R, ← hmB, mL_R, ← hmA, mL_R]; exact h1.1, fun k hk => by rw [mL_1, ← hmB, mL_1, ← hmA, mL_1]; exact h1.2.1 k hk, fun k hk => ?_⟩ (fun k hk => ?_)
    · simp at hk
      rw [mL_o (by omega), ← hmB, mL_o (by omega), ← hmA, mL_o (by omega)]
      exact h1.2.2 k (by simp; omega)
    · rw [← hmB, ← hmA]
      by_cases e : k = c
      · subst e
        simp [mL_v, prX, prY, prR]
      · have := h2 k (by omega)
        simp [mL_v, e, this]
theorem e_are {m : zMem} {f w8 h8 : Int64} {l : List (Nat → Int64)} {a b c : Nat} (hR : RF m.2.2) (hl : l.length ≤ 19) (hp : prj f w8 h8 l m.2.1) (ha : a < l.length) (hb : b < l.length) (hc : c < l.length) : F_MPainter_area (sh0 W H) m 1285 (nI a) (nI b) (nI c) = some (are (pcr f w8 h8 (l.getD a oF)) (pcr f w8 h8 (l.getD b oF)) (pcr f w8 h8 (l.getD c oF)), m) := by
  unfold F_MPainter_area
  obtain ⟨a1, a2, _⟩ := hp a ha
  obtain ⟨b1, b2, _⟩ := hp b hb
  obtain ⟨c1, c2, _⟩ := hp c hc
  have ca := nI_cl (show a < 2147483648 by omega)
  have cb := nI_cl (show b < 2147483648 by omega)
  have cc := nI_cl (show c < 2147483648 by omega)
  rw [zoS_h sh_1285, zob_h (rf_1285_27 hR), zoS_h sh_1298, nI_ix (by omega) (by decide), zoS_h sh_1285, zob_h (rf_1285_27 hR), zoS_h sh_1298, nI_ix (by omega) (by decide), zoS_h sh_1285, zob_h (rf_1285_28 hR), zoS_h sh_1299, nI_ix (by omega) (by decide), zoS_h sh_1285, zob_h (rf_1285_28 hR), zoS_h sh_1299, nI_ix (by omega) (by decide), zoS_h sh_1285, zob_h (rf_1285_27 hR), zoS_h sh_1298, nI_ix (by omega) (by decide), zoS_h sh_1285, zob_h (rf_1285_27 hR), zoS_h sh_1298, nI_ix (by omega) (by decide), zoS_h sh_1285, zob_h (rf_1285_28 hR), zoS_h sh_1299, nI_ix (by omega) (by decide), zoS_h sh_1285, zob_h (rf_1285_28 hR), zoS_h sh_1299, nI_ix (by omega) (by decide), ca, cb, cc, a1, a2, b1, b2, c1, c2]
  rfl
theorem e_edg {m : zMem} {f w8 h8 : Int64} {l : List (Nat → Int64)} {a b : Nat} {x y : Int64} (hR : RF m.2.2) (hl : l.length ≤ 19) (hp : prj f w8 h8 l m.2.1) (ha : a < l.length) (hb : b < l.length) : F_MPainter_edge (sh0 W H) m 1285 (nI a) (nI b) x y = some (edg (pcr f w8 h8 (l.getD a oF)) (pcr f w8 h8 (l.getD b oF)) x y, m) := by
  unfold F_MPainter_edge
  obtain ⟨a1, a2, _⟩ := hp a ha
  obtain ⟨b1, b2, _⟩ := hp b hb
  have ca := nI_cl (show a < 2147483648 by omega)
  have cb := nI_cl (show b < 2147483648 by omega)
  rw [zoS_h sh_1285, zob_h (rf_1285_27 hR), zoS_h sh_1298, nI_ix (by omega) (by decide), zoS_h sh_1285, zob_h (rf_1285_27 hR), zoS_h sh_1298, nI_ix (by omega) (by decide), zoS_h sh_1285, zob_h (rf_1285_28 hR), zoS_h sh_1299, nI_ix (by omega) (by decide), zoS_h sh_1285, zob_h (rf_1285_28 hR), zoS_h sh_1299, nI_ix (by omega) (by decide), zoS_h sh_1285, zob_h (rf_1285_28 hR), zoS_h sh_1299, nI_ix (by omega) (by decide), zoS_h sh_1285, zob_h (rf_1285_27 hR), zoS_h sh_1298, nI_ix (by omega) (by decide), ca, cb, a1, a2, b1, b2]
  rfl
theorem e_ins {m : zMem} {f w8 h8 : Int64} {l : List (Nat → Int64)} {a b : Nat} {x y : Int64} (hR : RF m.2.2) (hl : l.length ≤ 19) (hp : prj f w8 h8 l m.2.1) (ha : a < l.length) (hb : b < l.length) : F_MPainter_inside (sh0 W H) m 1285 (nI a) (nI b) x y = some (b32 (ins (pcr f w8 h8 (l.getD a oF)) (pcr f w8 h8 (l.getD b oF)) x y), m) := by
  unfold F_MPainter_inside ins
  have ee := e_edg (W := W) (H := H) (x := x) (y := y) hR hl hp ha hb
  obtain ⟨a1, a2, _⟩ := hp a ha
  obtain ⟨b1, b2, _⟩ := hp b hb
  have ca := nI_cl (show a < 2147483648 by omega)
  have cb := nI_cl (show b < 2147483648 by omega)
  have p0 : ∀ p : Nat → Int64, pcr f w8 h8 p 0 = prX f w8 p := fun p => rfl
  have p1 : ∀ p : Nat → Int64, pcr f w8 h8 p 1 = prY f h8 p := fun p => rfl
  rw [zoS_h sh_1285, zob_h ee]
  dsimp only
  rw [p0, p0, p1, p1, ← a1, ← a2, ← b1, ← b2]
  generalize edg (pcr f w8 h8 (l.getD a oF)) (pcr f w8 h8 (l.getD b oF)) x y = E
  by_cases e1 : 0 < E.toInt
  · rw [if_pos (lgc_gt.mpr e1)]
    simp [e1, b32]
  · rw [if_neg (fun q => e1 (lgc_gt.mp q))]
    have e00 : (0 : Int64).toInt = 0 := rfl
    by_cases e2 : E.toInt = 0
    · rw [if_pos (lgc_eq.mpr (by rw [e00]; exact e2)), zoS_h sh_1285, zob_h (rf_1285_28 hR), zoS_h sh_1299, nI_ix (by omega) (by decide), zoS_h sh_1285, zob_h (rf_1285_28 hR), zoS_h sh_1299, nI_ix (by omega) (by decide), ca, cb]
      by_cases e3 : (m.2.1 1299 b).toInt < (m.2.1 1299 a).toInt
      · rw [if_pos (lgc_lt2.mpr e3)]
        simp [e1, e2, e3, b32]
      · rw [if_neg (fun q => e3 (lgc_lt2.mp q)), zoS_h sh_1285, zob_h (rf_1285_28 hR), zoS_h sh_1299, if_neg (fun q => q.elim (nI_pos (by omega)) (by omega)), zoS_h sh_1285, zob_h (rf_1285_28 hR), zoS_h sh_1299, if_neg (fun q => q.elim (nI_pos (by omega)) (by omega))]
        by_cases e4 : (m.2.1 1299 b).toInt = (m.2.1 1299 a).toInt
        · rw [if_pos (lgc_eq.mpr e4), zoS_h sh_1285, zob_h (rf_1285_27 hR), zoS_h sh_1298, if_neg (fun q => q.elim (nI_pos (by omega)) (by omega)), zoS_h sh_1285, zob_h (rf_1285_27 hR), zoS_h sh_1298, if_neg (fun q => q.elim (nI_pos (by omega)) (by omega))]
          by_cases e5 : (m.2.1 1298 a).toInt < (m.2.1 1298 b).toInt
          · rw [if_neg (fun q => lgc_le.mp q (i64_lt.mpr e5))]
            simp [e1, e2, e3, e4, e5, b32]
          · rw [if_pos (lgc_le.mpr (fun q => e5 (i64_lt.mp q)))]
            simp [e1, e2, e4, e5, b32]
        · rw [if_neg (fun q => e4 (lgc_eq.mp q))]
          simp [e1, e2, e3, e4, b32]
    · rw [if_neg (fun q => e2 (by rw [lgc_eq, e00] at q; exact q))]
      simp [e1, e2, b32]
end ZPJ
