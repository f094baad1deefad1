/-! PURE: the class's sides and cut corners -/
section ZSD
variable {W H : Nat}
theorem nI_6mul (a : Nat) : (6 : Int32) * nI a = nI (6 * a) := nI_mul 6 a
theorem nI_pp (a b : Nat) : nI a + nI b = nI (a + b) := (Int32.ofNat_add a b).symm
/-- the two corner arrays of the sight: A holds, B is written -/
def cAB (A B : Nat) : Prop := A = 1124 ∧ B = 1177 ∨ A = 1177 ∧ B = 1124
theorem cAB_A {A B : Nat} (h : cAB A B) : sh0 W H A = some (100, 144) := by
  rcases h with ⟨e, _⟩ | ⟨e, _⟩ <;> subst e <;> rfl
theorem cAB_B {A B : Nat} (h : cAB A B) : sh0 W H B = some (100, 144) := by
  rcases h with ⟨_, e⟩ | ⟨_, e⟩ <;> subst e <;> rfl
theorem e_side {m : zMem} {s A B j c : Nat} (hs : gS s) (hR : RF m.2.2) (h7 : m.2.2 1121 7 = some s) (hAB : cAB A B) (hA : m.2.2 1121 2 = some A) (hj : j < 5) (hc : c < 24) : F_XSight_sideOf (sh0 W H) m 1121 (nI j) (nI c) = some (bes (m.1 1121 5).toInt64 (m.1 1121 6).toInt64 (m.1 (s + 23) 6).toInt64 j (fun k => (m.1 A (6 * c + k)).toInt64), m) := by
  have sA := cAB_A (W := W) (H := H) hAB
  have c6 : (6 : Int32).toNatClampNeg = 6 := rfl
  have p0 : nI (6 * c) + 0 = nI (6 * c) := Int32.add_zero _
  unfold F_XSight_sideOf bes
  rw [zoS_h sh_1121, zob_h hA, nI_6mul, nI_p2, zoL_e, zoS_h sA, nI_ix (by omega) (by decide), nI_cl (n := 6 * c + 2) (by omega), zoL_e]
  rcases (show j = 0 ∨ j = 1 ∨ j = 2 ∨ j = 3 ∨ j = 4 by omega) with rfl | rfl | rfl | rfl | rfl
  · rw [if_pos (by decide), if_pos rfl]
  · rw [if_neg (by decide), zoS_h sh_1121, zob_h h7, zoS_h (sh_s0 hs), zob_h (rf_s6 hR hs), zoS_h (sh_s23 hs), if_neg (by decide), zoS_h sh_1121, zob_h hA, if_neg (by decide), p0, zoL_e, zoS_h sA, nI_ix (by omega) (by decide), nI_cl (n := 6 * c) (by omega), zoL_e, if_neg (by decide), zoS_h sh_1121, zoL_e, if_pos (by decide), if_neg (by decide), if_pos rfl, Int64.add_comm, c6]
    rfl
  · rw [if_neg (by decide), zoS_h sh_1121, zob_h h7, zoS_h (sh_s0 hs), zob_h (rf_s6 hR hs), zoS_h (sh_s23 hs), if_neg (by decide), zoS_h sh_1121, zob_h hA, if_neg (by decide), p0, zoL_e, zoS_h sA, nI_ix (by omega) (by decide), nI_cl (n := 6 * c) (by omega), zoL_e, if_neg (by decide), zoS_h sh_1121, zoL_e, if_neg (by decide), if_neg (by decide), if_neg (by decide), if_neg (by decide), if_pos rfl, c6]
    rfl
  · rw [if_neg (by decide), zoS_h sh_1121, zob_h h7, zoS_h (sh_s0 hs), zob_h (rf_s6 hR hs), zoS_h (sh_s23 hs), if_neg (by decide), zoS_h sh_1121, zob_h hA, if_pos (by decide), nI_p1, zoL_e, zoS_h sA, nI_ix (by omega) (by decide), nI_cl (n := 6 * c + 1) (by omega), zoL_e, if_pos (by decide), zoS_h sh_1121, zoL_e, if_neg (by decide), if_pos (by decide), if_neg (by decide), if_neg (by decide), if_neg (by decide), if_pos rfl, Int64.add_comm, c6]
  · rw [if_neg (by decide), zoS_h sh_1121, zob_h h7, zoS_h (sh_s0 hs), zob_h (rf_s6 hR hs), zoS_h (sh_s23 hs), if_neg (by decide), zoS_h sh_1121, zob_h hA, if_pos (by decide), nI_p1, zoL_e, zoS_h sA, nI_ix (by omega) (by decide), nI_cl (n := 6 * c + 1) (by omega), zoL_e, if_pos (by decide), zoS_h sh_1121, zoL_e, if_neg (by decide), if_neg (by decide), if_neg (by decide), if_neg (by decide), if_neg (by decide), if_neg (by decide), c6]
/-- a corner is written at v of the array B -/
def pshC (B v : Nat) (x : Nat → Int64) (m m' : zMem) : Prop := m'.2 = m.2 ∧ (∀ a, a ≠ B → m'.1 a = m.1 a) ∧ (∀ k, k < 6 → (m'.1 B (6 * v + k)).toInt64 = x k) ∧ ∀ q, ¬ (6 * v ≤ q ∧ q < 6 * v + 6) → m'.1 B q = m.1 B q
set_option maxHeartbeats 1000000 in
theorem e_pb13 {A B c1 c2 v : Nat} {a b : Int64} {m0 : zMem} (hAB : cAB A B) (hA : m0.2.2 1121 2 = some A) (hB : m0.2.2 1121 14 = some B) (h1 : c1 < 24) (h2 : c2 < 24) (hv : v < 24) (hab : a - b ≠ 0) (hd : ∀ k, k < 6 → (m0.1 A (6 * c2 + k) - m0.1 A (6 * c1 + k)).toInt64 = (m0.1 A (6 * c2 + k)).toInt64 - (m0.1 A (6 * c1 + k)).toInt64) (hr : ∀ k, k < 6 → (itp (fun k => (m0.1 A (6 * c1 + k)).toInt64) (fun k => (m0.1 A (6 * c2 + k)).toInt64) a b k).toInt32.toInt64 = itp (fun k => (m0.1 A (6 * c1 + k)).toInt64) (fun k => (m0.1 A (6 * c2 + k)).toInt64) a b k) : ∀ (d i fuel : Nat) (m : zMem), i + d = 6 → d < fuel → m.2 = m0.2 → (∀ x, x ≠ B → m.1 x = m0.1 x) → (∀ k, k < i → (m.1 B (6 * v + k)).toInt64 = itp (fun k => (m0.1 A (6 * c1 + k)).toInt64) (fun k => (m0.1 A (6 * c2 + k)).toInt64) a b k) → (∀ q, ¬ (6 * v ≤ q ∧ q < 6 * v + 6) → m.1 B q = m0.1 B q) → zok (L_XSight_putBetween_13 (sh0 W H) fuel 1121 (nI (6 * c1)) a (nI (6 * c2)) (nI (6 * v)) (a - b) (nI i) m) (fun z => pshC B v (itp (fun k => (m0.1 A (6 * c1 + k)).toInt64) (fun k => (m0.1 A (6 * c2 + k)).toInt64) a b) m0 z.2.2.2.2.2.2.2) := by
  have sA := cAB_A (W := W) (H := H) hAB
  have sB := cAB_B (W := W) (H := H) hAB
  have nAB : A ≠ B := by rcases hAB with ⟨e, f⟩ | ⟨e, f⟩ <;> omega
  intro d
  induction d with
  | zero =>
    intro i fuel m hi hf q1 q2 q3 q4
    obtain ⟨fu, rfl⟩ : ∃ fu, fuel = fu + 1 := ⟨fuel - 1, by omega⟩
    obtain rfl : i = 6 := by omega
    rw [L_XSight_putBetween_13, if_pos (by decide)]
    exact zok_s ⟨q1, q2, q3, q4⟩
  | succ d ih =>
    intro i fuel m hi hf q1 q2 q3 q4
    obtain ⟨fu, rfl⟩ : ∃ fu, fuel = fu + 1 := ⟨fuel - 1, by omega⟩
    have hAm : m.2.2 1121 2 = some A := by rw [q1]; exact hA
    have hBm : m.2.2 1121 14 = some B := by rw [q1]; exact hB
    have fd : ∀ y : Int64, F_JMath_floorDiv (sh0 W H) m y (a - b) = some (zx_fdiv y (a - b), m) := fun y => by
      unfold F_JMath_floorDiv
      rw [if_neg hab]
    rw [L_XSight_putBetween_13, if_neg (by rw [show (6 : Int32) = nI 6 from rfl, nI_leD (by omega) (by omega)]; omega), zoS_h sh_1121, zob_h hAm, nI_pp, zoL_e, zoS_h sA, nI_ix (by omega) (by decide), nI_cl (n := 6 * c2 + i) (by omega), zoS_h sh_1121, zob_h hAm, nI_pp, zoL_e, zoS_h sA, nI_ix (by omega) (by decide), nI_cl (n := 6 * c1 + i) (by omega), zoL_e, zoS_h sh_1121, zob_h hBm, zoS_h sh_1121, zob_h hAm, zoL_e, zoS_h sA, nI_ix (by omega) (by decide), nI_cl (n := 6 * c1 + i) (by omega), fd, zob_e, zoL_e, nI_pp, zoL_e, zoS_h sB, nI_ix (by omega) (by decide), nI_cl (n := 6 * v + i) (by omega), zoL_e, nI_p1, q2 A nAB, hd i (by omega)]
    dsimp only
    have hval : ((m0.1 A (6 * c1 + i)).toInt64 + zx_fdiv (((m0.1 A (6 * c2 + i)).toInt64 - (m0.1 A (6 * c1 + i)).toInt64) * a) (a - b)).toInt32.toInt64 = itp (fun k => (m0.1 A (6 * c1 + k)).toInt64) (fun k => (m0.1 A (6 * c2 + k)).toInt64) a b i := hr i (by omega)
    generalize ((m0.1 A (6 * c1 + i)).toInt64 + zx_fdiv (((m0.1 A (6 * c2 + i)).toInt64 - (m0.1 A (6 * c1 + i)).toInt64) * a) (a - b)).toInt32 = V at hval ⊢
    refine ih (i + 1) fu _ (by omega) (by omega) q1 (fun x hx => by rw [mI_o hx, q2 x hx]) (fun k hk => ?_) (fun q hq => ?_)
    · rw [mI_v, if_pos rfl]
      by_cases e : k = i
      · rw [e, if_pos rfl, hval]
      · rw [if_neg (by omega), q3 k (by omega)]
    · rw [mI_v, if_pos rfl, if_neg (by omega), q4 q hq]
end ZSD
