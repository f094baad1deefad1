/-! PURE: the reference's levels against the class's -/
/-- the levels, byte by byte -/
def lvN (B : Nat → Nat) (e : Nat) : Nat → Nat → Nat
  | 0, k => B k
  | l + 1, k => (lvN B e l (3 * (2 * (k / 3 / sd e (l + 1)) * (2 * sd e (l + 1)) + 2 * (k / 3 % sd e (l + 1))) + k % 3) + lvN B e l (3 * (2 * (k / 3 / sd e (l + 1)) * (2 * sd e (l + 1)) + 2 * (k / 3 % sd e (l + 1)) + 1) + k % 3) + lvN B e l (3 * (2 * (k / 3 / sd e (l + 1)) * (2 * sd e (l + 1)) + 2 * (k / 3 % sd e (l + 1)) + 2 * sd e (l + 1)) + k % 3) + lvN B e l (3 * (2 * (k / 3 / sd e (l + 1)) * (2 * sd e (l + 1)) + 2 * (k / 3 % sd e (l + 1)) + 2 * sd e (l + 1) + 1) + k % 3)) / 4
/-- a pixel's four pixels a level below -/
theorem lv_ix {e l q : Nat} (he : e ≤ 5) (hl : l < e) (hq : q < sd e (l + 1) * sd e (l + 1)) : 2 * (q / sd e (l + 1)) * (2 * sd e (l + 1)) + 2 * (q % sd e (l + 1)) + 2 * sd e (l + 1) + 1 < sd e l * sd e l := by
  obtain ⟨f1, f2, f3, f4, f5, f6⟩ := sd_fin ⟨e, by omega⟩ ⟨l, by omega⟩ hl
  simp only at f1 f2 f3 f4 f5 f6
  have hm : q % sd e (l + 1) < sd e (l + 1) := Nat.mod_lt _ f2
  have hq1 : q / sd e (l + 1) < sd e (l + 1) := Nat.div_lt_of_lt_mul hq
  have hq2 : (q / sd e (l + 1)) * sd e (l + 1) + sd e (l + 1) ≤ sd e (l + 1) * sd e (l + 1) := by
    have := Nat.mul_le_mul_right (sd e (l + 1)) (show q / sd e (l + 1) + 1 ≤ sd e (l + 1) by omega)
    rw [Nat.add_mul] at this
    omega
  have e4 : 2 * (q / sd e (l + 1)) * (2 * sd e (l + 1)) = 4 * ((q / sd e (l + 1)) * sd e (l + 1)) := by rw [Nat.mul_assoc, Nat.mul_left_comm (q / sd e (l + 1)) 2 (sd e (l + 1)), ← Nat.mul_assoc]
  have e5 : sd e l * sd e l = 4 * (sd e (l + 1) * sd e (l + 1)) := by rw [f1, Nat.mul_assoc, Nat.mul_left_comm (sd e (l + 1)) 2 (sd e (l + 1)), ← Nat.mul_assoc]
  omega
theorem lv_255 {B : Nat → Nat} {e : Nat} (he : e ≤ 5) (hB : ∀ k, k < 3 * (sd e 0 * sd e 0) → B k < 256) : ∀ l, l ≤ e → ∀ k, k < 3 * (sd e l * sd e l) → lvN B e l k < 256 := by
  intro l
  induction l with
  | zero => intro _ k hk; exact hB k hk
  | succ l ih =>
    intro hl k hk
    have hx := lv_ix (q := k / 3) he (show l < e by omega) (by omega)
    have ih := ih (by omega)
    have h3 : k % 3 < 3 := Nat.mod_lt _ (by decide)
    rw [lvN]
    generalize 2 * (k / 3 / sd e (l + 1)) * (2 * sd e (l + 1)) + 2 * (k / 3 % sd e (l + 1)) = x at hx
    have i1 := ih (3 * x + k % 3) (by omega)
    have i2 := ih (3 * (x + 1) + k % 3) (by omega)
    have i3 := ih (3 * (x + 2 * sd e (l + 1)) + k % 3) (by omega)
    have i4 := ih (3 * (x + 2 * sd e (l + 1) + 1) + k % 3) (by omega)
    omega
theorem lv_s {B : Nat → Nat} {e l q c : Nat} (hc : c < 3) : lvN B e (l + 1) (3 * q + c) = (lvN B e l (3 * (2 * (q / sd e (l + 1)) * (2 * sd e (l + 1)) + 2 * (q % sd e (l + 1))) + c) + lvN B e l (3 * (2 * (q / sd e (l + 1)) * (2 * sd e (l + 1)) + 2 * (q % sd e (l + 1)) + 1) + c) + lvN B e l (3 * (2 * (q / sd e (l + 1)) * (2 * sd e (l + 1)) + 2 * (q % sd e (l + 1)) + 2 * sd e (l + 1)) + c) + lvN B e l (3 * (2 * (q / sd e (l + 1)) * (2 * sd e (l + 1)) + 2 * (q % sd e (l + 1)) + 2 * sd e (l + 1) + 1) + c)) / 4 := by
  rw [lvN, show (3 * q + c) / 3 = q by omega, show (3 * q + c) % 3 = c by omega]
theorem lv_s0 {B : Nat → Nat} {e l q : Nat} : lvN B e (l + 1) (3 * q) = (lvN B e l (3 * (2 * (q / sd e (l + 1)) * (2 * sd e (l + 1)) + 2 * (q % sd e (l + 1)))) + lvN B e l (3 * (2 * (q / sd e (l + 1)) * (2 * sd e (l + 1)) + 2 * (q % sd e (l + 1)) + 1)) + lvN B e l (3 * (2 * (q / sd e (l + 1)) * (2 * sd e (l + 1)) + 2 * (q % sd e (l + 1)) + 2 * sd e (l + 1))) + lvN B e l (3 * (2 * (q / sd e (l + 1)) * (2 * sd e (l + 1)) + 2 * (q % sd e (l + 1)) + 2 * sd e (l + 1) + 1))) / 4 := lv_s (c := 0) (by decide)
/-- the class's packed levels are the reference's bytes -/
theorem cl_lv {T : Nat → Int32} {B : Nat → Nat} {e : Nat} (he : e ≤ 5) (hB : ∀ k, k < 3 * (sd e 0 * sd e 0) → B k < 256) (hT : ∀ q, q < sd e 0 * sd e 0 → T q = ((nI (B (3 * q)) <<< (16 &&& 31)) ||| (nI (B (3 * q + 1)) <<< (8 &&& 31))) ||| nI (B (3 * q + 2))) : ∀ l, l ≤ e → ∀ q, q < sd e l * sd e l → cl T e l q = pk (lvN B e l (3 * q)) (lvN B e l (3 * q + 1)) (lvN B e l (3 * q + 2)) := by
  have b := lv_255 he hB
  intro l
  induction l with
  | zero =>
    intro _ q hq
    show T q = _
    rw [hT q hq, pk_mk (hB _ (by omega)) (hB _ (by omega)) (hB _ (by omega))]
    rfl
  | succ l ih =>
    intro hl q hq
    have hx := lv_ix he (show l < e by omega) hq
    have ih := ih (by omega)
    have bl := b l (by omega)
    rw [lv_s (by decide), lv_s (by decide), lv_s0]
    simp only [cl]
    generalize 2 * (q / sd e (l + 1)) * (2 * sd e (l + 1)) + 2 * (q % sd e (l + 1)) = x at hx
    generalize sd e (l + 1) = h2 at hx
    rw [ih x (by omega), ih (x + 1) (by omega), ih (x + 2 * h2) (by omega), ih (x + 2 * h2 + 1) (by omega)]
    exact mnF_pk ⟨bl _ (by omega), bl _ (by omega), bl _ (by omega)⟩ ⟨bl _ (by omega), bl _ (by omega), bl _ (by omega)⟩ ⟨bl _ (by omega), bl _ (by omega), bl _ (by omega)⟩ ⟨bl _ (by omega), bl _ (by omega), bl _ (by omega)⟩
