/-! PURE: the class's edges of a piece -/
section ZED
variable {W H : Nat}
/-- a piece object O with its array T -/
def pcT (W H O T : Nat) (m : zMem) : Prop := sh0 W H O = some (6, 0) ∧ m.2.2 O 1 = some T ∧ sh0 W H T = some (100, 18)
theorem i32_64 {a b : Int32} {x y : Int64} (ha : a.toInt64 = x) (hb : b.toInt64 = y) : (a < b ↔ x.toInt < y.toInt) ∧ (a ≤ b ↔ x.toInt ≤ y.toInt) ∧ (a = b ↔ x.toInt = y.toInt) := by
  subst ha hb
  rw [Int32.toInt_toInt64, Int32.toInt_toInt64, i32_lt, i32_le]
  exact ⟨Iff.rfl, Iff.rfl, ⟨fun e => by rw [e], fun e => i32_ext e⟩⟩
theorem e_edgeC {m : zMem} {O T a b : Nat} {x y : Int32} {A B : Nat → Int64} (hO : pcT W H O T m) (ha : a + 6 ≤ 18) (hb : b + 6 ≤ 18) (hA : ∀ k, k < 6 → (m.1 T (a + k)).toInt64 = A k) (hB : ∀ k, k < 6 → (m.1 T (b + k)).toInt64 = B k) (cA : CP A) (cB : CP B) (hx : -100000 ≤ x.toInt ∧ x.toInt ≤ 100000) (hy : -100000 ≤ y.toInt ∧ y.toInt ≤ 100000) : F_XPiece_edge (sh0 W H) m O (nI a) (nI b) x y = some (edg A B x.toInt64 y.toInt64, m) := by
  obtain ⟨o1, o2, o3⟩ := hO
  have ca := nI_cl (show a < 2147483648 by omega)
  have cb := nI_cl (show b < 2147483648 by omega)
  have ca1 := nI_cl (show a + 1 < 2147483648 by omega)
  have cb1 := nI_cl (show b + 1 < 2147483648 by omega)
  have ix : ∀ n, n < 18 → ¬ (nI n < 0 ∨ 18 ≤ (nI n).toNatClampNeg) := fun n hn q => q.elim (nI_pos (by omega)) (by rw [nI_cl (n := n) (by omega)]; omega)
  unfold F_XPiece_edge
  rw [zoS_h o1, zob_h o2, zoS_h o3, if_neg (ix b (by omega)), zoS_h o1, zob_h o2, zoS_h o3, if_neg (ix a (by omega)), zoS_h o1, zob_h o2, nI_p1, zoL_e, zoS_h o3, if_neg (ix (a + 1) (by omega)), zoS_h o1, zob_h o2, nI_p1, zoL_e, zoS_h o3, if_neg (ix (b + 1) (by omega)), zoS_h o1, zob_h o2, zoL_e, zoS_h o3, if_neg (ix (a + 1) (by omega)), zoS_h o1, zob_h o2, zoS_h o3, if_neg (ix a (by omega)), ca, cb, ca1, cb1]
  have k0 := CP_k cA (show 0 < 6 by decide)
  have k1 := CP_k cA (show 1 < 6 by decide)
  have x64 : -1000000000 ≤ x.toInt64.toInt ∧ x.toInt64.toInt ≤ 1000000000 := by rw [Int32.toInt_toInt64]; omega
  have y64 : -1000000000 ≤ y.toInt64.toInt ∧ y.toInt64.toInt ≤ 1000000000 := by rw [Int32.toInt_toInt64]; omega
  have hA0 : (m.1 T a).toInt64 = A 0 := hA 0 (by decide)
  have hB0 : (m.1 T b).toInt64 = B 0 := hB 0 (by decide)
  rw [sub32 hB0 hA0 (CP_k cB (by decide)) k0, sub32 rfl (hA 1 (by decide)) y64 k1, sub32 (hB 1 (by decide)) (hA 1 (by decide)) (CP_k cB (by decide)) k1, sub32 rfl hA0 x64 k0]
  rfl
def owE (A B : Nat → Int64) : Bool := decide ((B 1).toInt < (A 1).toInt) || (decide ((B 1).toInt = (A 1).toInt) && decide ((A 0).toInt < (B 0).toInt))
theorem e_ownsC {m : zMem} {O T a b : Nat} {A B : Nat → Int64} (hO : pcT W H O T m) (ha : a + 6 ≤ 18) (hb : b + 6 ≤ 18) (hA : ∀ k, k < 6 → (m.1 T (a + k)).toInt64 = A k) (hB : ∀ k, k < 6 → (m.1 T (b + k)).toInt64 = B k) : F_XPiece_ownsEdge (sh0 W H) m O (nI a) (nI b) = some (b32 (owE A B), m) := by
  obtain ⟨o1, o2, o3⟩ := hO
  have ca := nI_cl (show a < 2147483648 by omega)
  have cb := nI_cl (show b < 2147483648 by omega)
  have ca1 := nI_cl (show a + 1 < 2147483648 by omega)
  have cb1 := nI_cl (show b + 1 < 2147483648 by omega)
  have ix : ∀ n, n < 18 → ¬ (nI n < 0 ∨ 18 ≤ (nI n).toNatClampNeg) := fun n hn q => q.elim (nI_pos (by omega)) (by rw [nI_cl (n := n) (by omega)]; omega)
  obtain ⟨l1, _, e1⟩ := i32_64 (hB 1 (by decide)) (hA 1 (by decide))
  obtain ⟨_, l0, _⟩ := i32_64 (hB 0 (by decide)) (hA 0 (by decide))
  unfold F_XPiece_ownsEdge owE
  rw [zoS_h o1, zob_h o2, nI_p1, zoL_e, zoS_h o3, if_neg (ix (b + 1) (by omega)), zoS_h o1, zob_h o2, nI_p1, zoL_e, zoS_h o3, if_neg (ix (a + 1) (by omega)), cb1, ca1]
  by_cases c1 : (B 1).toInt < (A 1).toInt
  · rw [if_pos (l1.mpr c1), decide_eq_true c1]
    rfl
  rw [if_neg (fun q => c1 (l1.mp q)), decide_eq_false c1, zoS_h o1, zob_h o2, zoL_e, zoS_h o3, if_neg (fun q => q.elim (nI_pos (by omega)) (by omega)), zoS_h o1, zob_h o2, zoL_e, zoS_h o3, if_neg (fun q => q.elim (nI_pos (by omega)) (by omega)), cb1, ca1]
  by_cases c2 : (B 1).toInt = (A 1).toInt
  · rw [if_pos (e1.mpr c2), decide_eq_true c2, zoS_h o1, zob_h o2, zoS_h o3, if_neg (ix b (by omega)), zoS_h o1, zob_h o2, zoS_h o3, if_neg (ix a (by omega)), ca, cb]
    have l0' : m.1 T b ≤ m.1 T a ↔ (B 0).toInt ≤ (A 0).toInt := l0
    by_cases c3 : (A 0).toInt < (B 0).toInt
    · rw [if_neg (fun q => by have := l0'.mp q; omega), decide_eq_true c3]
      rfl
    · rw [if_pos (l0'.mpr (by omega)), decide_eq_false c3]
      rfl
  · rw [if_neg (fun q => c2 (e1.mp q)), decide_eq_false c2]
    rfl
end ZED
