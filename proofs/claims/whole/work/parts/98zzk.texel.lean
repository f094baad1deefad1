/-! PURE: the class's textures, texel by texel -/
section ZTC
variable {W H : Nat}
theorem and_msk {x : Int32} {k s : Nat} (hk : k ≤ 6) (hs : s = 2 ^ k) : x &&& nI (s - 1) = nI (x.toInt % s).toNat := by
  have p : 2 ^ k ≤ 64 := Nat.pow_le_pow_right (n := 2) (by decide) hk
  have p0 : 0 < 2 ^ k := Nat.two_pow_pos k
  apply i32_ext
  have e : (x &&& nI (s - 1)).toBitVec.toNat = x.toBitVec.toNat % s := by
    rw [Int32.toBitVec_and, BitVec.toNat_and, nI_bv, BitVec.toNat_ofNat, Nat.mod_eq_of_lt (by omega), hs]
    exact Nat.and_two_pow_sub_one_eq_mod _ k
  have h1 : x.toInt = if 2 * x.toBitVec.toNat < 2 ^ 32 then (x.toBitVec.toNat : Int) else (x.toBitVec.toNat : Int) - (2 ^ 32 : Nat) := BitVec.toInt_eq_toNat_cond _
  have h2 : (x &&& nI (s - 1)).toInt = if 2 * (x &&& nI (s - 1)).toBitVec.toNat < 2 ^ 32 then ((x &&& nI (s - 1)).toBitVec.toNat : Int) else ((x &&& nI (s - 1)).toBitVec.toNat : Int) - (2 ^ 32 : Nat) := BitVec.toInt_eq_toNat_cond _
  rw [e] at h2
  generalize x.toBitVec.toNat = X at *
  have hl : X % s < s := Nat.mod_lt _ (by omega)
  have hq : (x.toInt % (s : Int)) = ((X % s : Nat) : Int) := by
    rw [h1]
    split
    · omega
    · rcases (show k = 0 ∨ k = 1 ∨ k = 2 ∨ k = 3 ∨ k = 4 ∨ k = 5 ∨ k = 6 by omega) with rfl | rfl | rfl | rfl | rfl | rfl | rfl <;> (rw [hs]; simp only [Nat.reducePow]; omega)
  rw [h2, hq, if_pos (by omega), Int.toNat_natCast, nI_toInt (by omega)]
theorem wrp_in {i : Int} {s : Nat} {how : Int32} (h0 : 0 ≤ i) (h1 : i < s) : wrp i s how = i.toNat := by
  unfold wrp
  rw [Int.emod_eq_of_lt h0 h1, Int.emod_eq_of_lt h0 (show i < 2 * s by omega), if_neg (show ¬ i < 0 by omega), if_pos h1]
  split
  · rfl
  · split <;> rfl
theorem wrp_out {m : zMem} {o : Nat} {x : Int32} {s k : Nat} {how : Int32} (ho : sh0 W H o = some (10, 0)) (hh : m.1 o 1 = how) (hw : how = 0 ∨ how = 1 ∨ how = 2) (hk : k ≤ 5) (hs : s = 2 ^ k) (hx : ¬ (0 ≤ x.toInt ∧ x.toInt < s)) : zoS (sh0 W H o) 10 (fun le3 => (if (m.1 o 1) = 1 then (if 0 ≤ x then some ((nI s - 1), m) else some (0, m)) else zoS (sh0 W H o) 10 (fun le6 => (if (m.1 o 1) = 0 then some ((x &&& (nI s - 1)), m) else zoL (x &&& ((2 * nI s) - 1)) (fun x8 => (if nI s ≤ x8 then some ((((2 * nI s) - 1) - x8), m) else some (x8, m))))))) = some (nI (wrp x.toInt s how), m) := by
  have p : 2 ^ k ≤ 32 := Nat.pow_le_pow_right (n := 2) (by decide) hk
  have p0 : 0 < 2 ^ k := Nat.two_pow_pos k
  have s1 : nI s - 1 = nI (s - 1) := nI_sub (show 1 ≤ s by omega)
  have s2 : (2 : Int32) * nI s - 1 = nI (2 * s - 1) := by rw [nI_2mul]; exact nI_sub (show 1 ≤ 2 * s by omega)
  have z0 : (0 : Int32).toInt = 0 := rfl
  rw [zoS_h ho, hh]
  unfold wrp
  rcases hw with rfl | rfl | rfl
  · rw [if_neg (show ¬ ((0 : Int32) = 1) by decide), zoS_h ho, if_pos rfl, if_pos rfl, s1, and_msk (by omega) hs]
  · rw [if_pos rfl, if_neg (show ¬ ((1 : Int32) = 0) by decide), if_pos (show (1 : Int32) = 1 from rfl), s1]
    by_cases a : 0 ≤ x.toInt
    · rw [if_pos (by rw [i32_le, z0]; exact a), if_neg (by omega), if_neg (fun q => hx ⟨a, q⟩)]
    · rw [if_neg (by rw [i32_le, z0]; exact a), if_pos (by omega)]
      rfl
  · have d1 : ¬ ((2 : Int32) = 1) := by decide
    have d0 : ¬ ((2 : Int32) = 0) := by decide
    rw [if_neg d1, zoS_h ho, if_neg d0, s2, and_msk (k := k + 1) (by omega) (by rw [Nat.pow_succ, hs]; omega), zoL_e, if_neg d0, if_neg d1]
    have n0 := Int.emod_nonneg x.toInt (show ((2 * s : Nat) : Int) ≠ 0 by omega)
    have n1 := Int.emod_lt_of_pos x.toInt (show (0 : Int) < ((2 * s : Nat) : Int) by omega)
    rw [show ((2 * s : Nat) : Int) = 2 * (s : Int) by omega] at *
    generalize x.toInt % (2 * (s : Int)) = y at *
    by_cases a : y < s
    · rw [if_neg (by rw [nI_leD (by omega) (by omega)]; omega), if_pos a]
    · rw [if_pos (by rw [nI_leD (by omega) (by omega)]; omega), if_neg a, nI_sub (by omega)]
theorem e_wrpC {m : zMem} {o : Nat} {x : Int32} {s k : Nat} {how : Int32} (ho : sh0 W H o = some (10, 0)) (hh : m.1 o 1 = how) (hw : how = 0 ∨ how = 1 ∨ how = 2) (hk : k ≤ 5) (hs : s = 2 ^ k) : F_XTexture_wrapped (sh0 W H) m o x (nI s) = some (nI (wrp x.toInt s how), m) := by
  have p : 2 ^ k ≤ 32 := Nat.pow_le_pow_right (n := 2) (by decide) hk
  have z0 : (0 : Int32).toInt = 0 := rfl
  have sI : (nI s).toInt = s := nI_toInt (by omega)
  unfold F_XTexture_wrapped
  by_cases a : x.toInt < 0
  · rw [if_pos (by rw [i32_lt, z0]; exact a)]
    exact wrp_out ho hh hw hk hs (by omega)
  · rw [if_neg (by rw [i32_lt, z0]; exact a)]
    by_cases b : x.toInt < s
    · rw [if_neg (by rw [i32_le, sI]; omega), wrp_in (by omega) b]
      exact congrArg (fun z => some (z, m)) (i32_ext (by rw [nI_toInt (by omega)]; omega))
    · rw [if_pos (by rw [i32_le, sI]; omega)]
      exact wrp_out ho hh hw hk hs (by omega)
/-- texture t of scene s is the rows' one, with bytes L -/
def TXC (f : Nat → Nat → Int32) (s : Nat) (g : Nat → Nat → Int32) (t e : Nat) (L : Nat → Nat → Nat) : Prop := e ≤ 5 ∧ g 1 t = nI (sd e 0) ∧ f (txA s t) 0 = g 1 t ∧ f (txA s t) 1 = g 2 t ∧ f (txA s t) 2 = g 3 t ∧ f (txA s t) 3 = nI e ∧ (∀ l, l ≤ e → f (txA s t + 2) l = nI (st e l)) ∧ (∀ l, l ≤ e → (∀ k, k < 3 * (sd e l * sd e l) → L l k < 256 ∧ g 4 (4095 * t + 3 * st e l + k) = nI (L l k)) ∧ ∀ q, q < sd e l * sd e l → f (txA s t + 1) (st e l + q) = pk (L l (3 * q)) (L l (3 * q + 1)) (L l (3 * q + 2))) ∧ (g 2 t = 0 ∨ g 2 t = 1 ∨ g 2 t = 2) ∧ (g 3 t = 0 ∨ g 3 t = 1)
theorem TXC_o {f : Nat → Nat → Int32} {s : Nat} {g : Nat → Nat → Int32} {t : Nat} (h : RtxN f s g t) : ∃ e L, TXC f s g t e L := by
  obtain ⟨e, a1, a2, a3, a4, a5, a6, a7, ⟨L, a8⟩, b1, b2, b3⟩ := h
  refine ⟨e, L, a1, a2, a3, a4, a5, a6, a7, a8, ?_, b3⟩
  rcases (show (g 2 t).toInt = 0 ∨ (g 2 t).toInt = 1 ∨ (g 2 t).toInt = 2 by omega) with c | c | c
  · exact Or.inl (i32_ext c)
  · exact Or.inr (Or.inl (i32_ext c))
  · exact Or.inr (Or.inr (i32_ext c))
theorem TXC_W {f : Nat → Nat → Int32} {s : Nat} {g : Nat → Nat → Int32} {t e : Nat} {L : Nat → Nat → Nat} (h : TXC f s g t e L) : WtxN g t e := ⟨h.1, h.2.1, h.2.2.2.2.2.2.2.2.1, h.2.2.2.2.2.2.2.2.2, L, fun l hl => (h.2.2.2.2.2.2.2.1 l hl).1⟩
theorem sd_p {e l : Nat} : sd e l = 2 ^ (e - l) := rfl
/-- byte k of the texel at i, j -/
def tB (L : Nat → Nat → Nat) (how : Int32) (e l : Nat) (i j : Int) (k : Nat) : Nat := L l (3 * (sd e l * wrp j (sd e l) how + wrp i (sd e l) how) + k)
theorem e_txC {m : zMem} {s t e l : Nat} {g : Nat → Nat → Int32} {L : Nat → Nat → Nat} {i j : Int64} (hs : gS s) (ht : t < 8) (hR : RF m.2.2) (h : TXC m.1 s g t e L) (hl : l ≤ e) (hi : -2000000000 ≤ i.toInt ∧ i.toInt ≤ 2000000000) (hj : -2000000000 ≤ j.toInt ∧ j.toInt ≤ 2000000000) : (∀ k, k < 3 → tB L (g 2 t) e l i.toInt j.toInt k < 256 ∧ txl g e t l i j k = (nI (tB L (g 2 t) e l i.toInt j.toInt k)).toInt64) ∧ F_XTexture_texel (sh0 W H) m (txA s t) (nI (st e l)) (nI (sd e l)) i j = some (pk (tB L (g 2 t) e l i.toInt j.toInt 0) (tB L (g 2 t) e l i.toInt j.toInt 1) (tB L (g 2 t) e l i.toInt j.toInt 2), m) := by
  obtain ⟨h1, h2, h3, h4, h5, h6, h7, h8, h9, h10⟩ := h
  obtain ⟨s1, s2, s3, s4⟩ := sd_1 ⟨e, by omega⟩ ⟨l, by omega⟩ hl
  simp only at s1 s2 s3 s4
  have ri := wrp_lt (i := i.toInt) (how := g 2 t) s1
  have rj := wrp_lt (i := j.toInt) (how := g 2 t) s1
  have iI : i.toInt32.toInt = i.toInt := i64_32 (by omega) (by omega)
  have jI : j.toInt32.toInt = j.toInt := i64_32 (by omega) (by omega)
  have wi := e_wrpC (W := W) (H := H) (m := m) (x := i.toInt32) (sh_txA hs ht) h4 h9 (show e - l ≤ 5 by omega) (sd_p (e := e) (l := l))
  have wj := e_wrpC (W := W) (H := H) (m := m) (x := j.toInt32) (sh_txA hs ht) h4 h9 (show e - l ≤ 5 by omega) (sd_p (e := e) (l := l))
  rw [iI] at wi
  rw [jI] at wj
  unfold tB txl
  generalize wrp i.toInt (sd e l) (g 2 t) = a at *
  generalize wrp j.toInt (sd e l) (g 2 t) = b at *
  have hb : sd e l * b + sd e l ≤ sd e l * sd e l := by
    have := Nat.mul_le_mul_left (sd e l) (show b + 1 ≤ sd e l by omega)
    rw [Nat.mul_add] at this
    omega
  have hc : b * sd e l = sd e l * b := Nat.mul_comm _ _
  refine ⟨fun k hk => ?_, ?_⟩
  · obtain ⟨q1, q2⟩ := (h8 l hl).1 (3 * (sd e l * b + a) + k) (by omega)
    exact ⟨q1, by rw [q2]⟩
  · unfold F_XTexture_texel
    rw [zoS_h (sh_txA hs ht), zob_h (rf_txA4 hR hs ht), zoS_h (sh_txA hs ht), zob_h wj, zoS_h (sh_txA hs ht), zob_h wi, zoL_e]
    dsimp only
    rw [nI_mul, hc, nI_pp, nI_pp, zoS_h (sh_txA1 hs ht), nI_ix (by omega) (by decide), nI_cl (by omega), Nat.add_assoc, (h8 l hl).2 _ (show sd e l * b + a < sd e l * sd e l by omega)]
    rfl
end ZTC
