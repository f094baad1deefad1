/-! PURE: numbers, memory, what an Option says -/
theorem i64_add {a b : Int64} (h1 : -9223372036854775808 ≤ a.toInt + b.toInt) (h2 : a.toInt + b.toInt ≤ 9223372036854775807) : (a + b).toInt = a.toInt + b.toInt := by
  rw [Int64.toInt_add, Int.bmod_eq_of_le] <;> omega
theorem i64_sub {a b : Int64} (h1 : -9223372036854775808 ≤ a.toInt - b.toInt) (h2 : a.toInt - b.toInt ≤ 9223372036854775807) : (a - b).toInt = a.toInt - b.toInt := by
  rw [Int64.toInt_sub, Int.bmod_eq_of_le] <;> omega
theorem i64_mul {a b : Int64} (h1 : -9223372036854775808 ≤ a.toInt * b.toInt) (h2 : a.toInt * b.toInt ≤ 9223372036854775807) : (a * b).toInt = a.toInt * b.toInt := by
  rw [Int64.toInt_mul, Int.bmod_eq_of_le] <;> omega
theorem i64_neg {a : Int64} (h1 : -9223372036854775808 < a.toInt) : (-a).toInt = -a.toInt := by
  have := a.toInt_lt
  rw [Int64.toInt_neg, Int.bmod_eq_of_le] <;> omega
theorem i32_add {a b : Int32} (h1 : -2147483648 ≤ a.toInt + b.toInt) (h2 : a.toInt + b.toInt ≤ 2147483647) : (a + b).toInt = a.toInt + b.toInt := by
  rw [Int32.toInt_add, Int.bmod_eq_of_le] <;> omega
theorem i32_sub {a b : Int32} (h1 : -2147483648 ≤ a.toInt - b.toInt) (h2 : a.toInt - b.toInt ≤ 2147483647) : (a - b).toInt = a.toInt - b.toInt := by
  rw [Int32.toInt_sub, Int.bmod_eq_of_le] <;> omega
theorem i32_mul {a b : Int32} (h1 : -2147483648 ≤ a.toInt * b.toInt) (h2 : a.toInt * b.toInt ≤ 2147483647) : (a * b).toInt = a.toInt * b.toInt := by
  rw [Int32.toInt_mul, Int.bmod_eq_of_le] <;> omega
theorem i32_neg {a : Int32} (h1 : -2147483648 < a.toInt) : (-a).toInt = -a.toInt := by
  have := a.toInt_lt
  rw [Int32.toInt_neg, Int.bmod_eq_of_le] <;> omega
theorem i64_32 {a : Int64} (h1 : -2147483648 ≤ a.toInt) (h2 : a.toInt ≤ 2147483647) : a.toInt32.toInt = a.toInt := by
  rw [Int64.toInt_toInt32, Int.bmod_eq_of_le] <;> omega
theorem i64_rt {a : Int64} (h1 : -2147483648 ≤ a.toInt) (h2 : a.toInt ≤ 2147483647) : a.toInt32.toInt64 = a := by
  apply Int64.toInt_inj.mp
  rw [Int32.toInt_toInt64, i64_32 h1 h2]
theorem i32_rt (a : Int32) : a.toInt64.toInt32 = a := by
  apply Int32.toInt_inj.mp
  rw [Int64.toInt_toInt32, Int32.toInt_toInt64]
  exact a.toInt_bmod
theorem i32_64inj {a b : Int32} (h : a.toInt64 = b.toInt64) : a = b := by rw [← i32_rt a, h, i32_rt]
theorem i64_lt {a b : Int64} : a < b ↔ a.toInt < b.toInt := Int64.lt_iff_toInt_lt
theorem i64_le {a b : Int64} : a ≤ b ↔ a.toInt ≤ b.toInt := Int64.le_iff_toInt_le
theorem i32_lt {a b : Int32} : a < b ↔ a.toInt < b.toInt := Int32.lt_iff_toInt_lt
theorem i32_le {a b : Int32} : a ≤ b ↔ a.toInt ≤ b.toInt := Int32.le_iff_toInt_le
theorem i64_ext {a b : Int64} (h : a.toInt = b.toInt) : a = b := Int64.toInt_inj.mp h
theorem i32_ext {a b : Int32} (h : a.toInt = b.toInt) : a = b := Int32.toInt_inj.mp h
theorem i64_xor_nn (x y : Int64) : (0 ≤ (x ^^^ y).toInt) ↔ (0 ≤ x.toInt ↔ 0 ≤ y.toInt) := by
  have h : ∀ z : Int64, z.toBitVec.msb = decide (z.toInt < 0) := fun z => BitVec.msb_eq_toInt
  have e : (x ^^^ y).toBitVec.msb = (x.toBitVec.msb ^^ y.toBitVec.msb) := by rw [Int64.toBitVec_xor, BitVec.msb_xor]
  rw [h, h, h] at e
  by_cases h1 : x.toInt < 0 <;> by_cases h2 : y.toInt < 0 <;> by_cases h3 : (x ^^^ y).toInt < 0 <;> simp [h1, h2, h3] at e ⊢ <;> omega
/-- floorDiv, the divisor above 0 -/
theorem fdiv_pos {x y : Int64} (hy : 0 < y.toInt) : (zx_fdiv x y).toInt = x.toInt / y.toInt := by
  have hx1 : -9223372036854775808 ≤ x.toInt := x.le_toInt
  have hx2 : x.toInt < 9223372036854775808 := x.toInt_lt
  have hy2 : y.toInt < 9223372036854775808 := y.toInt_lt
  have h0 : (0 : Int64).toInt = 0 := by decide
  have h1' : (1 : Int64).toInt = 1 := by decide
  have hd : (x / y).toInt = x.toInt.tdiv y.toInt := Int64.toInt_div_of_ne_right x y (fun e => by rw [e] at hy; exact absurd hy (by decide))
  unfold zx_fdiv
  by_cases hn : 0 ≤ x.toInt
  · rw [if_pos ((lg_cmp_ge _ _).mpr (i64_le.mpr (by rw [h0]; exact (i64_xor_nn x y).mpr ⟨fun _ => by omega, fun _ => hn⟩))), hd, Int.tdiv_eq_ediv_of_nonneg hn]
  · rw [if_neg (fun h => hn ((((i64_xor_nn x y).mp (by have := i64_le.mp ((lg_cmp_ge _ _).mp h); rwa [h0] at this)).mpr (by omega))))]
    have e1 := Int.mul_tdiv_add_tmod x.toInt y.toInt
    have e2 := Int.lt_tmod_of_pos x.toInt hy
    have e3 : x.toInt.tmod y.toInt ≤ 0 := by
      have := Int.tmod_nonneg y.toInt (show 0 ≤ -x.toInt by omega)
      rw [Int.neg_tmod] at this
      omega
    have e4 : x.toInt.tdiv y.toInt ≤ 0 := by
      have := Int.tdiv_nonneg (show 0 ≤ -x.toInt by omega) (show 0 ≤ y.toInt by omega)
      rw [Int.neg_tdiv] at this
      omega
    generalize x.toInt.tdiv y.toInt = t at *
    generalize x.toInt.tmod y.toInt = r at *
    have hm : (x / y * y).toInt = y.toInt * t := by
      rw [i64_mul] <;> rw [hd, Int.mul_comm] <;> omega
    by_cases hr : r = 0
    · rw [if_pos ((lg_cmp_eq _ _).mpr (i64_ext (by rw [hm]; omega))), hd]
      rw [show x.toInt = y.toInt * t by omega, Int.mul_ediv_cancel_left _ (by omega)]
    · rw [if_neg (fun h => hr (by have := congrArg Int64.toInt ((lg_cmp_eq _ _).mp h); rw [hm] at this; omega))]
      have e5 : y.toInt * t ≤ 2 * t := Int.mul_le_mul_of_nonpos_right (by omega) e4
      rw [i64_sub] <;> rw [hd, h1'] <;> try omega
      have := (Int.ediv_emod_unique (a := x.toInt) (r := r + y.toInt) (q := t - 1) hy).mpr ⟨by rw [Int.mul_sub]; omega, by omega, by omega⟩
      omega
theorem i64_ne0 {y : Int64} (hy : 0 < y.toInt) : ¬ y = 0 := fun e => by rw [e] at hy; exact absurd hy (by decide)
theorem zx_div_pos {x y : Int64} (hy : 0 < y.toInt) : zx_div x y = zx_fdiv x y := by
  unfold zx_div
  rw [if_neg (fun h => i64_ne0 hy ((lg_cmp_eq _ _).mp h))]
theorem i64_shr16 (x : Int64) : (x >>> ((16 : Int32).toInt64 &&& 63)).toInt = x.toInt / 65536 := by
  have e : ((16 : Int32).toInt64 &&& 63) = 16 := by decide
  rw [e]
  show (x.toBitVec.sshiftRight' (((16 : Int64).toBitVec).smod 64)).toInt = x.toBitVec.toInt / 65536
  rw [BitVec.toInt_sshiftRight', show (((16 : Int64).toBitVec).smod 64).toNat = 16 by decide, Int.shiftRight_eq_div_pow]
  rfl
theorem zx_mul_fdiv (x y : Int64) : zx_mul x y = sp_MPainter_mul x y := by
  apply i64_ext
  unfold zx_mul sp_MPainter_mul
  rw [i64_shr16, fdiv_pos (by decide)]
  rfl
theorem mul_toInt (x y : Int64) : (sp_MPainter_mul x y).toInt = (x * y).toInt / 65536 := by
  unfold sp_MPainter_mul
  rw [fdiv_pos (by decide)]
  rfl
theorem bound_eq (x : Int64) : (zx_bound x).toInt64 = sp_MPainter_bound x := by
  unfold zx_bound sp_MPainter_bound zx_maxl zx_minl
  simp only [lg_cmp_gt, lg_cmp_lt, lg_cmp_ge, lg_cmp_le, i64_lt, i64_le]
  have hA : (16777216 : Int64).toInt = 16777216 := by decide
  have hB : (-16777216 : Int64).toInt = -16777216 := by decide
  by_cases h1 : x.toInt < (16777216 : Int64).toInt
  · rw [if_pos h1]
    by_cases h2 : (-16777216 : Int64).toInt < x.toInt
    · rw [if_pos h2, if_pos (by omega), if_pos (by omega)]
      exact i64_rt (by omega) (by omega)
    · rw [if_neg h2]
      by_cases h3 : (-16777216 : Int64).toInt ≤ x.toInt
      · rw [if_pos h3, if_pos (by omega), show x = -16777216 from i64_ext (by omega)]
        decide
      · rw [if_neg h3]
        decide
  · rw [if_neg h1, if_pos (by omega), if_pos (by omega)]
    by_cases h3 : x.toInt ≤ (16777216 : Int64).toInt
    · rw [if_pos h3, show x = 16777216 from i64_ext (by omega)]
      decide
    · rw [if_neg h3]
      decide
theorem bound_rng (x : Int64) : -16777216 ≤ (sp_MPainter_bound x).toInt ∧ (sp_MPainter_bound x).toInt ≤ 16777216 := by
  have hA : (16777216 : Int64).toInt = 16777216 := by decide
  have hB : (-16777216 : Int64).toInt = -16777216 := by decide
  unfold sp_MPainter_bound
  simp only [lg_cmp_ge, lg_cmp_le, i64_le]
  split
  · split <;> omega
  · omega
theorem bound_id {x : Int64} (h1 : -16777216 ≤ x.toInt) (h2 : x.toInt ≤ 16777216) : sp_MPainter_bound x = x := by
  have hA : (16777216 : Int64).toInt = 16777216 := by decide
  have hB : (-16777216 : Int64).toInt = -16777216 := by decide
  unfold sp_MPainter_bound
  simp only [lg_cmp_ge, lg_cmp_le, i64_le]
  rw [if_pos (by omega), if_pos (by omega)]
theorem getD_big {α : Type} {l : List α} {i : Nat} {d : α} (h : l.length ≤ i) : l.getD i d = d := by
  rw [List.getD_eq_getElem?_getD, List.getElem?_eq_none h]
  rfl
theorem getD_in {α : Type} {l : List α} {i : Nat} {d : α} (h : i < l.length) : l.getD i d = l[i] := by
  rw [List.getD_eq_getElem?_getD, List.getElem?_eq_getElem h]
  rfl
/-! memory -/
theorem nrfl {α : Type} {a b : α} (h : a = b) : a = b := h
def sI (m : zMem) (k : Nat) (g : Nat → Int32) : zMem := (fun a => if a = k then g else m.1 a, m.2.1, m.2.2)
def sL (m : zMem) (k : Nat) (g : Nat → Int64) : zMem := (m.1, fun a => if a = k then g else m.2.1 a, m.2.2)
def sR (m : zMem) (k : Nat) (g : Nat → Option Nat) : zMem := (m.1, m.2.1, fun a => if a = k then g else m.2.2 a)
theorem mI_sI (m : zMem) (k j : Nat) (v : Int32) : mI m k j v = sI m k (upd (m.1 k) j v) := by
  unfold mI sI
  congr 1
  funext a
  by_cases h : a = k
  · rw [if_pos h, if_pos h, h]
  · rw [if_neg h, if_neg h]
theorem mL_sL (m : zMem) (k j : Nat) (v : Int64) : mL m k j v = sL m k (vp_updL (m.2.1 k) j v) := by
  unfold mL sL
  congr 2
  funext a
  by_cases h : a = k
  · rw [if_pos h, if_pos h, h]
  · rw [if_neg h, if_neg h]
theorem mR_sR (m : zMem) (k j : Nat) (v : Option Nat) : mR m k j v = sR m k (fun i => if i = j then v else m.2.2 k i) := by
  unfold mR sR
  congr 2
  funext a
  by_cases h : a = k
  · rw [if_pos h, if_pos h, h]
  · rw [if_neg h, if_neg h]
theorem mI_R (m : zMem) (k j : Nat) (v : Int32) : (mI m k j v).2.2 = m.2.2 := nrfl rfl
theorem sI_at (m : zMem) (k : Nat) (g : Nat → Int32) : (sI m k g).1 k = g := if_pos rfl
theorem sI_ne {m : zMem} {k a : Nat} {g : Nat → Int32} (h : a ≠ k) : (sI m k g).1 a = m.1 a := if_neg h
theorem sI_L (m : zMem) (k : Nat) (g : Nat → Int32) : (sI m k g).2.1 = m.2.1 := nrfl rfl
theorem sI_R (m : zMem) (k : Nat) (g : Nat → Int32) : (sI m k g).2.2 = m.2.2 := nrfl rfl
theorem sL_I (m : zMem) (k : Nat) (g : Nat → Int64) : (sL m k g).1 = m.1 := nrfl rfl
theorem sL_at (m : zMem) (k : Nat) (g : Nat → Int64) : (sL m k g).2.1 k = g := if_pos rfl
theorem sL_ne {m : zMem} {k a : Nat} {g : Nat → Int64} (h : a ≠ k) : (sL m k g).2.1 a = m.2.1 a := if_neg h
theorem sL_R (m : zMem) (k : Nat) (g : Nat → Int64) : (sL m k g).2.2 = m.2.2 := nrfl rfl
theorem sR_I (m : zMem) (k : Nat) (g : Nat → Option Nat) : (sR m k g).1 = m.1 := nrfl rfl
theorem sR_L (m : zMem) (k : Nat) (g : Nat → Option Nat) : (sR m k g).2.1 = m.2.1 := nrfl rfl
theorem sR_at (m : zMem) (k : Nat) (g : Nat → Option Nat) : (sR m k g).2.2 k = g := if_pos rfl
theorem sR_ne {m : zMem} {k a : Nat} {g : Nat → Option Nat} (h : a ≠ k) : (sR m k g).2.2 a = m.2.2 a := if_neg h
theorem sI_sI (m : zMem) (k : Nat) (g h : Nat → Int32) : sI (sI m k g) k h = sI m k h := by
  refine Prod.ext (funext fun a => ?_) rfl
  by_cases e : a = k
  · subst e
    rw [sI_at, sI_at]
  · rw [sI_ne e, sI_ne e, sI_ne e]
theorem sL_sL (m : zMem) (k : Nat) (g h : Nat → Int64) : sL (sL m k g) k h = sL m k h := by
  refine Prod.ext rfl (Prod.ext (funext fun a => ?_) rfl)
  by_cases e : a = k
  · subst e
    rw [sL_at, sL_at]
  · rw [sL_ne e, sL_ne e, sL_ne e]
theorem sI_id (m : zMem) (k : Nat) : sI m k (m.1 k) = m := by
  unfold sI
  refine Prod.ext ?_ rfl
  funext a
  by_cases e : a = k
  · show (if a = k then m.1 k else m.1 a) = m.1 a
    rw [if_pos e, e]
  · show (if a = k then m.1 k else m.1 a) = m.1 a
    rw [if_neg e]
theorem sL_id (m : zMem) (k : Nat) : sL m k (m.2.1 k) = m := by
  unfold sL
  refine Prod.ext rfl (Prod.ext ?_ rfl)
  funext a
  by_cases e : a = k
  · show (if a = k then m.2.1 k else m.2.1 a) = m.2.1 a
    rw [if_pos e, e]
  · show (if a = k then m.2.1 k else m.2.1 a) = m.2.1 a
    rw [if_neg e]
theorem sI_to {m : zMem} {k : Nat} {g h : Nat → Int32} (e : ∀ j, g j = h j) : sI m k g = sI m k h := by rw [funext e]
theorem sL_to {m : zMem} {k : Nat} {g h : Nat → Int64} (e : ∀ j, g j = h j) : sL m k g = sL m k h := by rw [funext e]
theorem zoS_e {α : Type} {c len : Nat} {K : Nat → Option α} : zoS (some (c, len)) c K = K len := if_pos rfl
theorem zoR_e {α : Type} {c len : Nat} {K : Nat → Nat → Option α} (h : 204 ≤ c ∧ c < 210) : zoR (some (c, len)) K = K c len := if_pos h
theorem zoA_e {α : Type} {c len : Nat} {K : Nat → Nat → Option α} (h : 100 ≤ c ∧ c < 104) : zoA (some (c, len)) K = K c len := if_pos h
theorem zoL_e {α β : Type} {x : α} {f : α → Option β} : zoL x f = f x := nrfl rfl
theorem zob_e {α β : Type} {x : α} {f : α → Option β} : Option.bind (some x) f = f x := nrfl rfl
theorem nI_mul (a b : Nat) : nI a * nI b = nI (a * b) := (Int32.ofNat_mul a b).symm
theorem nI_ix {α : Type} {a n : Nat} {x : Option α} (h : a < n) (hn : n < 2147483648) : (if nI a < 0 ∨ n ≤ (nI a).toNatClampNeg then none else x) = x := if_neg (nI_in h hn)
theorem nI_cl {n : Nat} (h : n < 2147483648) : (nI n).toNatClampNeg = n := nI_clamp h
theorem nI_n (n : Nat) : (OfNat.ofNat n : Int32) = nI n := nrfl rfl
theorem nI_leD {a b : Nat} (ha : a < 2147483648) (hb : b < 2147483648) : nI a ≤ nI b ↔ a ≤ b := nI_leI ha hb
theorem nI_ltD {a b : Nat} (ha : a < 2147483648) (hb : b < 2147483648) : nI a < nI b ↔ a < b := nI_ltI ha hb
theorem nI_eqD {a b : Nat} (ha : a < 2147483648) (hb : b < 2147483648) : nI a = nI b ↔ a = b := nI_eq ha hb
theorem zoS_h {α : Type} {s : Option (Nat × Nat)} {c len : Nat} {K : Nat → Option α} (h : s = some (c, len)) : zoS s c K = K len := by
  rw [h]
  exact if_pos rfl
theorem zoR_h {α : Type} {s : Option (Nat × Nat)} {c len : Nat} {K : Nat → Nat → Option α} (h : s = some (c, len)) (h2 : 204 ≤ c ∧ c < 210) : zoR s K = K c len := by
  rw [h]
  exact if_pos h2
theorem zob_h {α β : Type} {o : Option α} {x : α} {f : α → Option β} (h : o = some x) : Option.bind o f = f x := by
  rw [h]
  rfl
theorem nI_lt0 {a : Nat} (h : a < 2147483648) : (nI a < 0) = False := eq_false (nI_pos h)
theorem nI_lt00 {a : Nat} (h : a < 2147483648) : (nI a < nI 0) = False := eq_false (nI_pos h)
theorem nle_f {n a : Nat} (h : a < n) : (n ≤ a) = False := eq_false (Nat.not_le.mpr h)
theorem zfuel_s : zfuel = 999999 + 1 := nrfl rfl
theorem zf_lt {a : Nat} (h : a < 1000000) : a < zfuel := h
/-- an Option is there, and what is there is so -/
def zok {α : Type} (o : Option α) (Q : α → Prop) : Prop := ∃ r, o = some r ∧ Q r
theorem zok_s {α : Type} {r : α} {Q : α → Prop} (h : Q r) : zok (some r) Q := ⟨r, rfl, h⟩
theorem zok_e {α : Type} {o : Option α} {r : α} {Q : α → Prop} (e : o = some r) (h : Q r) : zok o Q := ⟨r, e, h⟩
theorem zok_b {α β : Type} {o : Option α} {f : α → Option β} {P : α → Prop} {Q : β → Prop} (h : zok o P) (k : ∀ r, P r → zok (f r) Q) : zok (Option.bind o f) Q := by
  obtain ⟨r, e, h⟩ := h
  rw [e]
  exact k r h
theorem zok_w {α : Type} {o : Option α} {P Q : α → Prop} (h : zok o P) (k : ∀ r, P r → Q r) : zok o Q := by
  obtain ⟨r, e, h⟩ := h
  exact ⟨r, e, k r h⟩
theorem zok_i {α : Type} {c : Prop} {_ : Decidable c} {x : Option α} {Q : α → Prop} (hc : ¬ c) (h : zok x Q) : zok (if c then none else x) Q := by
  rw [if_neg hc]
  exact h
theorem zok_if {α : Type} {c : Prop} {_ : Decidable c} {x y : Option α} {Q : α → Prop} (h : c → zok x Q) (k : ¬ c → zok y Q) : zok (if c then x else y) Q := by
  by_cases e : c
  · rw [if_pos e]
    exact h e
  · rw [if_neg e]
    exact k e
