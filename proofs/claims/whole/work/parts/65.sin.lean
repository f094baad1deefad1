/-! PURE: the sine -/
theorem sq_nn (a : Int) : 0 ≤ a * a := by
  rcases Int.le_total 0 a with h | h
  · exact Int.mul_nonneg h h
  · exact Int.mul_nonneg_of_nonpos_of_nonpos h h
theorem mul_ab {x y A B : Int} (h1 : -A ≤ x) (h2 : x ≤ A) (h3 : -B ≤ y) (h4 : y ≤ B) : -(A * B) ≤ x * y ∧ x * y ≤ A * B := by
  have hA : 0 ≤ A := by omega
  have hB : 0 ≤ B := by omega
  rcases Int.le_total 0 x with hx | hx
  · have a1 : x * y ≤ x * B := Int.mul_le_mul_of_nonneg_left h4 hx
    have a2 : x * (-B) ≤ x * y := Int.mul_le_mul_of_nonneg_left h3 hx
    have a3 : x * B ≤ A * B := Int.mul_le_mul_of_nonneg_right h2 hB
    rw [Int.mul_neg] at a2
    omega
  · have a1 : x * y ≤ x * (-B) := Int.mul_le_mul_of_nonpos_left hx h3
    have a2 : x * B ≤ x * y := Int.mul_le_mul_of_nonpos_left hx h4
    have a3 : (-A) * B ≤ x * B := Int.mul_le_mul_of_nonneg_right h1 hB
    rw [Int.mul_neg] at a1
    rw [Int.neg_mul] at a3
    omega
theorem i32_and4095 (k : Int32) : (k &&& 4095).toInt = k.toInt % 4096 := by
  have e : (k &&& 4095).toBitVec.toNat = k.toBitVec.toNat % 4096 := by
    rw [Int32.toBitVec_and, BitVec.toNat_and]
    exact Nat.and_two_pow_sub_one_eq_mod _ 12
  have h1 : k.toInt = if 2 * k.toBitVec.toNat < 2 ^ 32 then (k.toBitVec.toNat : Int) else (k.toBitVec.toNat : Int) - (2 ^ 32 : Nat) := BitVec.toInt_eq_toNat_cond _
  have h2 : (k &&& 4095).toInt = if 2 * (k &&& 4095).toBitVec.toNat < 2 ^ 32 then ((k &&& 4095).toBitVec.toNat : Int) else ((k &&& 4095).toBitVec.toNat : Int) - (2 ^ 32 : Nat) := BitVec.toInt_eq_toNat_cond _
  rw [e] at h2
  rw [h2, h1]
  split <;> split <;> omega
theorem i32_and2047 (k : Int32) : (k &&& 2047).toInt = k.toInt % 2048 := by
  have e : (k &&& 2047).toBitVec.toNat = k.toBitVec.toNat % 2048 := by
    rw [Int32.toBitVec_and, BitVec.toNat_and]
    exact Nat.and_two_pow_sub_one_eq_mod _ 11
  have h1 : k.toInt = if 2 * k.toBitVec.toNat < 2 ^ 32 then (k.toBitVec.toNat : Int) else (k.toBitVec.toNat : Int) - (2 ^ 32 : Nat) := BitVec.toInt_eq_toNat_cond _
  have h2 : (k &&& 2047).toInt = if 2 * (k &&& 2047).toBitVec.toNat < 2 ^ 32 then ((k &&& 2047).toBitVec.toNat : Int) else ((k &&& 2047).toBitVec.toNat : Int) - (2 ^ 32 : Nat) := BitVec.toInt_eq_toNat_cond _
  rw [e] at h2
  rw [h2, h1]
  split <;> split <;> omega
theorem e_fmod {sh : zSh} {mm : zMem} {x y : Int64} (hy : 0 < y.toInt) : ∃ r : Int64, F_JMath_floorMod sh mm x y = some (r, mm) ∧ r.toInt = x.toInt % y.toInt := by
  have hx1 : -9223372036854775808 ≤ x.toInt := x.le_toInt
  have hx2 : x.toInt < 9223372036854775808 := x.toInt_lt
  have hy2 : y.toInt < 9223372036854775808 := y.toInt_lt
  have h0 : (0 : Int64).toInt = 0 := by decide
  have hd : (x / y).toInt = x.toInt.tdiv y.toInt := Int64.toInt_div_of_ne_right x y (fun e => by rw [e] at hy; exact absurd hy (by decide))
  have e1 := Int.mul_tdiv_add_tmod x.toInt y.toInt
  have e2 := Int.lt_tmod_of_pos x.toInt hy
  have e2' := Int.tmod_lt_of_pos x.toInt hy
  have hm : (x / y * y).toInt = y.toInt * x.toInt.tdiv y.toInt := by
    rw [i64_mul] <;> rw [hd, Int.mul_comm]
    · by_cases hn : 0 ≤ x.toInt
      · have := Int.tmod_nonneg y.toInt hn
        have := Int.mul_nonneg (show 0 ≤ y.toInt by omega) (Int.tdiv_nonneg hn (show 0 ≤ y.toInt by omega))
        omega
      · have := Int.tmod_nonneg y.toInt (show 0 ≤ -x.toInt by omega)
        rw [Int.neg_tmod] at this
        omega
    · by_cases hn : 0 ≤ x.toInt
      · have := Int.tmod_nonneg y.toInt hn
        omega
      · have := Int.tmod_nonneg y.toInt (show 0 ≤ -x.toInt by omega)
        rw [Int.neg_tmod] at this
        omega
  have hr : (x - x / y * y).toInt = x.toInt.tmod y.toInt := by
    rw [i64_sub] <;> rw [hm] <;> omega
  unfold F_JMath_floorMod
  rw [if_neg (i64_ne0 hy)]
  simp only [zoL_e]
  by_cases hn : 0 ≤ x.toInt
  · rw [if_pos ((lg_cmp_ge _ _).mpr (i64_le.mpr (by rw [h0]; exact (i64_xor_nn x y).mpr ⟨fun _ => by omega, fun _ => hn⟩)))]
    exact ⟨_, rfl, by rw [hr, Int.tmod_eq_emod_of_nonneg hn]⟩
  · rw [if_neg (fun h => hn ((((i64_xor_nn x y).mp (by have := i64_le.mp ((lg_cmp_ge _ _).mp h); rwa [h0] at this)).mpr (by omega))))]
    have e3 : x.toInt.tmod y.toInt ≤ 0 := by
      have := Int.tmod_nonneg y.toInt (show 0 ≤ -x.toInt by omega)
      rw [Int.neg_tmod] at this
      omega
    by_cases hz : x.toInt.tmod y.toInt = 0
    · rw [if_pos ((lg_cmp_eq _ _).mpr (i64_ext (by rw [hr, hz]; decide)))]
      refine ⟨_, rfl, ?_⟩
      rw [hr, hz]
      have := (Int.ediv_emod_unique (a := x.toInt) (r := 0) (q := x.toInt.tdiv y.toInt) hy).mpr ⟨by omega, by omega, by omega⟩
      omega
    · rw [if_neg (fun h => hz (by have := congrArg Int64.toInt ((lg_cmp_eq _ _).mp h); rw [hr, h0] at this; exact this))]
      refine ⟨_, rfl, ?_⟩
      rw [i64_add] <;> rw [hr] <;> try omega
      have := (Int.ediv_emod_unique (a := x.toInt) (r := x.toInt.tmod y.toInt + y.toInt) (q := x.toInt.tdiv y.toInt - 1) hy).mpr ⟨by rw [Int.mul_sub]; omega, by omega, by omega⟩
      omega
theorem e_fdiv {sh : zSh} {mm : zMem} {x y : Int64} (hy : 0 < y.toInt) : F_MPainter_div sh mm x y = some (zx_fdiv x y, mm) := by
  unfold F_MPainter_div F_JMath_floorDiv
  rw [if_neg (i64_ne0 hy)]
  rfl
/-- the sine at a half turn's place -/
def hsin (h : Int64) : Int64 := zx_fdiv (1048576 * (h * (2048 - h))) (20971520 - 4 * (h * (2048 - h)))
theorem hsin_p {h : Int64} (h1 : 0 ≤ h.toInt) (h2 : h.toInt < 2048) : (h * (2048 - h)).toInt = h.toInt * (2048 - h.toInt) ∧ 0 ≤ h.toInt * (2048 - h.toInt) ∧ h.toInt * (2048 - h.toInt) ≤ 1048576 := by
  have e : (2048 - h).toInt = 2048 - h.toInt := by
    rw [i64_sub] <;> simp <;> omega
  have a1 : 0 ≤ h.toInt * (2048 - h.toInt) := Int.mul_nonneg h1 (by omega)
  have a2 : h.toInt * (2048 - h.toInt) ≤ 1048576 := by
    have := sq_nn (1024 - h.toInt)
    rw [Int.mul_sub, Int.sub_mul, Int.sub_mul] at this
    rw [Int.mul_sub]
    omega
  exact ⟨by rw [i64_mul] <;> rw [e] <;> omega, a1, a2⟩
theorem hsin_d {h : Int64} (h1 : 0 ≤ h.toInt) (h2 : h.toInt < 2048) : 16777216 ≤ (20971520 - 4 * (h * (2048 - h))).toInt ∧ (1048576 * (h * (2048 - h))).toInt ≤ 1099511627776 ∧ 0 ≤ (1048576 * (h * (2048 - h))).toInt := by
  obtain ⟨e, a1, a2⟩ := hsin_p h1 h2
  have e4 : (4 * (h * (2048 - h))).toInt = 4 * (h.toInt * (2048 - h.toInt)) := by
    rw [i64_mul] <;> rw [e, show (4 : Int64).toInt = 4 by decide] <;> omega
  have e5 : (1048576 * (h * (2048 - h))).toInt = 1048576 * (h.toInt * (2048 - h.toInt)) := by
    rw [i64_mul] <;> rw [e, show (1048576 : Int64).toInt = 1048576 by decide] <;> omega
  have e6 : (20971520 - 4 * (h * (2048 - h))).toInt = 20971520 - 4 * (h.toInt * (2048 - h.toInt)) := by
    rw [i64_sub] <;> rw [e4, show (20971520 : Int64).toInt = 20971520 by decide] <;> omega
  rw [e6, e5]
  omega
theorem hsin_rng {h : Int64} (h1 : 0 ≤ h.toInt) (h2 : h.toInt < 2048) : 0 ≤ (hsin h).toInt ∧ (hsin h).toInt ≤ 65536 := by
  obtain ⟨d1, d2, d3⟩ := hsin_d h1 h2
  unfold hsin
  generalize 1048576 * (h * (2048 - h)) = u at *
  generalize 20971520 - 4 * (h * (2048 - h)) = w at *
  rw [fdiv_pos (by omega)]
  refine ⟨Int.ediv_nonneg d3 (by omega), ?_⟩
  have := Int.ediv_lt_of_lt_mul (a := u.toInt) (b := 65537) (c := w.toInt) (by omega) (by omega)
  omega
theorem zx_sin0_eq (k : Int32) : (zx_sin0 k).toInt64 = hsin (zx_half k) ∧ 0 ≤ (zx_half k).toInt ∧ (zx_half k).toInt = k.toInt % 2048 := by
  have e : (zx_half k).toInt = k.toInt % 2048 := by
    unfold zx_half
    rw [Int32.toInt_toInt64, i32_and2047, i32_and4095]
    omega
  have h1 : 0 ≤ (zx_half k).toInt := by omega
  have h2 : (zx_half k).toInt < 2048 := by omega
  refine ⟨?_, h1, e⟩
  obtain ⟨d1, d2, d3⟩ := hsin_d h1 h2
  obtain ⟨r1, r2⟩ := hsin_rng h1 h2
  unfold zx_sin0 zx_sp
  rw [zx_div_pos (Int.lt_of_lt_of_le (show (0 : Int) < 16777216 by decide) d1)]
  show (hsin (zx_half k)).toInt32.toInt64 = hsin (zx_half k)
  generalize hsin (zx_half k) = u at *
  exact i64_rt (by omega) (by omega)
theorem e_hs {sh : zSh} {mm : zMem} {h : Int64} (h1 : 0 ≤ h.toInt) (h2 : h.toInt < 2048) : Option.bind (F_MPainter_div sh mm (1048576 * (h * (2048 - h))) (20971520 - 4 * (h * (2048 - h)))) (fun p4 => some (p4.1, p4.2)) = some (hsin h, mm) := by
  rw [e_fdiv (Int.lt_of_lt_of_le (show (0 : Int) < 16777216 by decide) (hsin_d h1 h2).1), zob_e]
  unfold hsin
  rfl
theorem i64_32_4096 (x : Int64) : x.toInt32.toInt % 4096 = x.toInt % 4096 := by
  rw [Int64.toInt_toInt32]
  have d : (4096 : Int) ∣ ((2 ^ 32 : Nat) : Int) := ⟨1048576, by decide⟩
  have := Int.emod_emod_of_dvd (Int.bmod x.toInt (2 ^ 32)) d
  rw [← this, Int.bmod_emod, Int.emod_emod_of_dvd _ d]
theorem neg_rt {w : Int32} {u : Int64} (e : w.toInt64 = u) (h1 : 0 ≤ u.toInt) : (-w).toInt64 = -u := by
  subst e
  have := w.toInt_lt
  apply i64_ext
  rw [Int32.toInt_toInt64] at h1 ⊢
  rw [i32_neg (by omega), i64_neg (by rw [Int32.toInt_toInt64]; omega), Int32.toInt_toInt64]
/-- both sines are one -/
theorem e_sin {sh : zSh} {mm : zMem} (x : Int64) : F_MPainter_sin sh mm x = some ((zx_sin x.toInt32).toInt64, mm) := by
  have hx := i64_32_4096 x
  obtain ⟨q0, q1, q2⟩ := zx_sin0_eq x.toInt32
  have q3 : (x.toInt32 &&& 4095).toInt = x.toInt % 4096 := by rw [i32_and4095, hx]
  have q4 : (zx_half x.toInt32).toInt < 2048 := by omega
  have c1 : (4096 : Int64).toInt = 4096 := by decide
  have c2 : (2048 : Int64).toInt = 2048 := by decide
  have c3 : (2048 : Int32).toInt = 2048 := by decide
  obtain ⟨r, hr, hv⟩ := e_fmod (sh := sh) (mm := mm) (x := x) (y := 4096) (by decide)
  rw [c1] at hv
  unfold F_MPainter_sin
  rw [hr]
  simp only [zob_e, zoL_e]
  by_cases hk : x.toInt % 4096 < 2048
  · have er : r = zx_half x.toInt32 := i64_ext (by rw [hv, q2]; omega)
    rw [if_pos ((lg_cmp_lt _ _).mpr (i64_lt.mpr (by rw [hv, c2]; exact hk))), er, e_hs q1 q4]
    have : zx_sin x.toInt32 = zx_sin0 x.toInt32 := if_neg (by rw [i32_le, q3, c3]; omega)
    rw [this, q0]
  · rw [if_neg (fun h => hk (by have := i64_lt.mp ((lg_cmp_lt _ _).mp h); rw [hv, c2] at this; exact this))]
    have es : (r - 2048).toInt = x.toInt % 4096 - 2048 := by
      rw [i64_sub] <;> rw [hv, c2] <;> omega
    obtain ⟨r2, hr2, hv2⟩ := e_fmod (sh := sh) (mm := mm) (x := r - 2048) (y := 4096) (by decide)
    rw [c1, es] at hv2
    have er : r2 = zx_half x.toInt32 := i64_ext (by rw [hv2, q2]; omega)
    unfold F_MPainter_sin0
    rw [hr2]
    simp only [zob_e, zoL_e]
    rw [if_pos ((lg_cmp_lt _ _).mpr (i64_lt.mpr (by rw [hv2, c2]; omega))), er, e_hs q1 q4]
    have : zx_sin x.toInt32 = -zx_sin0 x.toInt32 := if_pos (by rw [i32_le, q3, c3]; omega)
    rw [this, neg_rt q0 (hsin_rng q1 q4).1]
    rfl
theorem zx_sin_rng (k : Int32) : -65536 ≤ (zx_sin k).toInt ∧ (zx_sin k).toInt ≤ 65536 := by
  obtain ⟨q0, q1, q2⟩ := zx_sin0_eq k
  obtain ⟨r1, r2⟩ := hsin_rng q1 (by omega)
  have q0' : (zx_sin0 k).toInt = (hsin (zx_half k)).toInt := by rw [← q0, Int32.toInt_toInt64]
  unfold zx_sin
  generalize hsin (zx_half k) = u at *
  generalize zx_sin0 k = w at *
  split
  · rw [i32_neg (by omega)]
    omega
  · omega
theorem e_cos {sh : zSh} {mm : zMem} (x : Int64) : F_MPainter_cos sh mm x = some ((zx_sin (x + 1024).toInt32).toInt64, mm) := by
  unfold F_MPainter_cos
  rw [e_sin]
  rfl
