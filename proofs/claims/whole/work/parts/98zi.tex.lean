/-! PURE: textures in the reference's painter -/
/-- texture t of the rows g has side 2^e -/
def WtxN (g : Nat → Nat → Int32) (t e : Nat) : Prop := e ≤ 5 ∧ g 1 t = nI (sd e 0) ∧ (g 2 t = 0 ∨ g 2 t = 1 ∨ g 2 t = 2) ∧ (g 3 t = 0 ∨ g 3 t = 1) ∧ ∃ L : Nat → Nat → Nat, ∀ l, l ≤ e → ∀ k, k < 3 * (sd e l * sd e l) → L l k < 256 ∧ g 4 (4095 * t + 3 * st e l + k) = nI (L l k)
def lvS (wide whole : Int64) : Nat → Nat → Nat
  | 0, l => l
  | d + 1, l => if lg_cmp wide ((whole * 16777216) <<< ((2 * nI l).toInt64 &&& 63)) ≤ 0 then l else lvS wide whole d (l + 1)
theorem lvS_le {a b : Int64} : ∀ d l, l ≤ lvS a b d l ∧ lvS a b d l ≤ l + d := by
  intro d
  induction d with
  | zero => intro l; exact ⟨Nat.le_refl _, Nat.le_refl _⟩
  | succ d ih =>
    intro l
    rw [lvS]
    split
    · omega
    · have := ih (l + 1); omega
/-- |d| times the side twice -/
def wid (A B C : Nat → Int64) (s : Int64) : Int64 := ((if 0 ≤ lg_cmp ((B 3 - A 3) * (C 4 - A 4) - (C 3 - A 3) * (B 4 - A 4)) 0 then (B 3 - A 3) * (C 4 - A 4) - (C 3 - A 3) * (B 4 - A 4) else -((B 3 - A 3) * (C 4 - A 4) - (C 3 - A 3) * (B 4 - A 4))) * s) * s
/-- which column or row -/
def wrp (i : Int) (s : Nat) (how : Int32) : Nat := if how = 0 then (i % s).toNat else if how = 1 then (if i < 0 then 0 else if i < s then i.toNat else s - 1) else (if i % (2 * s) < s then (i % (2 * s)).toNat else 2 * s - 1 - (i % (2 * s)).toNat)
def txl (g : Nat → Nat → Int32) (e t l : Nat) (i j : Int64) (k : Nat) : Int64 := (g 4 (4095 * t + 3 * st e l + (3 * (sd e l * wrp j.toInt (sd e l) (g 2 t) + wrp i.toInt (sd e l) (g 2 t)) + k))).toInt64
theorem sd_1 : ∀ e : Fin 6, ∀ l : Fin 6, l.val ≤ e.val → 0 < sd e l ∧ sd e l ≤ 32 ∧ (nI (sd e 0) >>> (nI l.val &&& 31)) = nI (sd e l) ∧ st e l + sd e l * sd e l ≤ 1365 := by decide +kernel
theorem wrp_lt {i : Int} {s : Nat} {how : Int32} (hs : 0 < s) : wrp i s how < s := by
  unfold wrp
  have h1 := Int.emod_nonneg i (show (s : Int) ≠ 0 by omega)
  have h2 := Int.emod_lt_of_pos i (show (0 : Int) < s by omega)
  have h3 := Int.emod_nonneg i (show (2 * s : Int) ≠ 0 by omega)
  have h4 := Int.emod_lt_of_pos i (show (0 : Int) < 2 * s by omega)
  split
  · omega
  · split
    · split
      · omega
      · split <;> omega
    · split <;> omega
section ZTX
variable {W H : Nat}
theorem e_wrp {m : zMem} {i : Int64} {s : Nat} {how : Int32} (hs : 0 < s) (hs2 : s ≤ 32) (hh : how = 0 ∨ how = 1 ∨ how = 2) : F_MPainter_wrapped (sh0 W H) m i (nI s) how = some (nI (wrp i.toInt s how), m) := by
  have es : (nI s).toInt64.toInt = s := by rw [Int32.toInt_toInt64, nI_toInt (by omega)]
  have e0 : (0 : Int64).toInt = 0 := rfl
  have hm := Int.emod_nonneg i.toInt (show (s : Int) ≠ 0 by omega)
  have hm2 := Int.emod_lt_of_pos i.toInt (show (0 : Int) < s by omega)
  have hn := Int.emod_nonneg i.toInt (show (2 * s : Int) ≠ 0 by omega)
  have hn2 := Int.emod_lt_of_pos i.toInt (show (0 : Int) < 2 * s by omega)
  unfold F_MPainter_wrapped wrp
  rcases hh with rfl | rfl | rfl
  · rw [if_pos rfl, if_pos rfl]
    obtain ⟨z, z1, z2⟩ := e_fmod (sh := sh0 W H) (mm := m) (x := i) (y := (nI s).toInt64) (by rw [es]; omega)
    rw [es] at z2
    rw [zob_h z1]
    dsimp only
    have : z.toInt32 = nI (i.toInt % s).toNat := i32_ext (by rw [i64_32 (by omega) (by omega), nI_toInt (by omega)]; omega)
    rw [this]
  · rw [if_neg (show ¬ ((1 : Int32) = 0) by decide), if_pos (show (1 : Int32) = 1 from rfl), if_neg (show ¬ ((1 : Int32) = 0) by decide), if_pos (show (1 : Int32) = 1 from rfl)]
    by_cases a : i.toInt < 0
    · rw [if_neg (by rw [lgc_ge, i64_lt, e0]; omega), if_pos a]
      rfl
    · rw [if_pos (by rw [lgc_ge, i64_lt, e0]; omega), if_neg a]
      by_cases b : i.toInt < s
      · rw [if_pos (lgc_lt2.mpr (by rw [es]; exact b)), if_pos b]
        have : i.toInt32 = nI i.toInt.toNat := i32_ext (by rw [i64_32 (by omega) (by omega), nI_toInt (by omega)]; omega)
        rw [this]
      · rw [if_neg (fun q => b (by rw [lgc_lt2, es] at q; exact q)), if_neg b]
        have : nI s - 1 = nI (s - 1) := i32_ext (by
          have e1 : (1 : Int32).toInt = 1 := rfl
          rw [i32_sub (by rw [nI_toInt (by omega), e1]; omega) (by rw [nI_toInt (by omega), e1]; omega), nI_toInt (by omega), nI_toInt (by omega), e1]
          omega)
        rw [this]
  · rw [if_neg (show ¬ ((2 : Int32) = 0) by decide), if_neg (show ¬ ((2 : Int32) = 1) by decide), if_neg (show ¬ ((2 : Int32) = 0) by decide), if_neg (show ¬ ((2 : Int32) = 1) by decide)]
    have e2 : (2 * (nI s).toInt64).toInt = 2 * s := by
      have k2 : (2 : Int64).toInt = 2 := rfl
      rw [i64_mul (by rw [es, k2]; omega) (by rw [es, k2]; omega), es, k2]
    obtain ⟨z, z1, z2⟩ := e_fmod (sh := sh0 W H) (mm := m) (x := i) (y := 2 * (nI s).toInt64) (by rw [e2]; omega)
    rw [e2] at z2
    rw [zob_h z1]
    dsimp only
    have hz : z.toInt32 = nI (i.toInt % (2 * s)).toNat := i32_ext (by rw [i64_32 (by omega) (by omega), nI_toInt (by omega)]; omega)
    rw [zoL_e, hz]
    by_cases a : i.toInt % (2 * s) < s
    · rw [if_pos (by rw [nI_ltD (by omega) (by omega)]; omega), if_pos a]
    · rw [if_neg (by rw [nI_ltD (by omega) (by omega)]; omega), if_neg a]
      have : 2 * nI s - 1 - nI (i.toInt % (2 * s)).toNat = nI (2 * s - 1 - (i.toInt % (2 * s)).toNat) := i32_ext (by
        have e1 : (1 : Int32).toInt = 1 := rfl
        have k2 : 2 * nI s = nI (2 * s) := by rw [show (2 : Int32) = nI 2 from rfl, nI_mul]
        have q1 : (nI (2 * s) - 1).toInt = 2 * s - 1 := by rw [i32_sub (by rw [nI_toInt (by omega), e1]; omega) (by rw [nI_toInt (by omega), e1]; omega), nI_toInt (by omega), e1]; omega
        rw [k2, i32_sub (by rw [q1, nI_toInt (by omega)]; omega) (by rw [q1, nI_toInt (by omega)]; omega), q1, nI_toInt (by omega), nI_toInt (by omega)]
        omega)
      rw [this]
theorem WtxN_b {g : Nat → Nat → Int32} {t e l : Nat} (h : WtxN g t e) (hl : l ≤ e) {row col k : Nat} (hr : row < sd e l) (hc : col < sd e l) (hk : k < 3) : 3 * (sd e l * row + col) + k < 3 * (sd e l * sd e l) ∧ 4095 * t + 3 * st e l + (3 * (sd e l * row + col) + k) < 4095 * t + 4095 := by
  obtain ⟨s1, s2, s3, s4⟩ := sd_1 ⟨e, by have := h.1; omega⟩ ⟨l, by have := h.1; omega⟩ hl
  simp only at s1 s2 s3 s4
  have : sd e l * row + sd e l ≤ sd e l * sd e l := by
    have := Nat.mul_le_mul_left (sd e l) (show row + 1 ≤ sd e l by omega)
    rw [Nat.mul_add] at this
    omega
  omega
theorem e_txl {m : zMem} {r t e l k : Nat} {i j : Int64} (hr : gM r) (hR : RF m.2.2) (hs : m.2.2 1285 5 = some r) (h : WtxN (fun a => m.1 (r + a)) t e) (ht : t < 8) (hl : l ≤ e) (hk : k < 3) : F_MPainter_texel (sh0 W H) m 1285 (nI t) (nI l) i j (nI k) = some (txl (fun a => m.1 (r + a)) e t l i j k, m) := by
  obtain ⟨s1, s2, s3, s4⟩ := sd_1 ⟨e, by have := h.1; omega⟩ ⟨l, by have := h.1; omega⟩ hl
  simp only at s1 s2 s3 s4
  have hh := h.2.2.1
  have h1 := h.2.1
  dsimp only at hh h1
  have wi := wrp_lt (i := i.toInt) (how := m.1 (r + 2) t) s1
  have wj := wrp_lt (i := j.toInt) (how := m.1 (r + 2) t) s1
  have hb := WtxN_b h hl wj wi hk
  have ct := nI_cl (show t < 2147483648 by omega)
  have lv := e_lvAt (W := W) (H := H) hr hR h.1 hl ht h1
  unfold F_MPainter_texel txl
  rw [zoS_h sh_1285, zob_h hs, zoS_h (sh_m0 hr), zob_h (rf_m5 hR hr), zoS_h (sh_m1 hr), nI_ix (by omega) (by decide), ct, h1, s3, zoL_e, zoS_h sh_1285, zob_h hs, zoS_h (sh_m0 hr), zob_h (rf_m6 hR hr), zoS_h (sh_m2 hr), if_neg (fun q => q.elim (nI_pos (by omega)) (by omega)), zoL_e, zob_h (e_wrp s1 s2 hh), zoS_h sh_1285, zob_h hs, zoS_h (sh_m0 hr), zob_h (rf_m6 hR hr), zoS_h (sh_m2 hr), if_neg (fun q => q.elim (nI_pos (by omega)) (by omega)), zoL_e, zob_h (e_wrp s1 s2 hh), zoS_h sh_1285, zob_h hs, zoS_h (sh_m0 hr), zob_h (rf_m8 hR hr), zoS_h sh_1285, zob_h hs, zoS_h (sh_m0 hr), zob_h lv]
  dsimp only
  have ix : nI (4095 * t + 3 * st e l) + 3 * (nI (sd e l) * nI (wrp j.toInt (sd e l) (m.1 (r + 2) t)) + nI (wrp i.toInt (sd e l) (m.1 (r + 2) t))) + nI k = nI (4095 * t + 3 * st e l + (3 * (sd e l * wrp j.toInt (sd e l) (m.1 (r + 2) t) + wrp i.toInt (sd e l) (m.1 (r + 2) t)) + k)) := by
    rw [nI_mul, show nI (sd e l * wrp j.toInt (sd e l) (m.1 (r + 2) t)) + nI (wrp i.toInt (sd e l) (m.1 (r + 2) t)) = nI (sd e l * wrp j.toInt (sd e l) (m.1 (r + 2) t) + wrp i.toInt (sd e l) (m.1 (r + 2) t)) from (Int32.ofNat_add _ _).symm, show (3 : Int32) = nI 3 from rfl, nI_mul, ← Nat.add_assoc]
    have q1 : ∀ a b, nI a + nI b = nI (a + b) := fun a b => (Int32.ofNat_add a b).symm
    rw [q1, q1]
  rw [zoL_e, ix, zoS_h (sh_m4 hr), nI_ix (by omega) (by decide), nI_cl (by omega)]
/-- the colour of a texture at u, v -/
def smp (g : Nat → Nat → Int32) (e t l : Nat) (u v : Int64) (k : Nat) : Int64 :=
  if g 3 t = 0 then txl g e t l (zx_fdiv (u * (nI (sd e l)).toInt64) 65536) (zx_fdiv (v * (nI (sd e l)).toInt64) 65536) k
  else zx_fdiv ((((txl g e t l (zx_fdiv (u * (nI (sd e l)).toInt64 - 32768) 65536) (zx_fdiv (v * (nI (sd e l)).toInt64 - 32768) 65536) k * (256 - zx_fdiv (u * (nI (sd e l)).toInt64 - 32768 - 65536 * zx_fdiv (u * (nI (sd e l)).toInt64 - 32768) 65536) 256)) * (256 - zx_fdiv (v * (nI (sd e l)).toInt64 - 32768 - 65536 * zx_fdiv (v * (nI (sd e l)).toInt64 - 32768) 65536) 256) + (txl g e t l (zx_fdiv (u * (nI (sd e l)).toInt64 - 32768) 65536 + 1) (zx_fdiv (v * (nI (sd e l)).toInt64 - 32768) 65536) k * zx_fdiv (u * (nI (sd e l)).toInt64 - 32768 - 65536 * zx_fdiv (u * (nI (sd e l)).toInt64 - 32768) 65536) 256) * (256 - zx_fdiv (v * (nI (sd e l)).toInt64 - 32768 - 65536 * zx_fdiv (v * (nI (sd e l)).toInt64 - 32768) 65536) 256)) + (txl g e t l (zx_fdiv (u * (nI (sd e l)).toInt64 - 32768) 65536) (zx_fdiv (v * (nI (sd e l)).toInt64 - 32768) 65536 + 1) k * (256 - zx_fdiv (u * (nI (sd e l)).toInt64 - 32768 - 65536 * zx_fdiv (u * (nI (sd e l)).toInt64 - 32768) 65536) 256)) * zx_fdiv (v * (nI (sd e l)).toInt64 - 32768 - 65536 * zx_fdiv (v * (nI (sd e l)).toInt64 - 32768) 65536) 256) + (txl g e t l (zx_fdiv (u * (nI (sd e l)).toInt64 - 32768) 65536 + 1) (zx_fdiv (v * (nI (sd e l)).toInt64 - 32768) 65536 + 1) k * zx_fdiv (u * (nI (sd e l)).toInt64 - 32768 - 65536 * zx_fdiv (u * (nI (sd e l)).toInt64 - 32768) 65536) 256) * zx_fdiv (v * (nI (sd e l)).toInt64 - 32768 - 65536 * zx_fdiv (v * (nI (sd e l)).toInt64 - 32768) 65536) 256) 65536
set_option maxHeartbeats 4000000 in
theorem e_smp {m : zMem} {r t e l k : Nat} {u v : Int64} (hr : gM r) (hR : RF m.2.2) (hs : m.2.2 1285 5 = some r) (h : WtxN (fun a => m.1 (r + a)) t e) (ht : t < 8) (hl : l ≤ e) (hk : k < 3) : F_MPainter_sample (sh0 W H) m 1285 (nI t) (nI l) u v (nI k) = some (smp (fun a => m.1 (r + a)) e t l u v k, m) := by
  obtain ⟨s1, s2, s3, s4⟩ := sd_1 ⟨e, by have := h.1; omega⟩ ⟨l, by have := h.1; omega⟩ hl
  simp only at s1 s2 s3 s4
  have h1 := h.2.1
  dsimp only at h1
  have ct := nI_cl (show t < 2147483648 by omega)
  have d65 : ∀ y : Int64, F_MPainter_div (sh0 W H) m y 65536 = some (zx_fdiv y 65536, m) := fun y => e_div (by decide)
  have d256 : ∀ y : Int64, F_MPainter_div (sh0 W H) m y 256 = some (zx_fdiv y 256, m) := fun y => e_div (by decide)
  have tx : ∀ i j : Int64, F_MPainter_texel (sh0 W H) m 1285 (nI t) (nI l) i j (nI k) = some (txl (fun a => m.1 (r + a)) e t l i j k, m) := fun i j => e_txl hr hR hs h ht hl hk
  unfold F_MPainter_sample smp
  rw [zoS_h sh_1285, zob_h hs, zoS_h (sh_m0 hr), zob_h (rf_m5 hR hr), zoS_h (sh_m1 hr), nI_ix (by omega) (by decide), ct, h1, s3, zoL_e, zoL_e, zoL_e, zoS_h sh_1285, zob_h hs, zoS_h (sh_m0 hr), zob_h (rf_m7 hR hr), zoS_h (sh_m3 hr), if_neg (fun q => q.elim (nI_pos (by omega)) (by omega))]
  by_cases e0 : m.1 (r + 3) t = 0
  · rw [if_pos e0, if_pos e0, zob_h (d65 _), zob_h (d65 _), zoS_h sh_1285, zob_h (tx _ _)]
  · rw [if_neg e0, if_neg e0, zoL_e, zoL_e, zob_h (d65 _), zob_h (d65 _), zob_h (d256 _), zob_h (d256 _), zoS_h sh_1285, zob_h (tx _ _), zoS_h sh_1285, zob_h (tx _ _), zoL_e, zoS_h sh_1285, zob_h (tx _ _), zoS_h sh_1285, zob_h (tx _ _), zoL_e, zob_h (d65 _)]
end ZTX
