/-! PURE: the class's textures, softly; levels -/
section ZSF
variable {W H : Nat}
/-- four bytes, mixed -/
def sfN (a b c d g h : Nat) : Nat := ((a * (256 - g) + b * g) * (256 - h) + (c * (256 - g) + d * g) * h) / 65536
theorem mx_le {a b g : Nat} (ha : a < 256) (hb : b < 256) (hg : g ≤ 256) : a * (256 - g) + b * g ≤ 65280 := by
  have h1 := Nat.mul_le_mul_right (256 - g) (show a ≤ 255 by omega)
  have h2 := Nat.mul_le_mul_right g (show b ≤ 255 by omega)
  omega
theorem mx2_le {x y h : Nat} (hx : x ≤ 65280) (hy : y ≤ 65280) (hh : h ≤ 256) : x * (256 - h) + y * h ≤ 16711680 := by
  have h1 := Nat.mul_le_mul_right (256 - h) hx
  have h2 := Nat.mul_le_mul_right h hy
  omega
theorem sfN_b {a b c d g h : Nat} (ha : a < 256) (hb : b < 256) (hc : c < 256) (hd : d < 256) (hg : g ≤ 256) (hh : h ≤ 256) : (a * (256 - g) + b * g) * (256 - h) + (c * (256 - g) + d * g) * h ≤ 16711680 ∧ sfN a b c d g h < 256 := by
  have := mx2_le (mx_le ha hb hg) (mx_le hc hd hg) hh
  refine ⟨this, ?_⟩
  unfold sfN
  omega
theorem nI_shr16 {n : Nat} (h : n < 2147483648) : nI n >>> (16 &&& 31) = nI (n / 65536) := by
  apply i32_ext
  rw [i32_shr _ _ 16 (by decide), nI_toInt h, nI_toInt (by omega)]
  have : (2 : Int) ^ 16 = 65536 := by decide
  rw [this]
  omega
/-- one byte of the mixing, the class's way -/
theorem sf_1 {a b c d g h : Nat} (ha : a < 256) (hb : b < 256) (hc : c < 256) (hd : d < 256) (hg : g ≤ 256) (hh : h ≤ 256) : ((((nI a * (256 - nI g)) + (nI b * nI g)) * (256 - nI h)) + (((nI c * (256 - nI g)) + (nI d * nI g)) * nI h)) >>> (16 &&& 31) = nI (sfN a b c d g h) := by
  have e1 : (256 : Int32) - nI g = nI (256 - g) := nI_sub (a := 256) hg
  have e2 : (256 : Int32) - nI h = nI (256 - h) := nI_sub (a := 256) hh
  rw [e1, e2]
  simp only [nI_mul, nI_pp]
  rw [nI_shr16 (by have := (sfN_b ha hb hc hd hg hh).1; omega)]
  rfl
theorem e_sft {sh : zSh} {m : zMem} {g h : Nat} {a b c d : Nat → Nat} (ha : ∀ k, k < 3 → a k < 256) (hb : ∀ k, k < 3 → b k < 256) (hc : ∀ k, k < 3 → c k < 256) (hd : ∀ k, k < 3 → d k < 256) (hg : g ≤ 256) (hh : h ≤ 256) : L_XTexture_softAt_102 sh zfuel (nI g) (nI h) (pk (a 0) (a 1) (a 2)) (pk (b 0) (b 1) (b 2)) (pk (c 0) (c 1) (c 2)) (pk (d 0) (d 1) (d 2)) 0 0 m = some (nI g, nI h, pk (a 0) (a 1) (a 2), pk (b 0) (b 1) (b 2), pk (c 0) (c 1) (c 2), pk (d 0) (d 1) (d 2), pk (sfN (a 0) (b 0) (c 0) (d 0) g h) (sfN (a 1) (b 1) (c 1) (d 1) g h) (sfN (a 2) (b 2) (c 2) (d 2) g h), 24, m) := by
  have c1 : ((16 : Int32) < 0) = False := eq_false (by decide)
  have c2 : ((16 : Int32) < 8) = False := eq_false (by decide)
  have c3 : ((16 : Int32) < 16) = False := eq_false (by decide)
  have c4 : ((16 : Int32) < 24) = True := eq_true (by decide)
  have f1 : zfuel = 999996 + 1 + 1 + 1 + 1 := nrfl rfl
  have x0 := ha 0 (by decide)
  have x1 := ha 1 (by decide)
  have x2 := ha 2 (by decide)
  have y0 := hb 0 (by decide)
  have y1 := hb 1 (by decide)
  have y2 := hb 2 (by decide)
  have z0 := hc 0 (by decide)
  have z1 := hc 1 (by decide)
  have z2 := hc 2 (by decide)
  have w0 := hd 0 (by decide)
  have w1 := hd 1 (by decide)
  have w2 := hd 2 (by decide)
  rw [f1, L_XTexture_softAt_102, if_neg (by decide), zoL_e, zoL_e, zoL_e, show (0 : Int32) + 8 = 8 by decide, L_XTexture_softAt_102, if_neg (by decide), zoL_e, zoL_e, zoL_e, show (8 : Int32) + 8 = 16 by decide, L_XTexture_softAt_102, if_neg (by decide), zoL_e, zoL_e, zoL_e, show (16 : Int32) + 8 = 24 by decide, L_XTexture_softAt_102, if_pos (by decide)]
  rw [pk_0 x0 x1 x2, pk_0 y0 y1 y2, pk_0 z0 z1 z2, pk_0 w0 w1 w2, pk_8 x0 x1 x2, pk_8 y0 y1 y2, pk_8 z0 z1 z2, pk_8 w0 w1 w2, pk_16 x0 x1 x2, pk_16 y0 y1 y2, pk_16 z0 z1 z2, pk_16 w0 w1 w2, sf_1 x0 y0 z0 w0 hg hh, sf_1 x1 y1 z1 w1 hg hh, sf_1 x2 y2 z2 w2 hg hh, pk_up (sfN_b x0 y0 z0 w0 hg hh).2 (sfN_b x1 y1 z1 w1 hg hh).2 (sfN_b x2 y2 z2 w2 hg hh).2]
/-- a number as a long -/
def oL (n : Nat) : Int64 := Int64.ofNat n
theorem oL_i {n : Nat} (h : n < 9223372036854775808) : (oL n).toInt = n := Int64.toInt_ofNat_of_lt (by omega)
theorem oL_n {n : Nat} (h : n < 2147483648) : (nI n).toInt64 = oL n := i64_ext (by rw [Int32.toInt_toInt64, nI_toInt h, oL_i (by omega)])
theorem oL_m (a b : Nat) : oL a * oL b = oL (a * b) := (Int64.ofNat_mul a b).symm
theorem oL_a (a b : Nat) : oL a + oL b = oL (a + b) := (Int64.ofNat_add a b).symm
theorem oL_s {a b : Nat} (h : b ≤ a) (ha : a < 9223372036854775808) : oL a - oL b = oL (a - b) := i64_ext (by rw [i64_sub (by rw [oL_i ha, oL_i (by omega)]; omega) (by rw [oL_i ha, oL_i (by omega)]; omega), oL_i ha, oL_i (by omega), oL_i (by omega)]; omega)
theorem sf_2 {a b c d g h : Nat} (ha : a < 256) (hb : b < 256) (hc : c < 256) (hd : d < 256) (hg : g ≤ 256) (hh : h ≤ 256) : zx_fdiv ((((oL a * (256 - oL g)) * (256 - oL h) + (oL b * oL g) * (256 - oL h)) + (oL c * (256 - oL g)) * oL h) + (oL d * oL g) * oL h) 65536 = oL (sfN a b c d g h) := by
  have e1 : (256 : Int64) - oL g = oL (256 - g) := oL_s (a := 256) hg (by decide)
  have e2 : (256 : Int64) - oL h = oL (256 - h) := oL_s (a := 256) hh (by decide)
  have hb2 := sfN_b ha hb hc hd hg hh
  have en : a * (256 - g) * (256 - h) + b * g * (256 - h) + c * (256 - g) * h + d * g * h = (a * (256 - g) + b * g) * (256 - h) + (c * (256 - g) + d * g) * h := by
    rw [Nat.add_mul, Nat.add_mul]
    omega
  rw [e1, e2]
  simp only [oL_m, oL_a]
  rw [en]
  apply i64_ext
  rw [fdiv_pos (by decide), oL_i (by omega), oL_i (by omega)]
  show _ / (65536 : Int) = _
  unfold sfN
  omega
theorem i64_shl {x k : Int64} {c : Nat} (h : (k.toBitVec.smod 64).toNat = c) : x <<< k = x * oL (2 ^ c) := by
  apply Int64.toBitVec_inj.mp
  apply BitVec.eq_of_toNat_eq
  show (x.toBitVec <<< (k.toBitVec.smod 64)).toNat = (x.toBitVec * BitVec.ofNat 64 (2 ^ c)).toNat
  rw [BitVec.shiftLeft_eq', BitVec.toNat_shiftLeft, h, BitVec.toNat_mul, BitVec.toNat_ofNat, Nat.shiftLeft_eq, Nat.mul_mod_mod]
/-- the fraction of a place, both ways -/
theorem frac {a : Int64} (ha : -1000000000 ≤ a.toInt ∧ a.toInt ≤ 1000000000) : ∃ g, g < 256 ∧ a >>> ((16 : Int32).toInt64 &&& 63) = zx_fdiv a 65536 ∧ (-20000 ≤ (zx_fdiv a 65536).toInt ∧ (zx_fdiv a 65536).toInt ≤ 20000) ∧ zx_fdiv (a - 65536 * zx_fdiv a 65536) 256 = oL g ∧ ((a - (zx_fdiv a 65536 <<< ((16 : Int32).toInt64 &&& 63))).toInt32) >>> (8 &&& 31) = nI g := by
  have f1 : (zx_fdiv a 65536).toInt = a.toInt / 65536 := fdiv_pos (by decide)
  have e1 : a >>> ((16 : Int32).toInt64 &&& 63) = zx_fdiv a 65536 := i64_ext (by rw [i64_shr16, f1])
  have e2 : zx_fdiv a 65536 <<< ((16 : Int32).toInt64 &&& 63) = 65536 * zx_fdiv a 65536 := by rw [i64_shl (c := 16) (by decide), Int64.mul_comm]; rfl
  have c6 : (65536 : Int64).toInt = 65536 := rfl
  generalize zx_fdiv a 65536 = i at *
  have e3 : (65536 * i).toInt = 65536 * i.toInt := by rw [i64_mul (by rw [c6]; omega) (by rw [c6]; omega), c6]
  have e4 : (a - 65536 * i).toInt = a.toInt % 65536 := by rw [i64_sub (by omega) (by omega), e3, f1]; omega
  refine ⟨(a.toInt % 65536 / 256).toNat, by omega, e1, by omega, ?_, ?_⟩
  · apply i64_ext
    rw [fdiv_pos (by decide), e4, oL_i (by omega)]
    show _ / (256 : Int) = _
    omega
  · rw [e2]
    apply i32_ext
    rw [i32_shr _ _ 8 (by decide), i64_32 (by omega) (by omega), e4, nI_toInt (by omega), show (2 : Int) ^ 8 = 256 by decide]
    omega
theorem e_colC {m : zMem} {s t e l : Nat} {g : Nat → Nat → Int32} {L : Nat → Nat → Nat} {u v : Int64} (hs : gS s) (ht : t < 8) (hR : RF m.2.2) (h : TXC m.1 s g t e L) (hl : l ≤ e) (hu : -131072 ≤ u.toInt ∧ u.toInt ≤ 131072) (hv : -131072 ≤ v.toInt ∧ v.toInt ≤ 131072) : ∃ c : Nat → Nat, (∀ k, k < 3 → c k < 256 ∧ smp g e t l u v k = (nI (c k)).toInt64) ∧ F_XTexture_colourAt (sh0 W H) m (txA s t) (nI l) u v = some (pk (c 0) (c 1) (c 2), m) := by
  have h' := h
  obtain ⟨h1, h2, h3, h4, h5, h6, h7, h8, h9, h10⟩ := h'
  obtain ⟨s1, s2, s3, s4⟩ := sd_1 ⟨e, by omega⟩ ⟨l, by omega⟩ hl
  simp only at s1 s2 s3 s4
  have sI : (nI (sd e l)).toInt64.toInt = (sd e l : Int) := by rw [Int32.toInt_toInt64, nI_toInt (by omega)]
  have us : (u * (nI (sd e l)).toInt64).toInt = u.toInt * (sd e l : Int) ∧ -4194304 ≤ (u * (nI (sd e l)).toInt64).toInt ∧ (u * (nI (sd e l)).toInt64).toInt ≤ 4194304 := by
    have b1 : -4194304 ≤ u.toInt * (sd e l : Int) := by
      have := Int.mul_le_mul_of_nonneg_right hu.1 (show (0 : Int) ≤ (sd e l : Int) by omega)
      omega
    have b2 : u.toInt * (sd e l : Int) ≤ 4194304 := by
      have := Int.mul_le_mul_of_nonneg_right hu.2 (show (0 : Int) ≤ (sd e l : Int) by omega)
      omega
    have := i64_mul (a := u) (b := (nI (sd e l)).toInt64) (by rw [sI]; omega) (by rw [sI]; omega)
    rw [sI] at this
    omega
  have vs : (v * (nI (sd e l)).toInt64).toInt = v.toInt * (sd e l : Int) ∧ -4194304 ≤ (v * (nI (sd e l)).toInt64).toInt ∧ (v * (nI (sd e l)).toInt64).toInt ≤ 4194304 := by
    have b1 : -4194304 ≤ v.toInt * (sd e l : Int) := by
      have := Int.mul_le_mul_of_nonneg_right hv.1 (show (0 : Int) ≤ (sd e l : Int) by omega)
      omega
    have b2 : v.toInt * (sd e l : Int) ≤ 4194304 := by
      have := Int.mul_le_mul_of_nonneg_right hv.2 (show (0 : Int) ≤ (sd e l : Int) by omega)
      omega
    have := i64_mul (a := v) (b := (nI (sd e l)).toInt64) (by rw [sI]; omega) (by rw [sI]; omega)
    rw [sI] at this
    omega
  have c32 : (32768 : Int64).toInt = 32768 := rfl
  unfold F_XTexture_colourAt smp
  rw [zoS_h (sh_txA hs ht), h3, h2, s3, zoL_e, zoS_h (sh_txA hs ht), zob_h (rf_txA5 hR hs ht), zoS_h (sh_txA2 hs ht), nI_ix (by omega) (by decide), nI_cl (by omega), h7 l hl, zoL_e, zoS_h (sh_txA hs ht), h5]
  generalize u * (nI (sd e l)).toInt64 = U at *
  generalize v * (nI (sd e l)).toInt64 = V at *
  by_cases e0 : g 3 t = 0
  · obtain ⟨_, _, fu, fu2, _, _⟩ := frac (a := U) (by omega)
    obtain ⟨_, _, fv, fv2, _, _⟩ := frac (a := V) (by omega)
    obtain ⟨k1, k2⟩ := e_txC (W := W) (H := H) (i := zx_fdiv U 65536) (j := zx_fdiv V 65536) hs ht hR h hl (by omega) (by omega)
    rw [if_pos e0, zoS_h (sh_txA hs ht), zoL_e, zoL_e, fu, fv, zob_h k2]
    exact ⟨_, fun k hk => ⟨(k1 k hk).1, by rw [if_pos e0]; exact (k1 k hk).2⟩, rfl⟩
  · have U3 : (U - 32768).toInt = U.toInt - 32768 := by rw [i64_sub (by omega) (by omega), c32]
    have V3 : (V - 32768).toInt = V.toInt - 32768 := by rw [i64_sub (by omega) (by omega), c32]
    rw [if_neg e0, zoS_h (sh_txA hs ht), zoL_e, zoL_e]
    generalize U - 32768 = A at *
    generalize V - 32768 = B at *
    obtain ⟨p, p1, p2, p3, p4, p5⟩ := frac (a := A) (by omega)
    obtain ⟨q, q1, q2, q3, q4, q5⟩ := frac (a := B) (by omega)
    have one : (1 : Int64).toInt = 1 := rfl
    unfold F_XTexture_softAt
    rw [zoL_e, zoL_e, zoL_e, zoL_e, p2, q2, p5, q5]
    generalize zx_fdiv A 65536 = i at *
    generalize zx_fdiv B 65536 = j at *
    have i1 : (i + 1).toInt = i.toInt + 1 := by rw [i64_add (by omega) (by omega), one]
    have j1 : (j + 1).toInt = j.toInt + 1 := by rw [i64_add (by omega) (by omega), one]
    obtain ⟨a1, a2⟩ := e_txC (W := W) (H := H) (i := i) (j := j) hs ht hR h hl (by omega) (by omega)
    obtain ⟨b1, b2⟩ := e_txC (W := W) (H := H) (i := i + 1) (j := j) hs ht hR h hl (by omega) (by omega)
    obtain ⟨c1, c2⟩ := e_txC (W := W) (H := H) (i := i) (j := j + 1) hs ht hR h hl (by omega) (by omega)
    obtain ⟨d1, d2⟩ := e_txC (W := W) (H := H) (i := i + 1) (j := j + 1) hs ht hR h hl (by omega) (by omega)
    generalize tB L (g 2 t) e l i.toInt j.toInt = a at *
    generalize tB L (g 2 t) e l (i + 1).toInt j.toInt = b at *
    generalize tB L (g 2 t) e l i.toInt (j + 1).toInt = c at *
    generalize tB L (g 2 t) e l (i + 1).toInt (j + 1).toInt = d at *
    have sx := sh_txA (W := W) (H := H) hs ht
    rw [zoS_h sx, zob_h a2, zoS_h sx, zob_h b2, zoS_h sx, zob_h c2, zoS_h sx, zob_h d2]
    dsimp only
    rw [zob_h (e_sft (fun k hk => (a1 k hk).1) (fun k hk => (b1 k hk).1) (fun k hk => (c1 k hk).1) (fun k hk => (d1 k hk).1) (show p ≤ 256 by omega) (show q ≤ 256 by omega))]
    refine ⟨fun k => sfN (a k) (b k) (c k) (d k) p q, fun k hk => ?_, rfl⟩
    have A1 := (a1 k hk).1
    have B1 := (b1 k hk).1
    have C1 := (c1 k hk).1
    have D1 := (d1 k hk).1
    refine ⟨(sfN_b A1 B1 C1 D1 (by omega) (by omega)).2, ?_⟩
    rw [if_neg e0, p4, q4, (a1 k hk).2, (b1 k hk).2, (c1 k hk).2, (d1 k hk).2, oL_n (by omega), oL_n (by omega), oL_n (by omega), oL_n (by omega), sf_2 A1 B1 C1 D1 (by omega) (by omega)]
    exact (oL_n (by have := (sfN_b A1 B1 C1 D1 (show p ≤ 256 by omega) (show q ≤ 256 by omega)).2; omega)).symm
theorem shl_4 {x : Int64} {l : Nat} (hl : l < 6) : (x <<< ((2 * nI l).toInt64 &&& 63)) * 4 = x <<< ((2 * nI (l + 1)).toInt64 &&& 63) := by
  rcases (show l = 0 ∨ l = 1 ∨ l = 2 ∨ l = 3 ∨ l = 4 ∨ l = 5 by omega) with rfl | rfl | rfl | rfl | rfl | rfl
  · rw [i64_shl (c := 0) (by decide), i64_shl (c := 2) (by decide), Int64.mul_assoc]; rfl
  · rw [i64_shl (c := 2) (by decide), i64_shl (c := 4) (by decide), Int64.mul_assoc]; rfl
  · rw [i64_shl (c := 4) (by decide), i64_shl (c := 6) (by decide), Int64.mul_assoc]; rfl
  · rw [i64_shl (c := 6) (by decide), i64_shl (c := 8) (by decide), Int64.mul_assoc]; rfl
  · rw [i64_shl (c := 8) (by decide), i64_shl (c := 10) (by decide), Int64.mul_assoc]; rfl
  · rw [i64_shl (c := 10) (by decide), i64_shl (c := 12) (by decide), Int64.mul_assoc]; rfl
theorem e_lf25 {m : zMem} {o e : Nat} {wide whole : Int64} (ho : sh0 W H o = some (10, 0)) (h3 : m.1 o 3 = nI e) (he : e ≤ 5) : ∀ (d l fuel : Nat), l + d = e → d < fuel → ∃ z, L_XTexture_levelFor_25 (sh0 W H) fuel o wide ((whole * 16777216) <<< ((2 * nI l).toInt64 &&& 63)) (nI l) m = some (o, wide, z, nI (lvS wide whole d l), m) := by
  intro d
  induction d with
  | zero =>
    intro l fuel hl hf
    obtain ⟨fu, rfl⟩ : ∃ fu, fuel = fu + 1 := ⟨fuel - 1, by omega⟩
    rw [L_XTexture_levelFor_25, zoS_h ho, h3, if_pos (by rw [nI_leD (by omega) (by omega)]; omega)]
    exact ⟨_, rfl⟩
  | succ d ih =>
    intro l fuel hl hf
    obtain ⟨fu, rfl⟩ : ∃ fu, fuel = fu + 1 := ⟨fuel - 1, by omega⟩
    rw [L_XTexture_levelFor_25, zoS_h ho, h3, if_neg (by rw [nI_leD (by omega) (by omega)]; omega), lvS]
    by_cases c : lg_cmp wide ((whole * 16777216) <<< ((2 * nI l).toInt64 &&& 63)) ≤ 0
    · rw [if_pos c, if_pos c]
      exact ⟨_, rfl⟩
    · rw [if_neg c, if_neg c, zoL_e, shl_4 (by omega), nI_p1]
      exact ih (l + 1) fu (by omega) (by omega)
theorem e_lvC {m : zMem} {s t e : Nat} {g : Nat → Nat → Int32} {L : Nat → Nat → Nat} {sp ar : Int64} (hs : gS s) (ht : t < 8) (h : TXC m.1 s g t e L) : F_XTexture_levelFor (sh0 W H) m (txA s t) sp ar = some (nI (lvS ((sp * (nI (sd e 0)).toInt64) * (nI (sd e 0)).toInt64) ar e 0), m) := by
  obtain ⟨h1, h2, h3, h4, h5, h6, h7, h8, h9, h10⟩ := h
  have sx := sh_txA (W := W) (H := H) hs ht
  obtain ⟨z, hz⟩ := e_lf25 (W := W) (H := H) (m := m) (wide := (sp * (nI (sd e 0)).toInt64) * (nI (sd e 0)).toInt64) (whole := ar) sx h6 h1 e 0 zfuel (by omega) (zf_lt (by omega))
  have x0 : (ar * 16777216) <<< ((2 * nI 0).toInt64 &&& 63) = ar * 16777216 := by rw [i64_shl (c := 0) (by decide)]; exact Int64.mul_one _
  rw [x0] at hz
  have hz' : L_XTexture_levelFor_25 (sh0 W H) zfuel (txA s t) ((sp * (nI (sd e 0)).toInt64) * (nI (sd e 0)).toInt64) (ar * 16777216) 0 m = some (txA s t, (sp * (nI (sd e 0)).toInt64) * (nI (sd e 0)).toInt64, z, nI (lvS ((sp * (nI (sd e 0)).toInt64) * (nI (sd e 0)).toInt64) ar e 0), m) := hz
  unfold F_XTexture_levelFor
  rw [zoS_h sx, zoS_h sx, h3, h2, zoL_e, zoL_e, zob_h hz']
end ZSF
