/-! PURE: bytes in a number; the class's textures -/
theorem i32_and255 (k : Int32) : (k &&& 255).toInt = k.toInt % 256 := by
  have e : (k &&& 255).toBitVec.toNat = k.toBitVec.toNat % 256 := by
    rw [Int32.toBitVec_and, BitVec.toNat_and]
    exact Nat.and_two_pow_sub_one_eq_mod _ 8
  have h1 : k.toInt = if 2 * k.toBitVec.toNat < 2 ^ 32 then (k.toBitVec.toNat : Int) else (k.toBitVec.toNat : Int) - (2 ^ 32 : Nat) := BitVec.toInt_eq_toNat_cond _
  have h2 : (k &&& 255).toInt = if 2 * (k &&& 255).toBitVec.toNat < 2 ^ 32 then ((k &&& 255).toBitVec.toNat : Int) else ((k &&& 255).toBitVec.toNat : Int) - (2 ^ 32 : Nat) := BitVec.toInt_eq_toNat_cond _
  rw [e] at h2
  rw [h2, h1]
  split <;> split <;> omega
theorem i32_shr (y k : Int32) (c : Nat) (h : (k.toBitVec.smod 32).toNat = c) : (y >>> k).toInt = y.toInt / (2 : Int) ^ c := by
  show (y.toBitVec.sshiftRight' (k.toBitVec.smod 32)).toInt = y.toBitVec.toInt / (2 : Int) ^ c
  rw [BitVec.toInt_sshiftRight', h, Int.shiftRight_eq_div_pow]
  norm_cast
theorem bt0 (y : Int32) : ((y >>> (0 &&& 31)) &&& 255).toInt = y.toInt % 256 := by
  rw [i32_and255, i32_shr y _ 0 (by decide)]
  simp
theorem bt8 (y : Int32) : ((y >>> (8 &&& 31)) &&& 255).toInt = y.toInt / 256 % 256 := by
  rw [i32_and255, i32_shr y _ 8 (by decide)]
  rfl
theorem bt16 (y : Int32) : ((y >>> (16 &&& 31)) &&& 255).toInt = y.toInt / 65536 % 256 := by
  rw [i32_and255, i32_shr y _ 16 (by decide)]
  rfl
theorem nI_bv (a : Nat) : (nI a).toBitVec = BitVec.ofNat 32 a := rfl
theorem bv_ext {a b : Int32} (h : a.toBitVec.toNat = b.toBitVec.toNat) : a = b := Int32.toBitVec_inj.mp (BitVec.eq_of_toNat_eq h)
theorem nI_shl8 {a : Nat} (h : a < 256) : nI a <<< (8 &&& 31) = nI (a * 256) := by
  apply bv_ext
  show (BitVec.ofNat 32 a <<< ((8 : Int32) &&& 31).toBitVec.smod 32).toNat = (BitVec.ofNat 32 (a * 256)).toNat
  rw [show (((8 : Int32) &&& 31).toBitVec.smod 32) = 8#32 by decide, BitVec.shiftLeft_eq', BitVec.toNat_shiftLeft, BitVec.toNat_ofNat, BitVec.toNat_ofNat, BitVec.toNat_ofNat, Nat.shiftLeft_eq]
  show a % 4294967296 * 256 % 4294967296 = a * 256 % 4294967296
  omega
theorem nI_shl16 {a : Nat} (h : a < 256) : nI a <<< (16 &&& 31) = nI (a * 65536) := by
  apply bv_ext
  show (BitVec.ofNat 32 a <<< ((16 : Int32) &&& 31).toBitVec.smod 32).toNat = (BitVec.ofNat 32 (a * 65536)).toNat
  rw [show (((16 : Int32) &&& 31).toBitVec.smod 32) = 16#32 by decide, BitVec.shiftLeft_eq', BitVec.toNat_shiftLeft, BitVec.toNat_ofNat, BitVec.toNat_ofNat, BitVec.toNat_ofNat, Nat.shiftLeft_eq]
  show a % 4294967296 * 65536 % 4294967296 = a * 65536 % 4294967296
  omega
theorem nI_shl0 {a : Nat} : nI a <<< (0 &&& 31) = nI a := by
  apply bv_ext
  show (BitVec.ofNat 32 a <<< ((0 : Int32) &&& 31).toBitVec.smod 32).toNat = (BitVec.ofNat 32 a).toNat
  rw [show (((0 : Int32) &&& 31).toBitVec.smod 32) = 0#32 by decide, BitVec.shiftLeft_eq', BitVec.toNat_shiftLeft, BitVec.toNat_ofNat, show (0#32).toNat = 0 by decide, Nat.shiftLeft_eq]
  omega
theorem nI_or {a b c : Nat} (k : Nat) (hc : a = c * 2 ^ k) (hb : b < 2 ^ k) (hab : a + b < 4294967296) : nI a ||| nI b = nI (a + b) := by
  apply bv_ext
  rw [Int32.toBitVec_or, BitVec.toNat_or, nI_bv, nI_bv, nI_bv, BitVec.toNat_ofNat, BitVec.toNat_ofNat, BitVec.toNat_ofNat]
  rw [show a % 2 ^ 32 = a from Nat.mod_eq_of_lt (by omega), show b % 2 ^ 32 = b from Nat.mod_eq_of_lt (by omega), show (a + b) % 2 ^ 32 = a + b from Nat.mod_eq_of_lt (by omega)]
  rw [hc, ← Nat.shiftLeft_eq, ← Nat.shiftLeft_add_eq_or_of_lt hb]
/-- three bytes in a number -/
def pk (r g b : Nat) : Int32 := nI (r * 65536 + g * 256 + b)
theorem pk_toInt {r g b : Nat} (hr : r < 256) (hg : g < 256) (hb : b < 256) : (pk r g b).toInt = ((r * 65536 + g * 256 + b : Nat) : Int) := nI_toInt (by omega)
theorem pk_16 {r g b : Nat} (hr : r < 256) (hg : g < 256) (hb : b < 256) : ((pk r g b) >>> (16 &&& 31)) &&& 255 = nI r := by
  apply i32_ext
  rw [bt16, pk_toInt hr hg hb, nI_toInt (by omega)]
  omega
theorem pk_8 {r g b : Nat} (hr : r < 256) (hg : g < 256) (hb : b < 256) : ((pk r g b) >>> (8 &&& 31)) &&& 255 = nI g := by
  apply i32_ext
  rw [bt8, pk_toInt hr hg hb, nI_toInt (by omega)]
  omega
theorem pk_0 {r g b : Nat} (hr : r < 256) (hg : g < 256) (hb : b < 256) : ((pk r g b) >>> (0 &&& 31)) &&& 255 = nI b := by
  apply i32_ext
  rw [bt0, pk_toInt hr hg hb, nI_toInt (by omega)]
  omega
theorem pk_mk {r g b : Nat} (hr : r < 256) (hg : g < 256) (hb : b < 256) : ((nI r <<< (16 &&& 31)) ||| (nI g <<< (8 &&& 31))) ||| nI b = pk r g b := by
  rw [nI_shl16 hr, nI_shl8 hg, nI_or (c := r) 16 rfl (by omega) (by omega), nI_or (c := r * 256 + g) 8 (by omega) (by omega) (by omega)]
  rfl
theorem pk_up {r g b : Nat} (hr : r < 256) (hg : g < 256) (hb : b < 256) : (((0 : Int32) ||| (nI b <<< (0 &&& 31))) ||| (nI g <<< (8 &&& 31))) ||| (nI r <<< (16 &&& 31)) = pk r g b := by
  rw [nI_shl0, nI_shl16 hr, nI_shl8 hg, Int32.zero_or, Int32.or_comm (nI b), nI_or (c := g) 8 rfl (by omega) (by omega), Int32.or_comm (nI (g * 256 + b)), nI_or (c := r) 16 rfl (by omega) (by omega)]
  unfold pk
  rw [Nat.add_assoc]
/-- the mean of four, byte by byte -/
def mnS (v a b c d : Int32) : Int32 := ((((a >>> (v &&& 31)) &&& 255) + ((b >>> (v &&& 31)) &&& 255)) + ((c >>> (v &&& 31)) &&& 255)) + ((d >>> (v &&& 31)) &&& 255)
def mnF (a b c d : Int32) : Int32 := (((0 : Int32) ||| ((mnS 0 a b c d / 4) <<< (0 &&& 31))) ||| ((mnS 8 a b c d / 4) <<< (8 &&& 31))) ||| ((mnS 16 a b c d / 4) <<< (16 &&& 31))
theorem e_mean {sh : zSh} {mm : zMem} (a b c d : Int32) : F_XTexture_mean sh mm a b c d = some (mnF a b c d, mm) := by
  have c1 : ((16 : Int32) < 0) = False := eq_false (by decide)
  have c2 : ((16 : Int32) < 0 + 8) = False := eq_false (by decide)
  have c3 : ((16 : Int32) < 0 + 8 + 8) = False := eq_false (by decide)
  have c4 : ((16 : Int32) < 0 + 8 + 8 + 8) = True := eq_true (by decide)
  have f1 : zfuel = 999996 + 1 + 1 + 1 + 1 := rfl
  unfold F_XTexture_mean
  rw [f1]
  simp only [L_XTexture_mean_6, c1, c2, c3, c4, ↓reduceIte, zoL_e, zob_e]
  simp only [show (0 : Int32) + 8 = 8 by decide, show (8 : Int32) + 8 = 16 by decide]
  unfold mnF mnS
  rfl
theorem mnF_pk {r1 g1 b1 r2 g2 b2 r3 g3 b3 r4 g4 b4 : Nat} (h1 : r1 < 256 ∧ g1 < 256 ∧ b1 < 256) (h2 : r2 < 256 ∧ g2 < 256 ∧ b2 < 256) (h3 : r3 < 256 ∧ g3 < 256 ∧ b3 < 256) (h4 : r4 < 256 ∧ g4 < 256 ∧ b4 < 256) : mnF (pk r1 g1 b1) (pk r2 g2 b2) (pk r3 g3 b3) (pk r4 g4 b4) = pk ((r1 + r2 + r3 + r4) / 4) ((g1 + g2 + g3 + g4) / 4) ((b1 + b2 + b3 + b4) / 4) := by
  have d4 : ∀ x : Nat, x < 2000 → nI x / (4 : Int32) = nI (x / 4) := fun x hx => nI_div (b := 4) (by omega) (by decide) (by decide)
  unfold mnF mnS
  rw [pk_16 h1.1 h1.2.1 h1.2.2, pk_16 h2.1 h2.2.1 h2.2.2, pk_16 h3.1 h3.2.1 h3.2.2, pk_16 h4.1 h4.2.1 h4.2.2, pk_8 h1.1 h1.2.1 h1.2.2, pk_8 h2.1 h2.2.1 h2.2.2, pk_8 h3.1 h3.2.1 h3.2.2, pk_8 h4.1 h4.2.1 h4.2.2, pk_0 h1.1 h1.2.1 h1.2.2, pk_0 h2.1 h2.2.1 h2.2.2, pk_0 h3.1 h3.2.1 h3.2.2, pk_0 h4.1 h4.2.1 h4.2.2]
  simp only [nI_add]
  rw [d4 _ (by omega), d4 _ (by omega), d4 _ (by omega)]
  exact pk_up (by omega) (by omega) (by omega)
