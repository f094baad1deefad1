/-! PURE: a pixel of a piece: the reference -/
def cX (n : Nat) : Int64 := (16 * nI n + 8).toInt64
def cov (A B C : Nat → Int64) (x y : Int64) : Bool := ins B C x y && (ins C A x y && ins A B x y)
def pW0 (A B C : Nat → Int64) (x y : Int64) : Int64 := edg B C x y * A 2
def pW1 (A B C : Nat → Int64) (x y : Int64) : Int64 := edg C A x y * B 2
def pW2 (A B C : Nat → Int64) (x y : Int64) : Int64 := edg A B x y * C 2
def pHH (A B C : Nat → Int64) (x y : Int64) : Int64 := (pW0 A B C x y + pW1 A B C x y) + pW2 A B C x y
def pNr (A B C : Nat → Int64) (whole x y : Int64) : Int64 := zx_fdiv (pHH A B C x y) whole
def pMx (A B C : Nat → Int64) (x y : Int64) (i : Nat) : Int64 := zx_fdiv ((pW0 A B C x y * A i + pW1 A B C x y * B i) + pW2 A B C x y * C i) (pHH A B C x y)
def nwC (ch clear : Int64) (old : Int32) : Int32 := if lg_cmp clear 255 = 0 then ch.toInt32 else (zx_fdiv (ch * clear + old.toInt64 * (255 - clear)) 255).toInt32
/-- the colour's number k that a piece of material mt gives at a pixel -/
def pCh (g : Nat → Nat → Int32) (A B C : Nat → Int64) (whole : Int64) (mt : Nat) (x y : Int64) (k : Nat) : Int64 := chn3 (ownC g A B C whole mt (pMx A B C x y 3) (pMx A B C x y 4) k) (g 5 (4 * mt + k)) (pMx A B C x y 5)
section ZGX
variable {W H : Nat}
theorem e_g396 {m0 : zMem} {at_ : Nat} {nr clear : Int64} (hR0 : RF m0.2.2) (hat : 3 * at_ + 3 ≤ 6912) : ∀ (d k fuel : Nat) (m : zMem), k + d = 3 → d < fuel → frm [1283] [] m0 m → (∀ q, ¬ (3 * at_ ≤ q ∧ q < 3 * at_ + k) → m.1 1283 q = m0.1 1283 q) → (∀ q, q < k → m.1 1283 (3 * at_ + q) = nwC (m0.2.1 1301 q) clear (m0.1 1283 (3 * at_ + q))) → zok (L_MPainter_goOverPixel_396 (sh0 W H) fuel 1285 nr (nI at_) clear (nI k) m) (fun q => q.1 = 1285 ∧ q.2.1 = nr ∧ q.2.2.1 = nI at_ ∧ q.2.2.2.1 = clear ∧ frm [1283] [] m0 q.2.2.2.2.2 ∧ (∀ x, ¬ (3 * at_ ≤ x ∧ x < 3 * at_ + 3) → q.2.2.2.2.2.1 1283 x = m0.1 1283 x) ∧ ∀ k, k < 3 → q.2.2.2.2.2.1 1283 (3 * at_ + k) = nwC (m0.2.1 1301 k) clear (m0.1 1283 (3 * at_ + k))) := by
  intro d
  induction d with
  | zero =>
    intro k fuel m hk hf h1 h2 h3
    obtain ⟨fu, rfl⟩ : ∃ fu, fuel = fu + 1 := ⟨fuel - 1, by omega⟩
    rw [L_MPainter_goOverPixel_396, if_pos (by rw [show (3 : Int32) = nI 3 from rfl, nI_leD (by omega) (by omega)]; omega)]
    obtain rfl : k = 3 := by omega
    exact zok_s ⟨rfl, rfl, rfl, rfl, h1, h2, h3⟩
  | succ d ih =>
    intro k fuel m hk hf h1 h2 h3
    obtain ⟨fu, rfl⟩ : ∃ fu, fuel = fu + 1 := ⟨fuel - 1, by omega⟩
    have hR : RF m.2.2 := by rw [h1.1]; exact hR0
    have eL : m.2.1 = m0.2.1 := funext fun a => h1.2.2 a (by simp)
    have old := h2 (3 * at_ + k) (by omega)
    have c1 := nI_cl (show 3 * at_ + k < 2147483648 by omega)
    have c2 := nI_cl (show k < 2147483648 by omega)
    have fin : zok (L_MPainter_goOverPixel_396 (sh0 W H) fu 1285 nr (nI at_) clear (nI (k + 1)) (mI m 1283 (3 * at_ + k) (nwC (m0.2.1 1301 k) clear (m0.1 1283 (3 * at_ + k))))) (fun q => q.1 = 1285 ∧ q.2.1 = nr ∧ q.2.2.1 = nI at_ ∧ q.2.2.2.1 = clear ∧ frm [1283] [] m0 q.2.2.2.2.2 ∧ (∀ x, ¬ (3 * at_ ≤ x ∧ x < 3 * at_ + 3) → q.2.2.2.2.2.1 1283 x = m0.1 1283 x) ∧ ∀ k, k < 3 → q.2.2.2.2.2.1 1283 (3 * at_ + k) = nwC (m0.2.1 1301 k) clear (m0.1 1283 (3 * at_ + k))) := by
      refine ih (k + 1) fu _ (by omega) (by omega) ⟨h1.1, fun a ha => by rw [mI_o (by simpa using ha)]; exact h1.2.1 a ha, h1.2.2⟩ (fun q hq => ?_) (fun q hq => ?_)
      · rw [mI_v, if_pos rfl, if_neg (by omega)]
        exact h2 q (by omega)
      · rw [mI_v, if_pos rfl]
        by_cases e : q = k
        · rw [if_pos (by omega), e]
        · rw [if_neg (by omega)]
          exact h3 q (by omega)
    rw [L_MPainter_goOverPixel_396, if_neg (by rw [show (3 : Int32) = nI 3 from rfl, nI_leD (by omega) (by omega)]; omega), zoS_h sh_1285, zob_h (rf_1285_3 hR), zoL_e, nI_3, zoS_h sh_1283, nI_ix (by omega) (by decide), c1, old, zoL_e, zoS_h sh_1285, zob_h (rf_1285_3 hR)]
    by_cases e : lg_cmp clear 255 = 0
    · have q : nwC (m0.2.1 1301 k) clear (m0.1 1283 (3 * at_ + k)) = (m0.2.1 1301 k).toInt32 := if_pos e
      rw [q] at fin
      rw [if_pos e, zoS_h sh_1285, zob_h (rf_1285_30 hR), zoS_h sh_1301, nI_ix (by omega) (by decide), c2, zoL_e, zoL_e, zoS_h sh_1283, nI_ix (by omega) (by decide), c1, zoL_e, nI_p1, eL]
      exact fin
    · have q : nwC (m0.2.1 1301 k) clear (m0.1 1283 (3 * at_ + k)) = (zx_fdiv (m0.2.1 1301 k * clear + (m0.1 1283 (3 * at_ + k)).toInt64 * (255 - clear)) 255).toInt32 := if_neg e
      rw [q] at fin
      rw [if_neg e, zoS_h sh_1285, zob_h (rf_1285_30 hR), zoS_h sh_1301, nI_ix (by omega) (by decide), c2, zoL_e, zob_h (e_div (by decide)), zoL_e, zoL_e, zoS_h sh_1283, nI_ix (by omega) (by decide), c1, zoL_e, nI_p1, eL]
      exact fin
/-- what a pixel of a piece changes in the reference -/
def pxU (r : Nat) (A B C : Nat → Int64) (whole : Int64) (mt x y at_ : Nat) (m m' : zMem) : Prop := m'.2.2 = m.2.2 ∧ (∀ k, k ≠ 1283 → m'.1 k = m.1 k) ∧ (∀ k, k ≠ 1284 → k ≠ 1301 → m'.2.1 k = m.2.1 k) ∧ (∀ q, ¬ (3 * at_ ≤ q ∧ q < 3 * at_ + 3) → m'.1 1283 q = m.1 1283 q) ∧ (∀ q, q ≠ at_ → m'.2.1 1284 q = m.2.1 1284 q) ∧ (∀ k, k < 3 → m'.1 1283 (3 * at_ + k) = if cov A B C (cX x) (cX y) = true ∧ (m.2.1 1284 at_).toInt < (pNr A B C whole (cX x) (cX y)).toInt then nwC (pCh (fun a => m.1 (r + a)) A B C whole mt (cX x) (cX y) k) (m.1 (r + 5) (4 * mt + 3)).toInt64 (m.1 1283 (3 * at_ + k)) else m.1 1283 (3 * at_ + k)) ∧ m'.2.1 1284 at_ = if (cov A B C (cX x) (cX y) = true ∧ (m.2.1 1284 at_).toInt < (pNr A B C whole (cX x) (cX y)).toInt) ∧ m.1 (r + 5) (4 * mt + 3) = 255 then pNr A B C whole (cX x) (cX y) else m.2.1 1284 at_
theorem pxU_0 {r : Nat} {A B C : Nat → Int64} {whole : Int64} {mt x y at_ : Nat} {m : zMem} (h : ¬ (cov A B C (cX x) (cX y) = true ∧ (m.2.1 1284 at_).toInt < (pNr A B C whole (cX x) (cX y)).toInt)) : pxU r A B C whole mt x y at_ m m := ⟨rfl, fun _ _ => rfl, fun _ _ _ => rfl, fun _ _ => rfl, fun _ _ => rfl, fun k _ => by rw [if_neg h], by rw [if_neg (fun q => h q.1)]⟩
theorem lgc_gt2 {x y : Int64} : (0 < lg_cmp x y) ↔ y.toInt < x.toInt := by
  have q0 : (0 : Int32).toInt = 0 := rfl
  have h := lgc_le (x := x) (y := y)
  rw [i64_lt, i32_le, q0] at h
  rw [i32_lt, q0]
  constructor
  · intro q
    by_cases e : y.toInt < x.toInt
    · exact e
    · have := h.mpr e; omega
  · intro q
    by_cases e : 0 < (lg_cmp x y).toInt
    · exact e
    · exact absurd q (h.mp (by omega))
set_option maxHeartbeats 8000000 in
/-- a pixel of a piece, painted -/
theorem e_gpx {m : zMem} {r nd b c x y : Nat} {fc : Int32} {whole : Int64} {l : List (Nat → Int64)} {f w8 h8 : Int64} (hr : gM r) (hR : RF m.2.2) (hs : m.2.2 1285 5 = some r) (hW : Wsc (fun a => m.1 (r + a))) (hX : Wtx (fun a => m.1 (r + a))) (hnd : nd < cn (fun a => m.1 (r + a)) 3) (hmd : 0 ≤ (m.1 (r + 16) nd).toInt) (hl : l.length ≤ 19) (ha : arr (m.2.1 1295) l) (hp : prj f w8 h8 l m.2.1) (h0 : 0 < l.length) (hb : b < l.length) (hc : c < l.length) (hwid : m.1 1285 1 = nI W) (hW48 : W ≤ 48) (hH48 : H ≤ 48) (hx : x < W) (hy : y < H) (hpt : ¬ m.1 1285 10 = 0) (hwh : whole ≠ 0) (hh : cov (pcr f w8 h8 (l.getD 0 oF)) (pcr f w8 h8 (l.getD b oF)) (pcr f w8 h8 (l.getD c oF)) (cX x) (cX y) = true → pHH (pcr f w8 h8 (l.getD 0 oF)) (pcr f w8 h8 (l.getD b oF)) (pcr f w8 h8 (l.getD c oF)) (cX x) (cX y) ≠ 0) : zok (F_MPainter_goOverPixel (sh0 W H) m 1285 (nI nd) fc (nI b) (nI c) whole (nI x) (nI y)) (fun m' => pxU r (pcr f w8 h8 (l.getD 0 oF)) (pcr f w8 h8 (l.getD b oF)) (pcr f w8 h8 (l.getD c oF)) whole (mtN (fun a => m.1 (r + a)) nd) x y (W * y + x) m m') := by
  have N := Wsc_n hW
  obtain ⟨_, _, _, hmt⟩ := Wsc_ms hW hnd hmd
  have hat : W * y + x < 2304 := by
    have : W * y + W ≤ W * H := by
      have := Nat.mul_le_mul_left W (show y + 1 ≤ H by omega)
      rw [Nat.mul_add] at this
      omega
    have : W * H ≤ 48 * 48 := Nat.mul_le_mul hW48 hH48
    omega
  have i1 := e_ins (W := W) (H := H) (m := m) (a := b) (b := c) (x := cX x) (y := cX y) hR hl hp hb hc
  have i2 := e_ins (W := W) (H := H) (m := m) (a := c) (b := 0) (x := cX x) (y := cX y) hR hl hp hc h0
  have i3 := e_ins (W := W) (H := H) (m := m) (a := 0) (b := b) (x := cX x) (y := cX y) hR hl hp h0 hb
  have g1 := e_edg (W := W) (H := H) (m := m) (a := b) (b := c) (x := cX x) (y := cX y) hR hl hp hb hc
  have g2 := e_edg (W := W) (H := H) (m := m) (a := c) (b := 0) (x := cX x) (y := cX y) hR hl hp hc h0
  have g3 := e_edg (W := W) (H := H) (m := m) (a := 0) (b := b) (x := cX x) (y := cX y) hR hl hp h0 hb
  have r0 := (hp 0 h0).2.2
  have rb := (hp b hb).2.2
  have rc := (hp c hc).2.2
  have u0 : ∀ k, 3 ≤ k → k < 6 → m.2.1 1295 k = pcr f w8 h8 (l.getD 0 oF) k := fun k k1 k2 => by
    have := ha 0 h0 k k2
    rw [show 6 * 0 + k = k by omega] at this
    rw [this]
    unfold pcr
    rw [if_neg (by omega), if_neg (by omega), if_neg (by omega)]
  have ub : ∀ k, 3 ≤ k → k < 6 → m.2.1 1295 (6 * b + k) = pcr f w8 h8 (l.getD b oF) k := fun k k1 k2 => by
    rw [ha b hb k k2]
    unfold pcr
    rw [if_neg (by omega), if_neg (by omega), if_neg (by omega)]
  have uc : ∀ k, 3 ≤ k → k < 6 → m.2.1 1295 (6 * c + k) = pcr f w8 h8 (l.getD c oF) k := fun k k1 k2 => by
    rw [ha c hc k k2]
    unfold pcr
    rw [if_neg (by omega), if_neg (by omega), if_neg (by omega)]
  have p2 : ∀ p : Nat → Int64, prR p = pcr f w8 h8 p 2 := fun p => rfl
  have col := fun (u v lt : Int64) => e_col (W := W) (H := H) (m := m) (mt := mtN (fun a => m.1 (r + a)) nd) (b := b) (c := c) (whole := whole) (u := u) (v := v) (lt := lt) (l := l) (f := f) (w8 := w8) (h8 := h8) hr hR hs hW hX hmt hl ha h0 hb hc
  rw [p2] at r0 rb rc
  generalize pcr f w8 h8 (l.getD 0 oF) = A at *
  generalize pcr f w8 h8 (l.getD b oF) = B at *
  generalize pcr f w8 h8 (l.getD c oF) = C at *
  have z0 : nI 0 = (0 : Int32) := rfl
  rw [z0] at i2 i3 g2 g3
  have cb := nI_cl (show b < 2147483648 by omega)
  have cc := nI_cl (show c < 2147483648 by omega)
  have k0 : (0 : Int32).toNatClampNeg = 0 := rfl
  unfold F_MPainter_goOverPixel
  rw [zoL_e, zoL_e, show (16 * nI x + 8).toInt64 = cX x from rfl, show (16 * nI y + 8).toInt64 = cX y from rfl, zoS_h sh_1285, zob_h i1]
  dsimp only
  by_cases v1 : ins B C (cX x) (cX y) = true
  rotate_left
  · rw [if_pos (b32_0.mpr (by simpa using v1))]
    exact zok_s (pxU_0 (fun q => v1 (by have := q.1; unfold cov at this; simp at this; exact this.1)))
  rw [if_neg (by rw [v1]; decide), zoS_h sh_1285, zob_h i2]
  dsimp only
  by_cases v2 : ins C A (cX x) (cX y) = true
  rotate_left
  · rw [if_pos (b32_0.mpr (by simpa using v2))]
    exact zok_s (pxU_0 (fun q => v2 (by have := q.1; unfold cov at this; simp at this; exact this.2.1)))
  rw [if_neg (by rw [v2]; decide), zoS_h sh_1285, zob_h i3]
  dsimp only
  by_cases v3 : ins A B (cX x) (cX y) = true
  rotate_left
  · rw [if_pos (b32_0.mpr (by simpa using v3))]
    exact zok_s (pxU_0 (fun q => v3 (by have := q.1; unfold cov at this; simp at this; exact this.2.2)))
  have hcv : cov A B C (cX x) (cX y) = true := by unfold cov; simp [v1, v2, v3]
  have hhh := hh hcv
  rw [if_neg (by rw [v3]; decide), zoS_h sh_1285, zob_h g1, zoS_h sh_1285, zob_h (rf_1285_29 hR), zoS_h sh_1300, if_neg (by decide), k0, r0, zoL_e, zoS_h sh_1285, zob_h g2, zoS_h sh_1285, zob_h (rf_1285_29 hR), zoS_h sh_1300, nI_ix (by omega) (by decide), cb, rb, zoL_e, zoS_h sh_1285, zob_h g3, zoS_h sh_1285, zob_h (rf_1285_29 hR), zoS_h sh_1300, nI_ix (by omega) (by decide), cc, rc, zoL_e, zoL_e]
  dsimp only
  rw [show edg B C (cX x) (cX y) * A 2 = pW0 A B C (cX x) (cX y) from rfl, show edg C A (cX x) (cX y) * B 2 = pW1 A B C (cX x) (cX y) from rfl, show edg A B (cX x) (cX y) * C 2 = pW2 A B C (cX x) (cX y) from rfl, show pW0 A B C (cX x) (cX y) + pW1 A B C (cX x) (cX y) + pW2 A B C (cX x) (cX y) = pHH A B C (cX x) (cX y) from rfl, zob_h (e_div hwh)]
  dsimp only
  rw [show zx_fdiv (pHH A B C (cX x) (cX y)) whole = pNr A B C whole (cX x) (cX y) from rfl, zoS_h sh_1285, if_neg hpt, zoS_h sh_1285, zoL_e, hwid, nI_mul, show nI (W * y) + nI x = nI (W * y + x) from (Int32.ofNat_add _ _).symm, zoS_h sh_1285, zob_h (rf_1285_4 hR), zoS_h sh_1284, nI_ix (by omega) (by decide), nI_cl (n := W * y + x) (by omega)]
  by_cases v4 : (m.2.1 1284 (W * y + x)).toInt < (pNr A B C whole (cX x) (cX y)).toInt
  rotate_left
  · rw [if_neg (fun q => v4 (lgc_gt2.mp q))]
    exact zok_s (pxU_0 (fun q => v4 q.2))
  rw [if_pos (lgc_gt2.mpr v4)]
  have gb3 : 6 * nI b + 3 = nI (6 * b + 3) := nI_6 b 3
  have gb4 : 6 * nI b + 4 = nI (6 * b + 4) := nI_6 b 4
  have gb5 : 6 * nI b + 5 = nI (6 * b + 5) := nI_6 b 5
  have gc3 : 6 * nI c + 3 = nI (6 * c + 3) := nI_6 c 3
  have gc4 : 6 * nI c + 4 = nI (6 * c + 4) := nI_6 c 4
  have gc5 : 6 * nI c + 5 = nI (6 * c + 5) := nI_6 c 5
  have nb3 := nI_cl (show 6 * b + 3 < 2147483648 by omega)
  have nb4 := nI_cl (show 6 * b + 4 < 2147483648 by omega)
  have nb5 := nI_cl (show 6 * b + 5 < 2147483648 by omega)
  have nc3 := nI_cl (show 6 * c + 3 < 2147483648 by omega)
  have nc4 := nI_cl (show 6 * c + 4 < 2147483648 by omega)
  have nc5 := nI_cl (show 6 * c + 5 < 2147483648 by omega)
  have k3 : (3 : Int32).toNatClampNeg = 3 := rfl
  have k4 : (4 : Int32).toNatClampNeg = 4 := rfl
  have k5 : (5 : Int32).toNatClampNeg = 5 := rfl
  rw [zoS_h sh_1285, zob_h (rf_1285_23 hR), zoS_h sh_1295, if_neg (by decide), zoS_h sh_1285, zob_h (rf_1285_23 hR), zoL_e, gb3, zoS_h sh_1295, nI_ix (by omega) (by decide), zoS_h sh_1285, zob_h (rf_1285_23 hR), zoL_e, gc3, zoS_h sh_1295, nI_ix (by omega) (by decide), zoL_e, nb3, nc3, k3, u0 3 (by decide) (by decide), ub 3 (by decide) (by decide), uc 3 (by decide) (by decide), zob_h (e_div hhh)]
  dsimp only
  rw [zoS_h sh_1285, zob_h (rf_1285_23 hR), zoS_h sh_1295, if_neg (by decide), zoS_h sh_1285, zob_h (rf_1285_23 hR), zoL_e, gb4, zoS_h sh_1295, nI_ix (by omega) (by decide), zoS_h sh_1285, zob_h (rf_1285_23 hR), zoL_e, gc4, zoS_h sh_1295, nI_ix (by omega) (by decide), zoL_e, nb4, nc4, k4, u0 4 (by decide) (by decide), ub 4 (by decide) (by decide), uc 4 (by decide) (by decide), zob_h (e_div hhh)]
  dsimp only
  rw [zoS_h sh_1285, zob_h (rf_1285_23 hR), zoS_h sh_1295, if_neg (by decide), zoS_h sh_1285, zob_h (rf_1285_23 hR), zoL_e, gb5, zoS_h sh_1295, nI_ix (by omega) (by decide), zoS_h sh_1285, zob_h (rf_1285_23 hR), zoL_e, gc5, zoS_h sh_1295, nI_ix (by omega) (by decide), zoL_e, nb5, nc5, k5, u0 5 (by decide) (by decide), ub 5 (by decide) (by decide), uc 5 (by decide) (by decide), zob_h (e_div hhh)]
  dsimp only
  rw [zoS_h sh_1285, zob_h (e_mto hR hs hr hW hnd hmd), zoS_h sh_1285]
  dsimp only
  refine zok_b (col _ _ _) (fun m1 h1 => ?_)
  obtain ⟨f1, f2⟩ := h1
  have hR1 : RF m1.2.2 := by rw [f1.1]; exact hR
  have hs1 : m1.2.2 1285 5 = some r := by rw [f1.1]; exact hs
  have e1 : m1.1 = m.1 := funext fun a => f1.2.1 a (by simp)
  have gm : 4 * nI (mtN (fun a => m.1 (r + a)) nd) + 3 = nI (4 * mtN (fun a => m.1 (r + a)) nd + 3) := nI_4 _ 3
  rw [zoS_h sh_1285, zob_h hs1, zoS_h (sh_m0 hr), zob_h (rf_m9 hR1 hr), zoL_e, gm, zoS_h (sh_m5 hr), nI_ix (by omega) (by decide), nI_cl (n := 4 * mtN (fun a => m.1 (r + a)) nd + 3) (by omega), zoL_e, e1]
  refine zok_b (show zok (L_MPainter_goOverPixel_396 (sh0 W H) zfuel 1285 _ (nI (W * y + x)) _ 0 m1) _ from e_g396 (W := W) (H := H) (m0 := m1) (at_ := W * y + x) hR1 (by omega) 3 0 zfuel m1 (by decide) (zf_lt (by decide)) frm_r (fun _ _ => rfl) (fun q hq => by omega)) (fun q hq => ?_)
  obtain ⟨q0, q1, q2, q3, q4, m2⟩ := q
  obtain ⟨w1, w2, w3, w4, w5, w6, w7⟩ := hq
  simp only at w1 w2 w3 w4 w5 w6 w7
  subst w1 w2 w3 w4
  have hR2 : RF m2.2.2 := by rw [w5.1]; exact hR1
  have eL2 : m2.2.1 = m1.2.1 := funext fun a => w5.2.2 a (by simp)
  have hcol : ∀ k, k < 3 → m2.1 1283 (3 * (W * y + x) + k) = if cov A B C (cX x) (cX y) = true ∧ (m.2.1 1284 (W * y + x)).toInt < (pNr A B C whole (cX x) (cX y)).toInt then nwC (pCh (fun a => m.1 (r + a)) A B C whole (mtN (fun a => m.1 (r + a)) nd) (cX x) (cX y) k) (m.1 (r + 5) (4 * mtN (fun a => m.1 (r + a)) nd + 3)).toInt64 (m.1 1283 (3 * (W * y + x) + k)) else m.1 1283 (3 * (W * y + x) + k) := fun k hk => by
    rw [if_pos ⟨hcv, v4⟩, w7 k hk, f2 k hk, e1]
    rfl
  have c255 : (lg_cmp (m.1 (r + 5) (4 * mtN (fun a => m.1 (r + a)) nd + 3)).toInt64 255 = 0) ↔ m.1 (r + 5) (4 * mtN (fun a => m.1 (r + a)) nd + 3) = 255 := by
    rw [lgc_eq, Int32.toInt_toInt64]
    exact ⟨fun q => i32_ext q, fun q => by rw [q]; rfl⟩
  dsimp only
  by_cases v5 : m.1 (r + 5) (4 * mtN (fun a => m.1 (r + a)) nd + 3) = 255
  · rw [if_pos (c255.mpr v5), zoS_h sh_1285, zob_h (rf_1285_4 hR2), zoS_h sh_1284, nI_ix (by omega) (by decide), nI_cl (n := W * y + x) (by omega), zoL_e]
    refine zok_s ⟨by rw [mL_R, w5.1, f1.1], fun k hk => by rw [mL_1, w5.2.1 k (by simpa using hk), e1], fun k k1 k2 => by rw [mL_o k1, eL2, f1.2.2 k (by simpa using k2)], fun q hq => by rw [mL_1, w6 q hq, e1], fun q hq => by rw [mL_v, if_pos rfl, if_neg hq, eL2, f1.2.2 1284 (by decide)], fun k hk => by rw [mL_1]; exact hcol k hk, ?_⟩
    rw [mL_v, if_pos rfl, if_pos rfl, if_pos ⟨⟨hcv, v4⟩, v5⟩]
  · rw [if_neg (fun q => v5 (c255.mp q))]
    refine zok_s ⟨by rw [w5.1, f1.1], fun k hk => by rw [w5.2.1 k (by simpa using hk), e1], fun k k1 k2 => by rw [eL2, f1.2.2 k (by simpa using k2)], fun q hq => by rw [w6 q hq, e1], fun q hq => by rw [eL2, f1.2.2 1284 (by decide)], hcol, ?_⟩
    rw [if_neg (fun q => v5 q.2), eL2, f1.2.2 1284 (by decide)]
end ZGX
