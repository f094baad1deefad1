/-! PURE: the class's order of nodes -/
/-- what the class's scene s has of the rows g, for drawing -/
def Cls (f : Nat → Nat → Int32) (s : Nat) (g : Nat → Nat → Int32) : Prop := Wsc g ∧ (∀ c, c < 5 → f (s + 1) c = g 0 c) ∧ (∀ i, i < cn g 1 → RmtG f s g i) ∧ (∀ i, i < cn g 2 → RmsG f s g i) ∧ (∀ i, i < cn g 3 → RndG f s g i) ∧ Rcam f s g ∧ Rlmp f s g
theorem Cls_of {f : Nat → Nat → Int32} {s : Nat} {g : Nat → Nat → Int32} (h : Rsc f s g) : Cls f s g := by
  obtain ⟨⟨h1, _, h3, h4, _⟩, h6, h7, h8⟩ := h
  exact ⟨⟨fun c hc => (h1 c hc).2, fun i hi => (h3 i hi).2, fun i hi => (h4 i hi).2, fun i hi => (h6 i hi).2, h7.2, h8.2⟩, fun c hc => (h1 c hc).1, fun i hi => (h3 i hi).1, fun i hi => (h4 i hi).1, fun i hi => (h6 i hi).1, h7.1, h8.1⟩
def gBf (g : Nat → Nat → Int32) (ky : Nat → Int64) (a b : Nat) : Bool := if sol g a = sol g b then (if sol g a then decide (ky a < ky b) else decide (ky b < ky a)) else sol g a
theorem gB_a {g : Nat → Nat → Int32} {ky : Nat → Int64} {a b : Nat} (h : b < a) : gBf g ky a b = ahd g ky a b := by
  unfold gBf ahd
  by_cases e : sol g a = sol g b
  · rw [if_pos e, if_pos e]
    by_cases e2 : ky a = ky b
    · rw [if_pos e2, e2, decide_eq_false (show ¬ a < b by omega), decide_eq_false (Int64.lt_irrefl)]
      split <;> rfl
    · rw [if_neg e2]
  · rw [if_neg e, if_neg e]
section ZSI
variable {W H : Nat}
theorem e_cmt {m : zMem} {s i : Nat} {g : Nat → Nat → Int32} (hs : gS s) (hR : RF m.2.2) (h : Cls m.1 s g) (hi : i < cn g 3) (hm : 0 ≤ (g 16 i).toInt) : F_XScene_materialOf (sh0 W H) m s (nI i) = some (s + (4 + mtN g i), m) := by
  have N := Wsc_n h.1
  obtain ⟨a1, a2, a3, a4⟩ := Wsc_ms h.1 hi hm
  obtain ⟨_, n2, _⟩ := h.2.2.2.2.1 i hi
  obtain ⟨n3, _⟩ := h.2.2.2.1 _ a2
  unfold F_XScene_materialOf
  rw [zoS_h (sh_s0 hs), zob_h (rf_s2 hR hs), zoS_h (sh_s0 hs), zob_h (rf_s3 hR hs), zoS_h (sh_s0 hs), zob_h (rf_s4 hR hs), zoR_h (sh_s21 hs) (by decide), nI_ix (by omega) (by decide), nI_cl (n := i) (by omega), zob_h (rf_nd hR hs (by omega)), zoS_h (sh_ndA hs (by omega)), zoL_e, n2, a1, zoR_h (sh_s20 hs) (by decide), nI_ix (by omega) (by decide), nI_cl (n := msN g i) (by omega), zob_h (rf_ms hR hs (by omega)), zoS_h (sh_msA hs (by omega)), zoL_e, n3, a3, zoR_h (sh_s3 hs) (by decide), nI_ix (by omega) (by decide), nI_cl (n := mtN g i) (by omega), zob_h (rf_mt hR hs (by omega))]
/-- the class's matrices of the nodes that are seen -/
def sgt (f : Nat → Nat → Int32) (mw : Nat → Nat → Int64) (vis : Nat → Bool) (n : Nat) : Prop := ∀ i, i < n → vis i = true → ∀ k, k < 12 → f (1127 + i) k = (mw i k).toInt32 ∧ (mw i k).toInt32.toInt64 = mw i k
theorem i32_64lt {a b : Int32} {x y : Int64} (ha : a.toInt64 = x) (hb : b.toInt64 = y) : (b ≤ a) ↔ ¬ x < y := by
  rw [i32_le, i64_lt, ← ha, ← hb, Int32.toInt_toInt64, Int32.toInt_toInt64]
  omega
theorem e_gB {m : zMem} {s a b : Nat} {g : Nat → Nat → Int32} {mw : Nat → Nat → Int64} {vis : Nat → Bool} {n : Nat} (hs : gS s) (hR : RF m.2.2) (h7 : m.2.2 1121 7 = some s) (h : Cls m.1 s g) (hn : n ≤ 48) (hsg : sgt m.1 mw vis n) (ha : a < cn g 3) (hb : b < cn g 3) (han : a < n) (hbn : b < n) (hva : vis a = true) (hvb : vis b = true) (hma : 0 ≤ (g 16 a).toInt) (hmb : 0 ≤ (g 16 b).toInt) : F_XSight_goesBefore (sh0 W H) m 1121 (nI a) (nI b) = some (b32 (gBf g (fun i => mw i 11) a b), m) := by
  have N := Wsc_n h.1
  obtain ⟨_, _, _, a4⟩ := Wsc_ms h.1 ha hma
  obtain ⟨_, _, _, b4⟩ := Wsc_ms h.1 hb hmb
  have mta := (h.2.2.1 _ a4).1 3 (by decide)
  have mtb := (h.2.2.1 _ b4).1 3 (by decide)
  have ea := e_cmt (W := W) (H := H) hs hR h ha hma
  have eb := e_cmt (W := W) (H := H) hs hR h hb hmb
  obtain ⟨sa, sa'⟩ := hsg a han hva 11 (by decide)
  obtain ⟨sb, sb'⟩ := hsg b hbn hvb 11 (by decide)
  have k3 : (3 : Int32).toNatClampNeg = 3 := rfl
  have k11 : (11 : Int32).toNatClampNeg = 11 := rfl
  have ra : m.2.2 1126 a = some (1127 + a) := rf_1126 hR (by omega)
  have rb : m.2.2 1126 b = some (1127 + b) := rf_1126 hR (by omega)
  have ca := nI_cl (show a < 2147483648 by omega)
  have cb := nI_cl (show b < 2147483648 by omega)
  unfold F_XSight_goesBefore gBf sol
  rw [zoS_h sh_1121, zob_h h7, zoS_h (sh_s0 hs), zob_h ea, zoS_h (sh_smt hs (by omega)), if_neg (by decide), k3]
  dsimp only
  rw [mta]
  by_cases e1 : g 5 (4 * mtN g a + 3) = 255
  · rw [if_pos e1, zoS_h sh_1121, zob_h h7, zoS_h (sh_s0 hs), zob_h eb, zoS_h (sh_smt hs (by omega)), if_neg (by decide)]
    dsimp only
    rw [mtb]
    by_cases e2 : g 5 (4 * mtN g b + 3) = 255
    · rw [if_pos e2, zoS_h sh_1121, zob_h (rf_1121_9 hR), zoR_h sh_1126 (by decide), nI_ix (by omega) (by decide), ca, zob_h ra, zoS_h (sh_sg (by omega)), if_neg (by decide), zoS_h sh_1121, zob_h (rf_1121_9 hR), zoR_h sh_1126 (by decide), nI_ix (by omega) (by decide), cb, zob_h rb, zoS_h (sh_sg (by omega)), if_neg (by decide), k11, sa, sb]
      simp only [e1, e2, decide_true, ↓reduceIte]
      by_cases c : mw a 11 < mw b 11
      · rw [if_neg (by rw [i32_64lt sa' sb']; exact fun q => q c)]
        simp [c, b32]
      · rw [if_pos (by rw [i32_64lt sa' sb']; exact c)]
        simp [c, b32]
    · rw [if_neg e2]
      simp [e1, e2, b32]
  · rw [if_neg e1, zoS_h sh_1121, zob_h h7, zoS_h (sh_s0 hs), zob_h eb, zoS_h (sh_smt hs (by omega)), if_neg (by decide)]
    dsimp only
    rw [mtb]
    by_cases e2 : g 5 (4 * mtN g b + 3) = 255
    · rw [if_pos e2]
      simp [e1, e2, b32]
    · rw [if_neg e2, zoS_h sh_1121, zob_h (rf_1121_9 hR), zoR_h sh_1126 (by decide), nI_ix (by omega) (by decide), ca, zob_h ra, zoS_h (sh_sg (by omega)), if_neg (by decide), zoS_h sh_1121, zob_h (rf_1121_9 hR), zoR_h sh_1126 (by decide), nI_ix (by omega) (by decide), cb, zob_h rb, zoS_h (sh_sg (by omega)), if_neg (by decide), k11, sa, sb]
      simp only [e1, e2, decide_false, Bool.false_eq_true, ↓reduceIte]
      by_cases c : mw b 11 < mw a 11
      · rw [if_neg (by rw [i32_64lt sb' sa']; exact fun q => q c)]
        simp [c, b32]
      · rw [if_pos (by rw [i32_64lt sb' sa']; exact c)]
        simp [c, b32]
end ZSI
