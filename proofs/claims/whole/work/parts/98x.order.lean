/-! PURE: who is seen, and in which order: the reference -/
def msN (g : Nat → Nat → Int32) (i : Nat) : Nat := (g 16 i).toNatClampNeg
def mtN (g : Nat → Nat → Int32) (i : Nat) : Nat := (g 8 (msN g i)).toNatClampNeg
def sol (g : Nat → Nat → Int32) (i : Nat) : Bool := decide (g 5 (4 * mtN g i + 3) = 255)
def ahd (g : Nat → Nat → Int32) (ky : Nat → Int64) (a b : Nat) : Bool := if sol g a = sol g b then (if ky a = ky b then decide (a < b) else if sol g a then decide (ky a < ky b) else decide (ky b < ky a)) else sol g a
/-- where x goes among n, from the last on -/
def ip (q : Nat → Bool) : Nat → Nat
  | 0 => 0
  | k + 1 => if q k then ip q k else k + 1
def insF (l : Nat → Nat) (p x : Nat) : Nat → Nat := fun k => if k < p then l k else if k = p then x else l (k - 1)
def ordS (g : Nat → Nat → Int32) (vis : Nat → Bool) (ky : Nat → Int64) : Nat → Nat × (Nat → Nat)
  | 0 => (0, fun _ => 0)
  | i + 1 => if vis i then ((ordS g vis ky i).1 + 1, insF (ordS g vis ky i).2 (ip (fun k => ahd g ky i ((ordS g vis ky i).2 k)) (ordS g vis ky i).1) i) else ordS g vis ky i
theorem ip_le {q : Nat → Bool} : ∀ n, ip q n ≤ n := by
  intro n
  induction n with
  | zero => exact Nat.le_refl _
  | succ n ih =>
    rw [ip]
    split
    · omega
    · exact Nat.le_refl _
theorem ip_c {q q' : Nat → Bool} : ∀ n, (∀ k, k < n → q k = q' k) → ip q n = ip q' n := by
  intro n
  induction n with
  | zero => intro _; rfl
  | succ n ih =>
    intro h
    rw [ip, ip, h n (by omega), ih (fun k hk => h k (by omega))]
theorem ord_b {g : Nat → Nat → Int32} {vis : Nat → Bool} {ky : Nat → Int64} : ∀ i, (ordS g vis ky i).1 ≤ i ∧ ∀ k, k < (ordS g vis ky i).1 → (ordS g vis ky i).2 k < i ∧ vis ((ordS g vis ky i).2 k) = true := by
  intro i
  induction i with
  | zero => exact ⟨Nat.le_refl _, fun k hk => absurd hk (Nat.not_lt_zero _)⟩
  | succ i ih =>
    obtain ⟨h1, h2⟩ := ih
    rw [ordS]
    by_cases e : vis i = true
    · rw [if_pos e]
      refine ⟨by show _ + 1 ≤ _; omega, fun k hk => ?_⟩
      have hk : k < (ordS g vis ky i).1 + 1 := hk
      show insF _ _ i k < i + 1 ∧ vis (insF _ _ i k) = true
      have hp := ip_le (q := fun k => ahd g ky i ((ordS g vis ky i).2 k)) (ordS g vis ky i).1
      generalize ip (fun k => ahd g ky i ((ordS g vis ky i).2 k)) (ordS g vis ky i).1 = p at hp
      unfold insF
      by_cases a : k < p
      · rw [if_pos a]
        have := h2 k (by omega)
        exact ⟨by omega, this.2⟩
      · rw [if_neg a]
        by_cases b : k = p
        · rw [if_pos b]
          exact ⟨by omega, e⟩
        · rw [if_neg b]
          have := h2 (k - 1) (by omega)
          exact ⟨by omega, this.2⟩
    · rw [if_neg e]
      exact ⟨by omega, fun k hk => ⟨by have := h2 k hk; omega, (h2 k hk).2⟩⟩
theorem lgc_0 {x y : Int64} : (lg_cmp x y = 0) ↔ x = y := by
  unfold lg_cmp
  by_cases a : x > y
  · rw [if_pos a]
    exact ⟨fun q => absurd q (by decide), fun q => by rw [q] at a; exact (Int64.lt_irrefl a).elim⟩
  · rw [if_neg a]
    by_cases b : x = y
    · rw [if_pos b]; exact ⟨fun _ => b, fun _ => rfl⟩
    · rw [if_neg b]; exact ⟨fun q => absurd q (by decide), fun q => absurd q b⟩
theorem lgc_le {x y : Int64} : (lg_cmp x y ≤ 0) ↔ ¬ y < x := by
  unfold lg_cmp
  by_cases a : x > y
  · rw [if_pos a]
    exact ⟨fun q => absurd q (by decide), fun q => absurd a q⟩
  · rw [if_neg a]
    by_cases b : x = y
    · rw [if_pos b]; exact ⟨fun _ => a, fun _ => by decide⟩
    · rw [if_neg b]; exact ⟨fun _ => a, fun _ => by decide⟩
theorem lgc_ge {x y : Int64} : (0 ≤ lg_cmp x y) ↔ ¬ x < y := by
  unfold lg_cmp
  by_cases a : x > y
  · rw [if_pos a]
    have a' : y < x := a
    rw [i64_lt] at a'
    exact ⟨fun _ q => by rw [i64_lt] at q; omega, fun _ => by decide⟩
  · rw [if_neg a]
    have a' : ¬ y < x := a
    rw [i64_lt] at a'
    by_cases b : x = y
    · rw [if_pos b, b]; exact ⟨fun _ q => Int64.lt_irrefl q, fun _ => by decide⟩
    · rw [if_neg b]
      have : x.toInt ≠ y.toInt := fun q => b (i64_ext q)
      exact ⟨fun q => absurd q (by decide), fun q => absurd (i64_lt.mpr (by omega)) q⟩
section ZOR
variable {W H : Nat}
/-- a scene's rows are as a text makes them -/
def Wsc (g : Nat → Nat → Int32) : Prop := (∀ c, c < 5 → g 0 c = nI (cn g c) ∧ cn g c ≤ lim c) ∧ (∀ i, i < cn g 1 → WmtG g i) ∧ (∀ i, i < cn g 2 → WmsG g i) ∧ (∀ i, i < cn g 3 → WndG g i) ∧ Wcam g ∧ Wlmp g
theorem Wsc_n {g : Nat → Nat → Int32} (h : Wsc g) : cn g 0 ≤ 8 ∧ cn g 1 ≤ 16 ∧ cn g 2 ≤ 16 ∧ cn g 3 ≤ 48 := by
  have l := lim_v
  have a0 := (h.1 0 (by decide)).2
  have a1 := (h.1 1 (by decide)).2
  have a2 := (h.1 2 (by decide)).2
  have a3 := (h.1 3 (by decide)).2
  omega
theorem Wsc_ms {g : Nat → Nat → Int32} (h : Wsc g) {i : Nat} (hi : i < cn g 3) (hm : 0 ≤ (g 16 i).toInt) : g 16 i = nI (msN g i) ∧ msN g i < cn g 2 ∧ g 8 (msN g i) = nI (mtN g i) ∧ mtN g i < cn g 1 := by
  have w := h.2.2.2.1 i hi
  obtain ⟨a1, a2⟩ := i32_cl hm
  have c2 := h.1 2 (by decide)
  have n := Wsc_n h
  have k1 : msN g i < cn g 2 := by
    have := w.2.2.2.1
    rw [c2.1, nI_toInt (by omega)] at this
    show (g 16 i).toNatClampNeg < _
    omega
  have w2 := h.2.2.1 (msN g i) k1
  obtain ⟨b1, b2⟩ := i32_cl w2.1
  have c1 := h.1 1 (by decide)
  have k2 : mtN g i < cn g 1 := by
    have := w2.2.1
    rw [c1.1, nI_toInt (by omega)] at this
    show (g 8 (msN g i)).toNatClampNeg < _
    omega
  exact ⟨a1, k1, b1, k2⟩
theorem e_mto {m : zMem} {r i : Nat} (hR : RF m.2.2) (hs : m.2.2 1285 5 = some r) (hr : gM r) (h : Wsc (fun a => m.1 (r + a))) (hi : i < cn (fun a => m.1 (r + a)) 3) (hm : 0 ≤ (m.1 (r + 16) i).toInt) : F_MPainter_materialOf (sh0 W H) m 1285 (nI i) = some (nI (mtN (fun a => m.1 (r + a)) i), m) := by
  have n := Wsc_n h
  obtain ⟨a1, a2, a3, a4⟩ := Wsc_ms h hi hm
  unfold F_MPainter_materialOf
  rw [zoS_h sh_1285, zob_h hs, zoS_h (sh_m0 hr), zob_h (rf_m12 hR hr), zoS_h sh_1285, zob_h hs, zoS_h (sh_m0 hr), zob_h (rf_m20 hR hr), zoS_h (sh_m16 hr), nI_ix (by omega) (by decide), nI_cl (by omega), zoL_e, a1, zoS_h (sh_m8 hr), nI_ix (by omega) (by decide), nI_cl (by omega), a3]
theorem e_sol {m : zMem} {r i : Nat} (hR : RF m.2.2) (hs : m.2.2 1285 5 = some r) (hr : gM r) (h : Wsc (fun a => m.1 (r + a))) (hi : i < cn (fun a => m.1 (r + a)) 3) (hm : 0 ≤ (m.1 (r + 16) i).toInt) : F_MPainter_solid (sh0 W H) m 1285 (nI i) = some (b32 (sol (fun a => m.1 (r + a)) i), m) := by
  have n := Wsc_n h
  obtain ⟨a1, a2, a3, a4⟩ := Wsc_ms h hi hm
  have g3 : 4 * nI (mtN (fun a => m.1 (r + a)) i) + 3 = nI (4 * mtN (fun a => m.1 (r + a)) i + 3) := nI_4 _ 3
  unfold F_MPainter_solid sol
  rw [zoS_h sh_1285, zob_h hs, zoS_h (sh_m0 hr), zob_h (rf_m9 hR hr), zoS_h sh_1285, zob_h (e_mto hR hs hr h hi hm), zoL_e, g3, zoS_h (sh_m5 hr), nI_ix (by omega) (by decide), nI_cl (by omega)]
  by_cases e : m.1 (r + 5) (4 * mtN (fun a => m.1 (r + a)) i + 3) = 255
  · rw [if_pos e, decide_eq_true e]
    rfl
  · rw [if_neg e, decide_eq_false e]
    rfl
theorem b32_eq {a b : Bool} : (b32 a = b32 b) ↔ a = b := by cases a <;> cases b <;> decide
theorem b32_0 {a : Bool} : (b32 a = 0) ↔ a = false := by cases a <;> decide
theorem nar_b32 (a : Bool) : vp_nar .boolean (b32 a) = b32 a := by cases a <;> decide
theorem e_ahd {m : zMem} {r a b : Nat} (hR : RF m.2.2) (hs : m.2.2 1285 5 = some r) (hr : gM r) (h : Wsc (fun a => m.1 (r + a))) (ha : a < cn (fun a => m.1 (r + a)) 3) (hb : b < cn (fun a => m.1 (r + a)) 3) (hma : 0 ≤ (m.1 (r + 16) a).toInt) (hmb : 0 ≤ (m.1 (r + 16) b).toInt) : F_MPainter_ahead (sh0 W H) m 1285 (nI a) (nI b) = some (b32 (ahd (fun a => m.1 (r + a)) (m.2.1 1293) a b), m) := by
  have n := Wsc_n h
  have sa := e_sol (W := W) (H := H) hR hs hr h ha hma
  have sb := e_sol (W := W) (H := H) hR hs hr h hb hmb
  unfold F_MPainter_ahead ahd
  rw [zoS_h sh_1285, zob_h sa, zoS_h sh_1285, zob_h sb]
  dsimp only
  by_cases e : sol (fun a => m.1 (r + a)) a = sol (fun a => m.1 (r + a)) b
  · rw [if_pos (b32_eq.mpr e), if_pos e, zoS_h sh_1285, zob_h (rf_1285_21 hR), zoS_h sh_1293, nI_ix (by omega) (by decide), zoS_h sh_1285, zob_h (rf_1285_21 hR), zoS_h sh_1293, nI_ix (by omega) (by decide), nI_cl (n := a) (by omega), nI_cl (n := b) (by omega)]
    by_cases e2 : m.2.1 1293 a = m.2.1 1293 b
    · rw [if_pos (lgc_0.mpr e2), if_pos e2]
      by_cases e3 : a < b
      · rw [if_neg (by rw [nI_leD (by omega) (by omega)]; omega), decide_eq_true e3]
        rfl
      · rw [if_pos (by rw [nI_leD (by omega) (by omega)]; omega), decide_eq_false e3]
        rfl
    · rw [if_neg (fun q => e2 (lgc_0.mp q)), if_neg e2, zoS_h sh_1285, zob_h sa]
      dsimp only
      cases hsl : sol (fun a => m.1 (r + a)) a with
      | false =>
        rw [if_pos (by decide), zoS_h sh_1285, zob_h (rf_1285_21 hR), zoS_h sh_1293, if_neg (fun q => q.elim (nI_pos (by omega)) (by omega)), zoS_h sh_1285, zob_h (rf_1285_21 hR), zoS_h sh_1293, if_neg (fun q => q.elim (nI_pos (by omega)) (by omega))]
        by_cases e3 : m.2.1 1293 b < m.2.1 1293 a
        · rw [if_neg (fun q => lgc_le.mp q e3)]
          simp [e3, b32]
        · rw [if_pos (lgc_le.mpr e3)]
          simp [e3, b32]
      | true =>
        rw [if_neg (by decide), zoS_h sh_1285, zob_h (rf_1285_21 hR), zoS_h sh_1293, if_neg (fun q => q.elim (nI_pos (by omega)) (by omega)), zoS_h sh_1285, zob_h (rf_1285_21 hR), zoS_h sh_1293, if_neg (fun q => q.elim (nI_pos (by omega)) (by omega))]
        by_cases e3 : m.2.1 1293 a < m.2.1 1293 b
        · rw [if_neg (fun q => lgc_ge.mp q e3)]
          simp [e3, b32]
        · rw [if_pos (lgc_ge.mpr e3)]
          simp [e3, b32]
  · rw [if_neg (fun q => e (b32_eq.mp q)), if_neg e, zoS_h sh_1285, zob_h sa, if_pos (nar_b32 _)]
end ZOR
