/-! PURE: the reference cuts a shape -/
def oF : Nat → Int64 := fun _ => 0
def arr (A : Nat → Int64) (l : List (Nat → Int64)) : Prop := ∀ c, c < l.length → ∀ k, k < 6 → A (6 * c + k) = (l.getD c oF) k
theorem bes_c {w h f : Int64} {j : Nat} {p q : Nat → Int64} (e : ∀ k, k < 3 → p k = q k) : bes w h f j p = bes w h f j q := by
  unfold bes
  rw [e 0 (by decide), e 1 (by decide), e 2 (by decide)]
theorem lgc_lt {x : Int64} : (lg_cmp x 0 < 0) ↔ x.toInt < 0 := by
  have e0 : (0 : Int64).toInt = 0 := rfl
  have h := lgc_ge (x := x) (y := 0)
  rw [i64_lt, e0] at h
  constructor
  · intro q
    rw [i32_lt] at q
    have q0 : (0 : Int32).toInt = 0 := rfl
    rw [q0] at q
    by_cases e : x.toInt < 0
    · exact e
    · have := h.mpr e
      rw [i32_le, q0] at this
      omega
  · intro q
    rw [i32_lt]
    have q0 : (0 : Int32).toInt = 0 := rfl
    rw [q0]
    have : ¬ 0 ≤ lg_cmp x 0 := fun k => h.mp k q
    rw [i32_le, q0] at this
    omega
section ZCM
variable {W H : Nat}
theorem e_div {m : zMem} {x y : Int64} (hy : y ≠ 0) : F_MPainter_div (sh0 W H) m x y = some (zx_fdiv x y, m) := by
  unfold F_MPainter_div F_JMath_floorDiv
  rw [if_neg hy]
  rfl
theorem e_bes {m : zMem} {r j c : Nat} (hr : gM r) (hR : RF m.2.2) (hs : m.2.2 1285 5 = some r) (hj : j < 5) (hc : c < 20) : F_MPainter_beside (sh0 W H) m 1285 (nI j) (nI c) = some (bes (m.1 1285 1).toInt64 (m.1 1285 2).toInt64 (m.1 r 34).toInt64 j (fun k => m.2.1 1295 (6 * c + k)), m) := by
  have g0 : 6 * nI c = nI (6 * c) := by rw [show (6 : Int32) = nI 6 from rfl, nI_mul]
  have g1 : 6 * nI c + 1 = nI (6 * c + 1) := nI_6 c 1
  have g2 : 6 * nI c + 2 = nI (6 * c + 2) := nI_6 c 2
  have c0 := nI_cl (show 6 * c < 2147483648 by omega)
  have c1 := nI_cl (show 6 * c + 1 < 2147483648 by omega)
  have c2 := nI_cl (show 6 * c + 2 < 2147483648 by omega)
  unfold F_MPainter_beside bes
  rw [g1, g2, g0, zoS_h sh_1285, zob_h (rf_1285_23 hR), zoL_e, zoS_h sh_1295, nI_ix (by omega) (by decide), zoL_e, zoS_h sh_1285, zob_h (rf_1285_23 hR), zoL_e, zoS_h sh_1295, nI_ix (by omega) (by decide), zoL_e, zoS_h sh_1285, zob_h (rf_1285_23 hR), zoL_e, zoS_h sh_1295, nI_ix (by omega) (by decide), zoL_e, zoS_h sh_1285, zob_h hs, zoS_h (sh_m0 hr), zoL_e, c0, c1, c2]
  rcases (show j = 0 ∨ j = 1 ∨ j = 2 ∨ j = 3 ∨ j = 4 by omega) with rfl | rfl | rfl | rfl | rfl
  · rw [if_pos (by decide), if_pos rfl]
  · rw [if_neg (by decide), if_pos (by decide), if_neg (by decide), if_pos rfl, zoS_h sh_1285]
    rfl
  · rw [if_neg (by decide), if_neg (by decide), if_pos (by decide), if_neg (by decide), if_neg (by decide), if_pos rfl, zoS_h sh_1285]
    rfl
  · rw [if_neg (by decide), if_neg (by decide), if_neg (by decide), if_pos (by decide), if_neg (by decide), if_neg (by decide), if_neg (by decide), if_pos rfl, zoS_h sh_1285]
  · rw [if_neg (by decide), if_neg (by decide), if_neg (by decide), if_neg (by decide), if_neg (by decide), if_neg (by decide), if_neg (by decide), if_neg (by decide), zoS_h sh_1285]
theorem e_cb2 {r j n : Nat} {m0 : zMem} (hr : gM r) (hR0 : RF m0.2.2) (hs0 : m0.2.2 1285 5 = some r) (hj : j < 5) (hn : n ≤ 20) (hn0 : m0.1 1285 26 = nI n) : ∀ (d c fuel : Nat) (m : zMem), c + d = n → d < fuel → frm [] [1297] m0 m → (∀ k, k < c → m.2.1 1297 k = bes (m0.1 1285 1).toInt64 (m0.1 1285 2).toInt64 (m0.1 r 34).toInt64 j (fun q => m0.2.1 1295 (6 * k + q))) → zok (L_MPainter_cutBy_2 (sh0 W H) fuel 1285 (nI j) (nI c) m) (fun q => q.1 = 1285 ∧ frm [] [1297] m0 q.2.2.2 ∧ ∀ k, k < n → q.2.2.2.2.1 1297 k = bes (m0.1 1285 1).toInt64 (m0.1 1285 2).toInt64 (m0.1 r 34).toInt64 j (fun q => m0.2.1 1295 (6 * k + q))) := by
  intro d
  induction d with
  | zero =>
    intro c fuel m hc hf h1 h2
    obtain ⟨fu, rfl⟩ : ∃ fu, fuel = fu + 1 := ⟨fuel - 1, by omega⟩
    rw [L_MPainter_cutBy_2, zoS_h sh_1285, h1.2.1 1285 (by simp), hn0, if_pos (by rw [nI_leD (by omega) (by omega)]; omega)]
    exact zok_s ⟨rfl, h1, fun k hk => h2 k (by omega)⟩
  | succ d ih =>
    intro c fuel m hc hf h1 h2
    obtain ⟨fu, rfl⟩ : ∃ fu, fuel = fu + 1 := ⟨fuel - 1, by omega⟩
    have hR : RF m.2.2 := by rw [h1.1]; exact hR0
    have hs : m.2.2 1285 5 = some r := by rw [h1.1]; exact hs0
    have hb := e_bes (W := W) (H := H) (m := m) (j := j) (c := c) hr hR hs hj (by omega)
    rw [h1.2.1 1285 (by simp), h1.2.1 r (by simp), h1.2.2 1295 (by simp)] at hb
    rw [L_MPainter_cutBy_2, zoS_h sh_1285, h1.2.1 1285 (by simp), hn0, if_neg (by rw [nI_leD (by omega) (by omega)]; omega), zoS_h sh_1285, zob_h (rf_1285_25 hR), zoS_h sh_1285, zob_h hb, zoS_h sh_1297, nI_ix (by omega) (by decide), nI_cl (by omega), zoL_e, nI_p1]
    refine ih (c + 1) fu _ (by omega) (by omega) ⟨h1.1, h1.2.1, fun k hk => by rw [mL_o (by simpa using hk)]; exact h1.2.2 k hk⟩ (fun k hk => ?_)
    rw [mL_v, if_pos rfl]
    by_cases e : k = c
    · rw [if_pos e, e]
    · rw [if_neg e]
      exact h2 k (by omega)
/-- six numbers written behind v corners of the cut shape -/
def psh (v : Nat) (x : Nat → Int64) (m m' : zMem) : Prop := frm [] [1296] m m' ∧ (∀ k, k < 6 → m'.2.1 1296 (6 * v + k) = x k) ∧ ∀ q, ¬ (6 * v ≤ q ∧ q < 6 * v + 6) → m'.2.1 1296 q = m.2.1 1296 q
theorem e_cb64 {v c : Nat} {x : Int32} {m0 : zMem} (hR0 : RF m0.2.2) (hv : v < 20) (hc : c < 20) : ∀ (d i fuel : Nat) (m : zMem), i + d = 6 → d < fuel → frm [] [1296] m0 m → (∀ k, k < i → m.2.1 1296 (6 * v + k) = m0.2.1 1295 (6 * c + k)) → (∀ q, ¬ (6 * v ≤ q ∧ q < 6 * v + 6) → m.2.1 1296 q = m0.2.1 1296 q) → zok (L_MPainter_cutBy_64 (sh0 W H) fuel 1285 (nI v) (nI c) x (nI i) m) (fun q => q.1 = 1285 ∧ q.2.1 = nI v ∧ q.2.2.1 = nI c ∧ q.2.2.2.1 = x ∧ psh v (fun k => m0.2.1 1295 (6 * c + k)) m0 q.2.2.2.2.2) := by
  intro d
  induction d with
  | zero =>
    intro i fuel m hi hf h1 h2 h3
    obtain ⟨fu, rfl⟩ : ∃ fu, fuel = fu + 1 := ⟨fuel - 1, by omega⟩
    rw [L_MPainter_cutBy_64, if_pos (by rw [show (6 : Int32) = nI 6 from rfl, nI_leD (by omega) (by omega)]; omega)]
    exact zok_s ⟨rfl, rfl, rfl, rfl, h1, fun k hk => h2 k (by omega), h3⟩
  | succ d ih =>
    intro i fuel m hi hf h1 h2 h3
    obtain ⟨fu, rfl⟩ : ∃ fu, fuel = fu + 1 := ⟨fuel - 1, by omega⟩
    have hR : RF m.2.2 := by rw [h1.1]; exact hR0
    rw [L_MPainter_cutBy_64, if_neg (by rw [show (6 : Int32) = nI 6 from rfl, nI_leD (by omega) (by omega)]; omega), zoS_h sh_1285, zob_h (rf_1285_24 hR), zoS_h sh_1285, zob_h (rf_1285_23 hR), zoL_e, nI_6, zoS_h sh_1295, nI_ix (by omega) (by decide), nI_cl (by omega), zoL_e, zoL_e, nI_6, zoS_h sh_1296, nI_ix (by omega) (by decide), nI_cl (by omega), zoL_e, nI_p1, h1.2.2 1295 (by simp)]
    refine ih (i + 1) fu _ (by omega) (by omega) ⟨h1.1, h1.2.1, fun k hk => by rw [mL_o (by simpa using hk)]; exact h1.2.2 k hk⟩ (fun k hk => ?_) (fun q hq => ?_)
    · rw [mL_v, if_pos rfl]
      by_cases e : k = i
      · rw [if_pos (by omega), e]
      · rw [if_neg (by omega)]
        exact h2 k (by omega)
    · rw [mL_v, if_pos rfl, if_neg (by omega)]
      exact h3 q hq
theorem e_cb181 {v c p q : Nat} {m0 : zMem} (hR0 : RF m0.2.2) (hv : v < 20) (hp : p < 20) (hq : q < 20) (hne : m0.2.1 1297 p - m0.2.1 1297 q ≠ 0) : ∀ (d i fuel : Nat) (m : zMem), i + d = 6 → d < fuel → frm [] [1296] m0 m → (∀ k, k < i → m.2.1 1296 (6 * v + k) = itp (fun k => m0.2.1 1295 (6 * p + k)) (fun k => m0.2.1 1295 (6 * q + k)) (m0.2.1 1297 p) (m0.2.1 1297 q) k) → (∀ q, ¬ (6 * v ≤ q ∧ q < 6 * v + 6) → m.2.1 1296 q = m0.2.1 1296 q) → zok (L_MPainter_cutBy_181 (sh0 W H) fuel 1285 (nI v) (nI c) (nI p) (nI q) (nI i) m) (fun z => z.1 = 1285 ∧ z.2.1 = nI v ∧ z.2.2.1 = nI c ∧ psh v (itp (fun k => m0.2.1 1295 (6 * p + k)) (fun k => m0.2.1 1295 (6 * q + k)) (m0.2.1 1297 p) (m0.2.1 1297 q)) m0 z.2.2.2.2.2.2) := by
  intro d
  induction d with
  | zero =>
    intro i fuel m hi hf h1 h2 h3
    obtain ⟨fu, rfl⟩ : ∃ fu, fuel = fu + 1 := ⟨fuel - 1, by omega⟩
    rw [L_MPainter_cutBy_181, if_pos (by rw [show (6 : Int32) = nI 6 from rfl, nI_leD (by omega) (by omega)]; omega)]
    exact zok_s ⟨rfl, rfl, rfl, h1, fun k hk => h2 k (by omega), h3⟩
  | succ d ih =>
    intro i fuel m hi hf h1 h2 h3
    obtain ⟨fu, rfl⟩ : ∃ fu, fuel = fu + 1 := ⟨fuel - 1, by omega⟩
    have hR : RF m.2.2 := by rw [h1.1]; exact hR0
    have e95 : m.2.1 1295 = m0.2.1 1295 := h1.2.2 1295 (by simp)
    have e97 : m.2.1 1297 = m0.2.1 1297 := h1.2.2 1297 (by simp)
    have cq := nI_cl (show 6 * q + i < 2147483648 by omega)
    have cp := nI_cl (show 6 * p + i < 2147483648 by omega)
    have c1 := nI_cl (show p < 2147483648 by omega)
    have c2 := nI_cl (show q < 2147483648 by omega)
    rw [L_MPainter_cutBy_181, if_neg (by rw [show (6 : Int32) = nI 6 from rfl, nI_leD (by omega) (by omega)]; omega), nI_6, nI_6, nI_6, zoS_h sh_1285, zob_h (rf_1285_23 hR), zoL_e, zoS_h sh_1295, nI_ix (by omega) (by decide), zoS_h sh_1285, zob_h (rf_1285_23 hR), zoL_e, zoS_h sh_1295, nI_ix (by omega) (by decide), zoL_e, zoS_h sh_1285, zob_h (rf_1285_24 hR), zoS_h sh_1285, zob_h (rf_1285_23 hR), zoL_e, zoS_h sh_1295, nI_ix (by omega) (by decide), zoS_h sh_1285, zob_h (rf_1285_25 hR), zoS_h sh_1297, nI_ix (by omega) (by decide), zoS_h sh_1285, zob_h (rf_1285_25 hR), zoS_h sh_1297, nI_ix (by omega) (by decide), zoS_h sh_1285, zob_h (rf_1285_25 hR), zoS_h sh_1297, nI_ix (by omega) (by decide), zoL_e, zoL_e, cq, cp, c1, c2, e95, e97, zob_h (e_div hne), zoL_e, zoL_e, zoS_h sh_1296, nI_ix (by omega) (by decide), nI_cl (by omega), zoL_e, nI_p1]
    refine ih (i + 1) fu _ (by omega) (by omega) ⟨h1.1, h1.2.1, fun k hk => by rw [mL_o (by simpa using hk)]; exact h1.2.2 k hk⟩ (fun k hk => ?_) (fun z hz => ?_)
    · rw [mL_v, if_pos rfl]
      by_cases e : k = i
      · rw [if_pos (by omega), e]
        rfl
      · rw [if_neg (by omega)]
        exact h2 k (by omega)
    · rw [mL_v, if_pos rfl, if_neg (by omega)]
      exact h3 z hz
end ZCM
