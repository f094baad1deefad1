/-! PURE: a pixel in the reference's painter -/
def tE (g : Nat → Nat → Int32) (t : Nat) : Nat := Nat.log2 (g 1 t).toNatClampNeg
theorem log_sd : ∀ e : Fin 6, Nat.log2 (sd e 0) = e.val ∧ sd e 0 ≤ 32 ∧ 0 < sd e 0 := by decide +kernel
theorem sd_lo : ∀ e : Fin 6, ∀ l : Fin 6, l.val ≤ e.val → (sd e l ≤ 1 ↔ l.val = e.val) ∧ (l.val < e.val → sd e l / 2 = sd e (l + 1)) := by decide +kernel
theorem tE_e {g : Nat → Nat → Int32} {t e : Nat} (h : WtxN g t e) : tE g t = e := by
  obtain ⟨a, b, c⟩ := log_sd ⟨e, by have := h.1; omega⟩
  simp only at a b c
  unfold tE
  rw [h.2.1, nI_cl (by omega), a]
def chn3 (own : Int64) (col : Int32) (lt : Int64) : Int64 := zx_fdiv (zx_fdiv (own * col.toInt64) 255 * lt) 65536
def tTx (g : Nat → Nat → Int32) (mt : Nat) : Nat := (g 6 mt).toNatClampNeg
/-- the colour under the material's own -/
def ownC (g : Nat → Nat → Int32) (A B C : Nat → Int64) (whole : Int64) (mt : Nat) (u v : Int64) (k : Nat) : Int64 := if g 6 mt < 0 then 255 else smp g (tE g (tTx g mt)) (tTx g mt) (lvS (wid A B C (nI (sd (tE g (tTx g mt)) 0)).toInt64) whole (tE g (tTx g mt)) 0) u v k
section ZPX
variable {W H : Nat}
theorem e_lv146 {m : zMem} {wide whole : Int64} {e : Nat} (he : e ≤ 5) : ∀ (d l fuel : Nat), l + d = e → d < fuel → L_MPainter_level_146 (sh0 W H) fuel whole wide (nI l) (nI (sd e l)) m = some (whole, wide, nI (lvS wide whole d l), nI (sd e (lvS wide whole d l)), m) := by
  intro d
  induction d with
  | zero =>
    intro l fuel hl hf
    obtain ⟨fu, rfl⟩ : ∃ fu, fuel = fu + 1 := ⟨fuel - 1, by omega⟩
    have q := (sd_lo ⟨e, by omega⟩ ⟨l, by omega⟩ (show l ≤ e by omega)).1
    simp only at q
    have s := sd_1 ⟨e, by omega⟩ ⟨l, by omega⟩ (show l ≤ e by omega)
    simp only at s
    rw [L_MPainter_level_146, if_pos (by rw [show (1 : Int32) = nI 1 from rfl, nI_leD (by omega) (by decide)]; exact q.mpr (by omega))]
    rfl
  | succ d ih =>
    intro l fuel hl hf
    obtain ⟨fu, rfl⟩ : ∃ fu, fuel = fu + 1 := ⟨fuel - 1, by omega⟩
    obtain ⟨q1, q2⟩ := sd_lo ⟨e, by omega⟩ ⟨l, by omega⟩ (show l ≤ e by omega)
    simp only at q1 q2
    have s := sd_1 ⟨e, by omega⟩ ⟨l, by omega⟩ (show l ≤ e by omega)
    simp only at s
    rw [L_MPainter_level_146, if_neg (by rw [show (1 : Int32) = nI 1 from rfl, nI_leD (by omega) (by decide)]; exact fun k => by have := q1.mp k; omega), lvS]
    by_cases c : lg_cmp wide ((whole * 16777216) <<< ((2 * nI l).toInt64 &&& 63)) ≤ 0
    · rw [if_pos c, if_pos c]
    · rw [if_neg c, if_neg c, zoL_e, show nI (sd e l) / 2 = nI (sd e (l + 1)) from by rw [show (2 : Int32) = nI 2 from rfl, nI_div (by omega) (by decide) (by decide), q2 (by omega)], nI_p1, ih (l + 1) fu (by omega) (by omega)]
set_option maxHeartbeats 4000000 in
theorem e_lvl {m : zMem} {r t e b c : Nat} {whole : Int64} {l : List (Nat → Int64)} {f w8 h8 : Int64} (hr : gM r) (hR : RF m.2.2) (hs : m.2.2 1285 5 = some r) (h : WtxN (fun a => m.1 (r + a)) t e) (ht : t < 8) (hl : l.length ≤ 19) (ha : arr (m.2.1 1295) l) (h0 : 0 < l.length) (hb : b < l.length) (hc : c < l.length) : F_MPainter_level (sh0 W H) m 1285 (nI t) (nI b) (nI c) whole = some (nI (lvS (wid (pcr f w8 h8 (l.getD 0 oF)) (pcr f w8 h8 (l.getD b oF)) (pcr f w8 h8 (l.getD c oF)) (nI (sd e 0)).toInt64) whole e 0), m) := by
  have h1 := h.2.1
  dsimp only at h1
  have a3 := ha 0 h0 3 (by decide)
  have a4 := ha 0 h0 4 (by decide)
  have b3 := ha b hb 3 (by decide)
  have b4 := ha b hb 4 (by decide)
  have c3 := ha c hc 3 (by decide)
  have c4 := ha c hc 4 (by decide)
  rw [show 6 * 0 + 3 = 3 from rfl] at a3
  rw [show 6 * 0 + 4 = 4 from rfl] at a4
  have gb3 : 6 * nI b + 3 = nI (6 * b + 3) := nI_6 b 3
  have gb4 : 6 * nI b + 4 = nI (6 * b + 4) := nI_6 b 4
  have gc3 : 6 * nI c + 3 = nI (6 * c + 3) := nI_6 c 3
  have gc4 : 6 * nI c + 4 = nI (6 * c + 4) := nI_6 c 4
  have nb3 := nI_cl (show 6 * b + 3 < 2147483648 by omega)
  have nb4 := nI_cl (show 6 * b + 4 < 2147483648 by omega)
  have nc3 := nI_cl (show 6 * c + 3 < 2147483648 by omega)
  have nc4 := nI_cl (show 6 * c + 4 < 2147483648 by omega)
  have ct := nI_cl (show t < 2147483648 by omega)
  have k3 : (3 : Int32).toNatClampNeg = 3 := rfl
  have k4 : (4 : Int32).toNatClampNeg = 4 := rfl
  have p3 : ∀ p : Nat → Int64, pcr f w8 h8 p 3 = p 3 := fun p => rfl
  have p4 : ∀ p : Nat → Int64, pcr f w8 h8 p 4 = p 4 := fun p => rfl
  unfold F_MPainter_level wid
  rw [p3, p3, p3, p4, p4, p4, gb3, gb4, gc3, gc4, zoS_h sh_1285, zob_h (rf_1285_23 hR), zoL_e, zoS_h sh_1295, nI_ix (by omega) (by decide), zoS_h sh_1285, zob_h (rf_1285_23 hR), zoS_h sh_1295, if_neg (by decide), zoL_e, zoS_h sh_1285, zob_h (rf_1285_23 hR), zoL_e, zoS_h sh_1295, nI_ix (by omega) (by decide), zoS_h sh_1285, zob_h (rf_1285_23 hR), zoS_h sh_1295, if_neg (by decide), zoL_e, zoS_h sh_1285, zob_h (rf_1285_23 hR), zoL_e, zoS_h sh_1295, nI_ix (by omega) (by decide), zoS_h sh_1285, zob_h (rf_1285_23 hR), zoS_h sh_1295, if_neg (by decide), zoL_e, zoS_h sh_1285, zob_h (rf_1285_23 hR), zoL_e, zoS_h sh_1295, nI_ix (by omega) (by decide), zoS_h sh_1285, zob_h (rf_1285_23 hR), zoS_h sh_1295, if_neg (by decide), zoL_e, zoL_e, nb3, nb4, nc3, nc4, k3, k4, a3, a4, b3, b4, c3, c4]
  generalize (l.getD b oF 3 - l.getD 0 oF 3) * (l.getD c oF 4 - l.getD 0 oF 4) - (l.getD c oF 3 - l.getD 0 oF 3) * (l.getD b oF 4 - l.getD 0 oF 4) = D
  have lv : ∀ wide : Int64, L_MPainter_level_146 (sh0 W H) zfuel whole wide 0 (nI (sd e 0)) m = some (whole, wide, nI (lvS wide whole e 0), nI (sd e (lvS wide whole e 0)), m) := fun wide => e_lv146 h.1 e 0 zfuel (by omega) (zf_lt (by have := h.1; omega))
  by_cases e0 : 0 ≤ lg_cmp D 0
  · rw [if_pos e0, if_pos e0, zoS_h sh_1285, zob_h hs, zoS_h (sh_m0 hr), zob_h (rf_m5 hR hr), zoS_h (sh_m1 hr), nI_ix (by omega) (by decide), zoS_h sh_1285, zob_h hs, zoS_h (sh_m0 hr), zob_h (rf_m5 hR hr), zoS_h (sh_m1 hr), nI_ix (by omega) (by decide), zoL_e, zoS_h sh_1285, zob_h hs, zoS_h (sh_m0 hr), zob_h (rf_m5 hR hr), zoS_h (sh_m1 hr), nI_ix (by omega) (by decide), zoL_e, ct, h1, zob_h (lv _)]
  · rw [if_neg e0, if_neg e0, zoS_h sh_1285, zob_h hs, zoS_h (sh_m0 hr), zob_h (rf_m5 hR hr), zoS_h (sh_m1 hr), nI_ix (by omega) (by decide), zoS_h sh_1285, zob_h hs, zoS_h (sh_m0 hr), zob_h (rf_m5 hR hr), zoS_h (sh_m1 hr), nI_ix (by omega) (by decide), zoL_e, zoS_h sh_1285, zob_h hs, zoS_h (sh_m0 hr), zob_h (rf_m5 hR hr), zoS_h (sh_m1 hr), nI_ix (by omega) (by decide), zoL_e, ct, h1, zob_h (lv _)]
theorem e_col35 {m0 : zMem} {r mt : Nat} {u v lt : Int64} {tx lv : Int32} {own : Nat → Int64} (hr : gM r) (hR0 : RF m0.2.2) (hs0 : m0.2.2 1285 5 = some r) (hmt : mt < 16) (hown : ∀ (m : zMem) (k : Nat), k < 3 → m.1 = m0.1 → m.2.2 = m0.2.2 → if 0 ≤ tx then F_MPainter_sample (sh0 W H) m 1285 tx lv u v (nI k) = some (own k, m) else own k = 255) : ∀ (d k fuel : Nat) (m : zMem), k + d = 3 → d < fuel → frm [] [1301] m0 m → (∀ q, q < k → m.2.1 1301 q = chn3 (own q) (m0.1 (r + 5) (4 * mt + q)) lt) → zok (L_MPainter_colour_35 (sh0 W H) fuel 1285 (nI mt) u v lt tx lv (nI k) m) (fun q => frm [] [1301] m0 q.2.2.2.2.2.2.2.2 ∧ ∀ k, k < 3 → q.2.2.2.2.2.2.2.2.2.1 1301 k = chn3 (own k) (m0.1 (r + 5) (4 * mt + k)) lt) := by
  intro d
  induction d with
  | zero =>
    intro k fuel m hk hf h1 h2
    obtain ⟨fu, rfl⟩ : ∃ fu, fuel = fu + 1 := ⟨fuel - 1, by omega⟩
    rw [L_MPainter_colour_35, if_pos (by rw [show (3 : Int32) = nI 3 from rfl, nI_leD (by omega) (by omega)]; omega)]
    exact zok_s ⟨h1, fun q hq => h2 q (by omega)⟩
  | succ d ih =>
    intro k fuel m hk hf h1 h2
    obtain ⟨fu, rfl⟩ : ∃ fu, fuel = fu + 1 := ⟨fuel - 1, by omega⟩
    have hR : RF m.2.2 := by rw [h1.1]; exact hR0
    have hs : m.2.2 1285 5 = some r := by rw [h1.1]; exact hs0
    have e1 : m.1 = m0.1 := funext fun a => h1.2.1 a (by simp)
    have ho := hown m k (by omega) e1 h1.1
    have d255 : ∀ (m' : zMem) (y : Int64), F_MPainter_div (sh0 W H) m' y 255 = some (zx_fdiv y 255, m') := fun m' y => e_div (by decide)
    have d65 : ∀ (m' : zMem) (y : Int64), F_MPainter_div (sh0 W H) m' y 65536 = some (zx_fdiv y 65536, m') := fun m' y => e_div (by decide)
    have fin : zok (L_MPainter_colour_35 (sh0 W H) fu 1285 (nI mt) u v lt tx lv (nI (k + 1)) (mL m 1301 k (chn3 (own k) (m0.1 (r + 5) (4 * mt + k)) lt))) (fun q => frm [] [1301] m0 q.2.2.2.2.2.2.2.2 ∧ ∀ k, k < 3 → q.2.2.2.2.2.2.2.2.2.1 1301 k = chn3 (own k) (m0.1 (r + 5) (4 * mt + k)) lt) := by
      refine ih (k + 1) fu _ (by omega) (by omega) ⟨h1.1, h1.2.1, fun x hx => by rw [mL_o (by simpa using hx)]; exact h1.2.2 x hx⟩ (fun q hq => ?_)
      rw [mL_v, if_pos rfl]
      by_cases e : q = k
      · rw [if_pos e, e]
      · rw [if_neg e]
        exact h2 q (by omega)
    rw [L_MPainter_colour_35, if_neg (by rw [show (3 : Int32) = nI 3 from rfl, nI_leD (by omega) (by omega)]; omega)]
    by_cases c : 0 ≤ tx
    · rw [if_pos c] at ho
      rw [if_pos c, zoS_h sh_1285, zob_h ho, zoS_h sh_1285, zob_h (rf_1285_30 hR), zoS_h sh_1285, zob_h hs, zoS_h (sh_m0 hr), zob_h (rf_m9 hR hr), zoL_e, nI_4, zoS_h (sh_m5 hr), nI_ix (by omega) (by decide), nI_cl (n := 4 * mt + k) (by omega), zoL_e, zob_h (d255 _ _), zob_h (d65 _ _), zoS_h sh_1301, nI_ix (by omega) (by decide), nI_cl (n := k) (by omega), zoL_e, nI_p1, e1]
      exact fin
    · rw [if_neg c] at ho
      unfold chn3 at fin
      rw [ho] at fin
      rw [if_neg c, zoS_h sh_1285, zob_h (rf_1285_30 hR), zoS_h sh_1285, zob_h hs, zoS_h (sh_m0 hr), zob_h (rf_m9 hR hr), zoL_e, nI_4, zoS_h (sh_m5 hr), nI_ix (by omega) (by decide), nI_cl (n := 4 * mt + k) (by omega), zoL_e, zob_h (d255 _ _), zob_h (d65 _ _), zoS_h sh_1301, nI_ix (by omega) (by decide), nI_cl (n := k) (by omega), zoL_e, nI_p1, e1]
      exact fin
/-- the textures of the rows are good -/
def Wtx (g : Nat → Nat → Int32) : Prop := ∀ t, t < cn g 0 → WtxN g t (tE g t)
set_option maxHeartbeats 4000000 in
theorem e_col {m : zMem} {r mt b c : Nat} {whole u v lt : Int64} {l : List (Nat → Int64)} {f w8 h8 : Int64} (hr : gM r) (hR : RF m.2.2) (hs : m.2.2 1285 5 = some r) (hW : Wsc (fun a => m.1 (r + a))) (hX : Wtx (fun a => m.1 (r + a))) (hmt : mt < cn (fun a => m.1 (r + a)) 1) (hl : l.length ≤ 19) (ha : arr (m.2.1 1295) l) (h0 : 0 < l.length) (hb : b < l.length) (hc : c < l.length) : zok (F_MPainter_colour (sh0 W H) m 1285 (nI mt) (nI b) (nI c) whole u v lt) (fun m' => frm [] [1301] m m' ∧ ∀ k, k < 3 → m'.2.1 1301 k = chn3 (ownC (fun a => m.1 (r + a)) (pcr f w8 h8 (l.getD 0 oF)) (pcr f w8 h8 (l.getD b oF)) (pcr f w8 h8 (l.getD c oF)) whole mt u v k) (m.1 (r + 5) (4 * mt + k)) lt) := by
  have N := Wsc_n hW
  have wm := hW.2.1 mt hmt
  have e0 : (0 : Int32).toInt = 0 := rfl
  have c0 := hW.1 0 (by decide)
  have wlt := wm.2.2.1
  rw [c0.1, nI_toInt (by omega)] at wlt
  dsimp only at wlt
  unfold F_MPainter_colour
  rw [zoS_h sh_1285, zob_h hs, zoS_h (sh_m0 hr), zob_h (rf_m10 hR hr), zoS_h (sh_m6 hr), nI_ix (by omega) (by decide), nI_cl (n := mt) (by omega), zoL_e]
  by_cases e : 0 ≤ (m.1 (r + 6) mt).toInt
  · obtain ⟨t1, t2⟩ := i32_cl e
    have htl : tTx (fun a => m.1 (r + a)) mt < cn (fun a => m.1 (r + a)) 0 := by
      show (m.1 (r + 6) mt).toNatClampNeg < _
      omega
    have hwt := hX _ htl
    have t1' : m.1 (r + 6) mt = nI (tTx (fun a => m.1 (r + a)) mt) := t1
    have hge : (0 : Int32) ≤ m.1 (r + 6) mt := by rw [i32_le, e0]; exact e
    have hlv := lvS_le (a := wid (pcr f w8 h8 (l.getD 0 oF)) (pcr f w8 h8 (l.getD b oF)) (pcr f w8 h8 (l.getD c oF)) (nI (sd (tE (fun a => m.1 (r + a)) (tTx (fun a => m.1 (r + a)) mt)) 0)).toInt64) (b := whole) (tE (fun a => m.1 (r + a)) (tTx (fun a => m.1 (r + a)) mt)) 0
    rw [if_pos hge, zoS_h sh_1285, t1', zob_h (e_lvl (f := f) (w8 := w8) (h8 := h8) hr hR hs hwt (by omega) hl ha h0 hb hc)]
    dsimp only
    refine zok_b (show zok (L_MPainter_colour_35 (sh0 W H) zfuel 1285 (nI mt) u v lt _ _ 0 m) _ from e_col35 (W := W) (H := H) (m0 := m) (own := ownC (fun a => m.1 (r + a)) (pcr f w8 h8 (l.getD 0 oF)) (pcr f w8 h8 (l.getD b oF)) (pcr f w8 h8 (l.getD c oF)) whole mt u v) hr hR hs (by omega) (fun m' k hk q1 q2 => ?_) 3 0 zfuel m (by decide) (zf_lt (by decide)) frm_r (fun q hq => by omega)) (fun q hq => zok_s hq)
    rw [if_pos (by rw [← t1']; exact hge)]
    have hsm := e_smp (W := W) (H := H) (m := m') (r := r) (t := tTx (fun a => m.1 (r + a)) mt) (e := tE (fun a => m.1 (r + a)) (tTx (fun a => m.1 (r + a)) mt)) (l := lvS (wid (pcr f w8 h8 (l.getD 0 oF)) (pcr f w8 h8 (l.getD b oF)) (pcr f w8 h8 (l.getD c oF)) (nI (sd (tE (fun a => m.1 (r + a)) (tTx (fun a => m.1 (r + a)) mt)) 0)).toInt64) whole (tE (fun a => m.1 (r + a)) (tTx (fun a => m.1 (r + a)) mt)) 0) (k := k) (u := u) (v := v) hr (by rw [q2]; exact hR) (by rw [q2]; exact hs) (by rw [q1]; exact hwt) (by omega) (by omega) hk
    rw [q1] at hsm
    rw [hsm]
    unfold ownC
    dsimp only
    rw [if_neg (by rw [i32_lt, e0]; omega)]
  · have hng : ¬ (0 : Int32) ≤ m.1 (r + 6) mt := by rw [i32_le, e0]; exact e
    rw [if_neg hng]
    refine zok_b (show zok (L_MPainter_colour_35 (sh0 W H) zfuel 1285 (nI mt) u v lt _ _ 0 m) _ from e_col35 (W := W) (H := H) (m0 := m) (own := ownC (fun a => m.1 (r + a)) (pcr f w8 h8 (l.getD 0 oF)) (pcr f w8 h8 (l.getD b oF)) (pcr f w8 h8 (l.getD c oF)) whole mt u v) hr hR hs (by omega) (fun m' k hk q1 q2 => ?_) 3 0 zfuel m (by decide) (zf_lt (by decide)) frm_r (fun q hq => by omega)) (fun q hq => zok_s hq)
    rw [if_neg hng]
    unfold ownC
    dsimp only
    rw [if_pos (by rw [i32_lt, e0]; omega)]
end ZPX
