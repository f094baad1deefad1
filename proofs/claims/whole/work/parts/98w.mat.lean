/-! PURE: the reference's matrix of a node; points; who is seen; who goes ahead -/
/-- a frame of the painter: all but some ints and some longs stay -/
def frm (I L : List Nat) (m m' : zMem) : Prop := m'.2.2 = m.2.2 ∧ (∀ k, k ∉ I → m'.1 k = m.1 k) ∧ ∀ k, k ∉ L → m'.2.1 k = m.2.1 k
section ZMT
variable {W H : Nat}
theorem frm_r {I L : List Nat} {m : zMem} : frm I L m m := ⟨rfl, fun _ _ => rfl, fun _ _ => rfl⟩
theorem frm_t {I L I' L' : List Nat} {m m' m'' : zMem} (h : frm I L m m') (k : frm I' L' m' m'') (hI : ∀ x, x ∈ I → x ∈ I') (hL : ∀ x, x ∈ L → x ∈ L') : frm I' L' m m'' := ⟨k.1.trans h.1, fun a ha => (k.2.1 a ha).trans (h.2.1 a (fun q => ha (hI a q))), fun a ha => (k.2.2 a ha).trans (h.2.2 a (fun q => ha (hL a q)))⟩
theorem frm_w {I L I' L' : List Nat} {m m' : zMem} (h : frm I L m m') (hI : ∀ x, x ∈ I → x ∈ I') (hL : ∀ x, x ∈ L → x ∈ L') : frm I' L' m m' := ⟨h.1, fun a ha => h.2.1 a (fun q => ha (hI a q)), fun a ha => h.2.2 a (fun q => ha (hL a q))⟩
theorem e_tm11 : ∀ (d i fuel : Nat) (m : zMem), i + d = 12 → d < fuel → RF m.2.2 → L_MPainter_toMatrix_11 (sh0 W H) fuel 1285 (nI i) m = some (1285, nI 12, sL m 1288 (fun k => if i ≤ k ∧ k < 12 then m.2.1 1287 k else m.2.1 1288 k)) := by
  intro d
  induction d with
  | zero =>
    intro i fuel m hid hf hR
    obtain ⟨fu, rfl⟩ : ∃ fu, fuel = fu + 1 := ⟨fuel - 1, by omega⟩
    obtain rfl : i = 12 := by omega
    rw [L_MPainter_toMatrix_11, if_pos (by decide)]
    rw [show (fun k => if 12 ≤ k ∧ k < 12 then m.2.1 1287 k else m.2.1 1288 k) = m.2.1 1288 from funext fun k => if_neg (by omega), sL_id]
  | succ d ih =>
    intro i fuel m hid hf hR
    obtain ⟨fu, rfl⟩ : ∃ fu, fuel = fu + 1 := ⟨fuel - 1, by omega⟩
    rw [L_MPainter_toMatrix_11, if_neg (by rw [show (12 : Int32) = nI 12 from rfl, nI_leD (by omega) (by omega)]; omega), zoS_h sh_1285, zob_h (rf_1285_16 hR), zoS_h sh_1285, zob_h (rf_1285_15 hR), zoS_h sh_1287, nI_ix (by omega) (by decide), nI_cl (by omega), zoL_e, zoS_h sh_1288, if_neg (fun q => q.elim (nI_pos (by omega)) (by omega)), zoL_e, nI_p1, ih (i + 1) fu (mL m 1288 i (m.2.1 1287 i)) (by omega) (by omega) hR, mL_sL, sL_sL]
    congr 4
    funext k
    rw [sL_ne (by decide), sL_at]
    unfold vp_updL
    by_cases e : k = i
    · subst e
      rw [if_neg (by omega), if_pos rfl, if_pos (by omega)]
    · by_cases e2 : i + 1 ≤ k ∧ k < 12
      · rw [if_pos e2, if_pos (by omega)]
      · rw [if_neg e2, if_neg e, if_neg (by omega)]
theorem mW_c {f : Nat → Nat → Int32} {r i k : Nat} {a b o : Nat → Int64} (ha : ∀ k, k < 12 → a k = vW f r k) (hb : ∀ k, k < 12 → b k = wW f r i k) (hk : k < 12) : pM a b o k = mW f r i k := pM_c ha hb hk
theorem vW_c {f g : Nat → Nat → Int32} {r : Nat} (h27 : f (r + 27) = g (r + 27)) (h28 : f (r + 28) = g (r + 28)) (k : Nat) : vW f r k = vW g r k := by
  unfold vW vS3
  rw [h27, h28]
theorem e_toMatrix {mm : zMem} {r nd n : Nat} (hR : RF mm.2.2) (hs : mm.2.2 1285 5 = some r) (hr : gM r) (hn : nd < n) (hn2 : n ≤ 48) (ht : trnB mm.1 r n) (hp : parB (mm.1 (r + 15)) n) (hx : ∀ c, c < 3 → -1048576 ≤ (mm.1 (r + 28) c).toInt ∧ (mm.1 (r + 28) c).toInt ≤ 1048576) : zok (F_MPainter_toMatrix (sh0 W H) mm 1285 (nI nd)) (fun m' => frm [1292] [1286, 1287, 1288, 1289, 1290, 1291] mm m' ∧ (∀ k, k < 12 → m'.2.1 1286 k = wW mm.1 r nd k) ∧ ∀ k, k < 12 → m'.2.1 1288 k = mW mm.1 r nd k) := by
  unfold F_MPainter_toMatrix
  rw [zoS_h sh_1285]
  refine zok_b (e_toWorld hR hs hr hn hn2 ht hp) (fun m1 h1 => ?_)
  obtain ⟨⟨a1, a2, a3⟩, a4⟩ := h1
  have ra : ∀ q, q < 30 → m1.1 (r + q) = mm.1 (r + q) := fun q hq => a1 _ (by rcases hr with e | e | e <;> omega)
  rw [zoS_h sh_1285]
  refine zok_b (e_toView (W := W) (H := H) (r := r) (mm := m1) (by rw [a2]; exact hR) (by rw [a2]; exact hs) hr (fun c hc => by rw [ra 28 (by decide)]; exact hx c hc)) (fun m2 h2 => ?_)
  obtain ⟨⟨b1, b2, b3⟩, b4⟩ := h2
  have hR2 : RF m2.2.2 := by rw [b2, a2]; exact hR
  rw [show (0 : Int32) = nI 0 from rfl, zob_h (e_tm11 12 0 zfuel m2 (by decide) (zf_lt (by decide)) hR2)]
  have hR3 : RF (sL m2 1288 (fun k => if 0 ≤ k ∧ k < 12 then m2.2.1 1287 k else m2.2.1 1288 k)).2.2 := hR2
  dsimp only
  rw [zoS_h sh_1285, zob_h (rf_1285_16 hR3), zoS_h sh_1285, zob_h (rf_1285_14 hR3), zoS_h sh_1285, zob_h (e_times sh_1285 sh_1288 sh_1286 sh_1291 (by decide) (by decide) (rf_1285_19 hR3))]
  have c1 : ∀ k, k < 12 → (fun k => if 0 ≤ k ∧ k < 12 then m2.2.1 1287 k else m2.2.1 1288 k) k = vW mm.1 r k := fun k hk => by
    dsimp only
    rw [if_pos ⟨Nat.zero_le _, hk⟩, b4 k hk, vW_c (ra 27 (by decide)) (ra 28 (by decide))]
  have c2 : ∀ k, k < 12 → m2.2.1 1286 k = wW mm.1 r nd k := fun k hk => by rw [b3 1286 (by decide), a4 k hk]
  refine zok_s ⟨⟨by rw [sL_R, sL_R, sL_R, b2, a2], fun k hk => ?_, fun k hk => ?_⟩, fun k hk => ?_, fun k hk => ?_⟩
  · rw [sL_I, sL_I, sL_I, b1, a1 k (by simp at hk; exact hk)]
  · simp at hk
    rw [sL_ne (by omega), sL_ne (by omega), sL_ne (by omega), b3 k (by simp; omega), a3 k (by simp; omega)]
  · rw [sL_ne (by decide), sL_ne (by decide), sL_ne (by decide), c2 k hk]
  · rw [sL_at, sL_at, sL_ne (by decide)]
    exact mW_c c1 c2 hk
/-- a point or a direction moved -/
def apP (a : Nat → Int64) (i : Nat) (x y z : Int64) : Int64 := sp_MPainter_bound (((sp_MPainter_mul (a (4 * i)) x + sp_MPainter_mul (a (4 * i + 1)) y) + sp_MPainter_mul (a (4 * i + 2)) z) + a (4 * i + 3))
def apD (a : Nat → Int64) (i : Nat) (x y z : Int64) : Int64 := sp_MPainter_bound (((sp_MPainter_mul (a (4 * i)) x + sp_MPainter_mul (a (4 * i + 1)) y) + sp_MPainter_mul (a (4 * i + 2)) z) + 0)
theorem e_applied {m : zMem} {a A n i t : Nat} {x4 : Int32} (ha : sh0 W H a = some (102, 12)) (hA : sh0 W H A = some (100, n)) (hi : i < 3) (ht : t + 2 < n) (hn : n < 100000) : F_MPainter_applied (sh0 W H) m a (nI i) A (nI t) x4 = some (if x4 = 0 then apD (m.2.1 a) i (m.1 A t).toInt64 (m.1 A (t + 1)).toInt64 (m.1 A (t + 2)).toInt64 else apP (m.2.1 a) i (m.1 A t).toInt64 (m.1 A (t + 1)).toInt64 (m.1 A (t + 2)).toInt64, m) := by
  have g0 : 4 * nI i = nI (4 * i) := by rw [show (4 : Int32) = nI 4 from rfl, nI_mul]
  have g1 : 4 * nI i + 1 = nI (4 * i + 1) := nI_4 i 1
  have g2 : 4 * nI i + 2 = nI (4 * i + 2) := nI_4 i 2
  have g3 : 4 * nI i + 3 = nI (4 * i + 3) := nI_4 i 3
  have t1 : nI t + 1 = nI (t + 1) := nI_p1 t
  have t2 : nI t + 2 = nI (t + 2) := (Int32.ofNat_add t 2).symm
  unfold F_MPainter_applied
  have c0 := nI_cl (show 4 * i < 2147483648 by omega)
  have c1 := nI_cl (show 4 * i + 1 < 2147483648 by omega)
  have c2 := nI_cl (show 4 * i + 2 < 2147483648 by omega)
  have c3 := nI_cl (show 4 * i + 3 < 2147483648 by omega)
  have d0 := nI_cl (show t < 2147483648 by omega)
  have d1 := nI_cl (show t + 1 < 2147483648 by omega)
  have d2 := nI_cl (show t + 2 < 2147483648 by omega)
  rw [g1, g2, g3, g0, t1, t2, zoL_e, zoS_h ha, nI_ix (by omega) (by decide), zoS_h hA, nI_ix (by omega) (by omega), zoL_e, zoL_e, zoL_e, zoS_h ha, nI_ix (by omega) (by decide), zoL_e, zoS_h hA, nI_ix (by omega) (by omega), zoL_e, zoL_e, zoL_e, zoS_h ha, nI_ix (by omega) (by decide), zoL_e, zoS_h hA, nI_ix (by omega) (by omega), zoL_e, zoL_e, zoL_e, c0, c1, c2, d0, d1, d2]
  by_cases e : x4 = 0
  · rw [if_pos e, if_pos e]
    rfl
  · rw [if_neg e, if_neg e, zoL_e, zoS_h ha, nI_ix (by omega) (by decide), zoL_e, c3]
    rfl
end ZMT
