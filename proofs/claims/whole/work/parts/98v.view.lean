/-! PURE: the reference's view and matrix -/
/-- the camera's matrix -/
def vS3 (f : Nat → Nat → Int32) (r i : Nat) : Int64 := (sp_MPainter_mul (tR (f (r + 28) 0) (f (r + 28) 1) (f (r + 28) 2) i) (f (r + 27) 0).toInt64 + sp_MPainter_mul (tR (f (r + 28) 0) (f (r + 28) 1) (f (r + 28) 2) (4 + i)) (f (r + 27) 1).toInt64) + sp_MPainter_mul (tR (f (r + 28) 0) (f (r + 28) 1) (f (r + 28) 2) (8 + i)) (f (r + 27) 2).toInt64
def vW (f : Nat → Nat → Int32) (r k : Nat) : Int64 := if k % 4 = 3 then sp_MPainter_bound (-(vS3 f r (k / 4))) else tR (f (r + 28) 0) (f (r + 28) 1) (f (r + 28) 2) (4 * (k % 4) + k / 4)
/-- a node's matrix before the camera -/
def mW (f : Nat → Nat → Int32) (r i : Nat) : Nat → Int64 := pM (vW f r) (wW f r i) (fun _ => 0)
section ZVW
variable {W H : Nat}
theorem mL_v {m : zMem} {a j b i : Nat} {v : Int64} : (mL m a j v).2.1 b i = if b = a then (if i = j then v else m.2.1 b i) else m.2.1 b i := by
  rw [mL_sL]
  by_cases h : b = a
  · subst h
    rw [if_pos rfl, sL_at]
    rfl
  · rw [if_neg h, sL_ne h]
theorem nI_4 (w c : Nat) : 4 * nI w + nI c = nI (4 * w + c) := by
  rw [show (4 : Int32) = nI 4 from rfl, nI_mul]
  exact (Int32.ofNat_add _ _).symm
theorem e_tv24 {r i j fu : Nat} {S : Int64} {m : zMem} (hr : gM r) (hi : i < 3) (hj : j < 3) (hR : RF m.2.2) (hs : m.2.2 1285 5 = some r) : L_MPainter_toView_24 (sh0 W H) (fu + 1) 1285 (nI i) S (nI j) m = L_MPainter_toView_24 (sh0 W H) fu 1285 (nI i) (S + sp_MPainter_mul (m.2.1 1290 (4 * j + i)) (m.1 (r + 27) j).toInt64) (nI (j + 1)) (mL m 1287 (4 * i + j) (m.2.1 1290 (4 * j + i))) := by
  have hR1 : RF (mL m 1287 (4 * i + j) (m.2.1 1290 (4 * j + i))).2.2 := hR
  have hs1 : (mL m 1287 (4 * i + j) (m.2.1 1290 (4 * j + i))).2.2 1285 5 = some r := hs
  conv => lhs; unfold L_MPainter_toView_24
  rw [nI_4, nI_4, if_neg (by rw [show (3 : Int32) = nI 3 from rfl, nI_leD (by omega) (by omega)]; omega), zoS_h sh_1285, zob_h (rf_1285_15 hR), zoS_h sh_1285, zob_h (rf_1285_18 hR), zoL_e, zoS_h sh_1290, nI_ix (by omega) (by decide), nI_cl (by omega), zoL_e, zoL_e, zoS_h sh_1287, nI_ix (by omega) (by decide), nI_cl (by omega), zoL_e, zoS_h sh_1285, zob_h (rf_1285_15 hR1), zoL_e, zoS_h sh_1287, nI_ix (by omega) (by decide), zoS_h sh_1285, zob_h hs1, zoS_h (sh_m0 hr), zob_h (rf_m31 hR1 hr), zoS_h (sh_m27 hr), nI_ix (a := j) (by omega) (by decide), nI_cl (n := 4 * i + j) (by omega), nI_cl (n := j) (by omega), zoL_e, zoL_e, zoL_e, nI_p1, mL_e, mL_1]
theorem e_tv14 {r i : Nat} {m : zMem} (hr : gM r) (hi : i < 3) (hR : RF m.2.2) (hs : m.2.2 1285 5 = some r) : zok (L_MPainter_toView_24 (sh0 W H) zfuel 1285 (nI i) 0 (nI 0) m) (fun q => q.1 = 1285 ∧ q.2.1 = nI i ∧ q.2.2.1 = (sp_MPainter_mul (m.2.1 1290 i) (m.1 (r + 27) 0).toInt64 + sp_MPainter_mul (m.2.1 1290 (4 + i)) (m.1 (r + 27) 1).toInt64) + sp_MPainter_mul (m.2.1 1290 (8 + i)) (m.1 (r + 27) 2).toInt64 ∧ lfr [1287] m q.2.2.2.2 ∧ (∀ j, j < 3 → q.2.2.2.2.2.1 1287 (4 * i + j) = m.2.1 1290 (4 * j + i)) ∧ ∀ k, ¬ (4 * i ≤ k ∧ k < 4 * i + 3) → q.2.2.2.2.2.1 1287 k = m.2.1 1287 k) := by
  have o : ∀ (m' : zMem) (j : Nat) (v : Int64), (mL m' 1287 j v).2.1 1290 = m'.2.1 1290 := fun m' j v => mL_o (by decide)
  rw [show zfuel = 999996 + 1 + 1 + 1 + 1 from nrfl rfl, e_tv24 hr hi (by decide) hR hs, e_tv24 (m := mL m 1287 (4 * i + 0) (m.2.1 1290 (4 * 0 + i))) hr hi (by decide) hR hs, e_tv24 (m := mL (mL m 1287 (4 * i + 0) (m.2.1 1290 (4 * 0 + i))) 1287 (4 * i + (0 + 1)) ((mL m 1287 (4 * i + 0) (m.2.1 1290 (4 * 0 + i))).2.1 1290 (4 * (0 + 1) + i))) hr hi (by decide) hR hs, L_MPainter_toView_24, if_pos (by decide)]
  refine zok_s ⟨rfl, rfl, ?_, ⟨rfl, rfl, fun k hk => ?_⟩, fun j hj => ?_, fun k hk => ?_⟩
  · simp only [o, mL_1]
    rw [Int64.zero_add, show 4 * 0 + i = i by omega, show 4 * (0 + 1) + i = 4 + i by omega, show 4 * (0 + 1 + 1) + i = 8 + i by omega]
  · have : k ≠ 1287 := fun e => hk (by rw [e]; decide)
    dsimp only
    rw [mL_o this, mL_o this, mL_o this]
  · dsimp only
    simp only [o]
    rw [mL_v, if_pos rfl]
    by_cases e2 : j = 2
    · subst e2; rw [if_pos (by omega)]
    rw [if_neg (by omega), mL_v, if_pos rfl]
    by_cases e1 : j = 1
    · subst e1; rw [if_pos (by omega)]
    rw [if_neg (by omega), mL_v, if_pos rfl]
    obtain rfl : j = 0 := by omega
    rw [if_pos rfl]
  · dsimp only
    rw [mL_v, if_pos rfl, if_neg (by omega), mL_v, if_pos rfl, if_neg (by omega), mL_v, if_pos rfl, if_neg (by omega)]
theorem e_tv {r : Nat} {f : Nat → Nat → Int32} (hr : gM r) : ∀ (d i fuel : Nat) (m : zMem), i + d = 3 → d < fuel → RF m.2.2 → m.2.2 1285 5 = some r → m.1 = f → (∀ k, k < 12 → m.2.1 1290 k = tR (f (r + 28) 0) (f (r + 28) 1) (f (r + 28) 2) k) → (∀ k, k < 4 * i → m.2.1 1287 k = vW f r k) → zok (L_MPainter_toView_14 (sh0 W H) fuel 1285 (nI i) m) (fun q => lfr [1287] m q.2.2 ∧ ∀ k, k < 12 → q.2.2.2.1 1287 k = vW f r k) := by
  intro d
  induction d with
  | zero =>
    intro i fuel m hid hf hR hs hm hT hv
    obtain ⟨fu, rfl⟩ : ∃ fu, fuel = fu + 1 := ⟨fuel - 1, by omega⟩
    rw [L_MPainter_toView_14, if_pos (by rw [show (3 : Int32) = nI 3 from rfl, nI_leD (by omega) (by omega)]; omega)]
    exact zok_s ⟨⟨rfl, rfl, fun _ _ => rfl⟩, fun k hk => hv k (by omega)⟩
  | succ d ih =>
    intro i fuel m hid hf hR hs hm hT hv
    obtain ⟨fu, rfl⟩ : ∃ fu, fuel = fu + 1 := ⟨fuel - 1, by omega⟩
    rw [L_MPainter_toView_14, if_neg (by rw [show (3 : Int32) = nI 3 from rfl, nI_leD (by omega) (by omega)]; omega)]
    refine zok_b (e_tv14 hr (show i < 3 by omega) hR hs) (fun q hq => ?_)
    obtain ⟨q0, q1, S, q3, m'⟩ := q
    obtain ⟨p1, p2, p3, p4, p5, p6⟩ := hq
    simp only at p1 p2 p3 p4 p5 p6
    subst p1 p2
    obtain ⟨l1, l2, l3⟩ := p4
    have hR' : RF m'.2.2 := by rw [l2]; exact hR
    have g3 : 4 * nI i + 3 = nI (4 * i + 3) := nI_4 i 3
    dsimp only
    rw [zoS_h sh_1285, zob_h (rf_1285_15 hR'), zoL_e, zoL_e, g3, zoS_h sh_1287, nI_ix (by omega) (by decide), nI_cl (by omega), zoL_e, nI_p1]
    have nd : ∀ k, k ≠ 1287 → (mL m' 1287 (4 * i + 3) (sp_MPainter_bound (-S))).2.1 k = m.2.1 k := fun k hk => by rw [mL_o hk, l3 k (by simp [hk])]
    refine zok_w (ih (i + 1) fu (mL m' 1287 (4 * i + 3) (sp_MPainter_bound (-S))) (by omega) (by omega) hR' (by rw [mL_R, l2]; exact hs) (by rw [mL_1, l1]; exact hm) (fun k hk => by rw [nd _ (by decide)]; exact hT k hk) (fun k hk => ?_)) (fun q hq => ⟨⟨by rw [hq.1.1, mL_1, l1], by rw [hq.1.2.1, mL_R, l2], fun k hk => by rw [hq.1.2.2 k hk, nd k (fun e => hk (by rw [e]; decide))]⟩, hq.2⟩)
    rw [mL_v, if_pos rfl]
    by_cases e3 : k = 4 * i + 3
    · rw [if_pos e3, e3]
      unfold vW vS3
      rw [if_pos (by omega), p3, hT _ (by omega), hT _ (by omega), hT _ (by omega), show (4 * i + 3) / 4 = i by omega, hm]
    rw [if_neg e3]
    by_cases e4 : 4 * i ≤ k
    · have q := p5 (k - 4 * i) (by omega)
      rw [show 4 * i + (k - 4 * i) = k by omega] at q
      rw [q, hT _ (by omega)]
      unfold vW
      rw [if_neg (by omega), show k % 4 = k - 4 * i by omega, show k / 4 = i by omega]
    · rw [p6 k (by omega)]
      exact hv k (by omega)
theorem e_toView {r : Nat} {mm : zMem} (hR : RF mm.2.2) (hs : mm.2.2 1285 5 = some r) (hr : gM r) (hx : ∀ c, c < 3 → -1048576 ≤ (mm.1 (r + 28) c).toInt ∧ (mm.1 (r + 28) c).toInt ≤ 1048576) : zok (F_MPainter_toView (sh0 W H) mm 1285) (fun m' => lfr [1287, 1289, 1290, 1291] mm m' ∧ ∀ k, k < 12 → m'.2.1 1287 k = vW mm.1 r k) := by
  unfold F_MPainter_toView
  rw [zoS_h sh_1285, zob_h hs, zoS_h (sh_m0 hr), zob_h (rf_m32 hR hr), zoS_h sh_1285]
  refine zok_b (e_toTurn hR (A := r + 28) (n := 3) (t := 0) (sh_m28 hr) (by decide) (by decide) (fun c hc => by rw [Nat.zero_add]; exact hx c hc)) (fun m1 h1 => ?_)
  obtain ⟨⟨l1, l2, l3⟩, hT⟩ := h1
  refine zok_b (e_tv (W := W) (H := H) (f := mm.1) hr 3 0 zfuel m1 (by decide) (zf_lt (by decide)) (by rw [l2]; exact hR) (by rw [l2]; exact hs) l1 hT (fun k hk => by omega)) (fun q hq => ?_)
  obtain ⟨⟨k1, k2, k3⟩, hv⟩ := hq
  refine zok_s ⟨⟨by rw [k1, l1], by rw [k2, l2], fun k hk => ?_⟩, hv⟩
  rw [k3 k (fun q => hk (by simp at q ⊢; omega)), l3 k (fun q => hk (by simp at q ⊢; omega))]
end ZVW
