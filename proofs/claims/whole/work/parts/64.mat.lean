/-! PURE: the document's matrices, the reference's way -/
theorem kl_0 : ((0 : Int32) < 0) = False := eq_false (by decide)
theorem kc_0 : (0 : Int32).toNatClampNeg = 0 := by decide
theorem kl_1 : ((1 : Int32) < 0) = False := eq_false (by decide)
theorem kc_1 : (1 : Int32).toNatClampNeg = 1 := by decide
theorem kl_2 : ((2 : Int32) < 0) = False := eq_false (by decide)
theorem kc_2 : (2 : Int32).toNatClampNeg = 2 := by decide
theorem kl_3 : ((3 : Int32) < 0) = False := eq_false (by decide)
theorem kc_3 : (3 : Int32).toNatClampNeg = 3 := by decide
theorem kl_4 : ((4 : Int32) < 0) = False := eq_false (by decide)
theorem kc_4 : (4 : Int32).toNatClampNeg = 4 := by decide
theorem kl_5 : ((5 : Int32) < 0) = False := eq_false (by decide)
theorem kc_5 : (5 : Int32).toNatClampNeg = 5 := by decide
theorem kl_6 : ((6 : Int32) < 0) = False := eq_false (by decide)
theorem kc_6 : (6 : Int32).toNatClampNeg = 6 := by decide
theorem kl_7 : ((7 : Int32) < 0) = False := eq_false (by decide)
theorem kc_7 : (7 : Int32).toNatClampNeg = 7 := by decide
theorem kl_8 : ((8 : Int32) < 0) = False := eq_false (by decide)
theorem kc_8 : (8 : Int32).toNatClampNeg = 8 := by decide
theorem kl_9 : ((9 : Int32) < 0) = False := eq_false (by decide)
theorem kc_9 : (9 : Int32).toNatClampNeg = 9 := by decide
theorem kl_10 : ((10 : Int32) < 0) = False := eq_false (by decide)
theorem kc_10 : (10 : Int32).toNatClampNeg = 10 := by decide
theorem kl_11 : ((11 : Int32) < 0) = False := eq_false (by decide)
theorem kc_11 : (11 : Int32).toNatClampNeg = 11 := by decide
theorem kl_12 : ((12 : Int32) < 0) = False := eq_false (by decide)
theorem kc_12 : (12 : Int32).toNatClampNeg = 12 := by decide
theorem nI_k0 : (0 : Int32) = nI 0 := nrfl rfl
theorem nI_k1 : (1 : Int32) = nI 1 := nrfl rfl
theorem nI_k2 : (2 : Int32) = nI 2 := nrfl rfl
theorem nI_k3 : (3 : Int32) = nI 3 := nrfl rfl
theorem nI_k4 : (4 : Int32) = nI 4 := nrfl rfl
theorem nI_k5 : (5 : Int32) = nI 5 := nrfl rfl
theorem nI_k6 : (6 : Int32) = nI 6 := nrfl rfl
theorem nI_k8 : (8 : Int32) = nI 8 := nrfl rfl
theorem nI_k12 : (12 : Int32) = nI 12 := nrfl rfl
/-- an entry of a product -/
def pT (a b : Nat → Int64) (i j : Nat) : Int64 := sp_MPainter_bound (((sp_MPainter_mul (a (4 * i)) (b j) + sp_MPainter_mul (a (4 * i + 1)) (b (4 + j))) + sp_MPainter_mul (a (4 * i + 2)) (b (8 + j))) + (if j = 3 then a (4 * i + 3) else 0))
/-- the product, behind its twelve entries something else -/
def pM (a b o : Nat → Int64) : Nat → Int64 := fun k => if k < 12 then pT a b (k / 4) (k % 4) else o k
theorem e_times_10 {sh : zSh} {v0 v1 v2 a : Nat} (h0 : sh v0 = some (13, 0)) (h1 : sh v1 = some (102, 12)) (h2 : sh v2 = some (102, 12)) (ha : sh a = some (102, 12)) (n1 : v1 ≠ a) (n2 : v2 ≠ a) {i : Nat} (hi : i < 3) : ∀ (d j fuel : Nat) (mm : zMem), j + d = 4 → d < fuel → mm.2.2 v0 19 = some a → L_MPainter_times_10 sh fuel v0 v1 v2 (nI i) (nI j) mm = some (v0, v1, v2, nI i, nI 4, sL mm a (fun k => if 4 * i + j ≤ k ∧ k < 4 * i + 4 then pT (mm.2.1 v1) (mm.2.1 v2) i (k - 4 * i) else mm.2.1 a k)) := by
  intro d
  induction d with
  | zero =>
    intro j fuel mm hj hf hr
    obtain ⟨fu, rfl⟩ : ∃ fu, fuel = fu + 1 := ⟨fuel - 1, by omega⟩
    obtain rfl : j = 4 := by omega
    simp only [L_MPainter_times_10]
    rw [if_pos (by decide)]
    refine congrArg (fun z => some (v0, v1, v2, nI i, nI 4, z)) ?_
    rw [sL_to (h := mm.2.1 a) (fun k => if_neg (by omega)), sL_id]
  | succ d ih =>
    intro j fuel mm hj hf hr
    obtain ⟨fu, rfl⟩ : ∃ fu, fuel = fu + 1 := ⟨fuel - 1, by omega⟩
    have hj4 : ¬ 4 ≤ j := by omega
    have hr' : ∀ g, (sL mm a g).2.2 v0 19 = some a := fun _ => hr
    simp (disch := first | assumption | omega) only [L_MPainter_times_10, nI_k1, nI_k2, nI_k3, nI_k4, nI_k8, nI_add, nI_mul, nI_leD, nI_eqD, hj4, ↓zoS_h h0, h0, ↓zoS_h h1, h1, ↓zoS_h h2, h2, ↓zoS_h ha, ha, ↓zob_h hr, hr, ↓zoL_e, ↓zob_e, ↓reduceIte, zoS_e, zob_e, nI_lt0, nI_lt00, nI_cl, nle_f, or_self, or_false, false_or]
    by_cases hj3 : j = 3
    · subst hj3
      rw [mL_sL, ih (3 + 1) fu _ (by omega) (by omega) (hr' _)]
      refine congrArg (fun z => some (v0, v1, v2, nI i, nI 4, z)) ?_
      rw [sL_sL]
      refine sL_to (fun k => ?_)
      simp only [sL_at, sL_ne n1, sL_ne n2, vp_updL]
      by_cases hk : k = 4 * i + 3
      · subst hk
        rw [if_neg (by omega), if_pos rfl, if_pos (by omega), show 4 * i + 3 - 4 * i = 3 by omega]
        rfl
      · rw [if_neg (by omega), if_neg hk, if_neg (by omega)]
    · rw [if_neg hj3, mL_sL, ih (j + 1) fu _ (by omega) (by omega) (hr' _)]
      refine congrArg (fun z => some (v0, v1, v2, nI i, nI 4, z)) ?_
      rw [sL_sL]
      refine sL_to (fun k => ?_)
      simp only [sL_at, sL_ne n1, sL_ne n2, vp_updL]
      by_cases hk : k = 4 * i + j
      · subst hk
        rw [if_neg (by omega), if_pos rfl, if_pos (by omega), show 4 * i + j - 4 * i = j by omega]
        unfold pT
        rw [if_neg hj3]
      · by_cases hk2 : 4 * i + j ≤ k ∧ k < 4 * i + 4
        · rw [if_pos (by omega), if_pos hk2]
        · rw [if_neg (by omega), if_neg hk, if_neg hk2]
theorem e_times_2 {sh : zSh} {v0 v1 v2 a : Nat} (h0 : sh v0 = some (13, 0)) (h1 : sh v1 = some (102, 12)) (h2 : sh v2 = some (102, 12)) (ha : sh a = some (102, 12)) (n1 : v1 ≠ a) (n2 : v2 ≠ a) : ∀ (d i fuel : Nat) (mm : zMem), i + d = 3 → d < fuel → mm.2.2 v0 19 = some a → L_MPainter_times_2 sh fuel v0 v1 v2 (nI i) mm = some (v0, v1, v2, nI 3, sL mm a (fun k => if 4 * i ≤ k ∧ k < 12 then pT (mm.2.1 v1) (mm.2.1 v2) (k / 4) (k % 4) else mm.2.1 a k)) := by
  intro d
  induction d with
  | zero =>
    intro i fuel mm hj hf hr
    obtain ⟨fu, rfl⟩ : ∃ fu, fuel = fu + 1 := ⟨fuel - 1, by omega⟩
    obtain rfl : i = 3 := by omega
    simp only [L_MPainter_times_2]
    rw [if_pos (by decide)]
    refine congrArg (fun z => some (v0, v1, v2, nI 3, z)) ?_
    rw [sL_to (h := mm.2.1 a) (fun k => if_neg (by omega)), sL_id]
  | succ d ih =>
    intro i fuel mm hj hf hr
    obtain ⟨fu, rfl⟩ : ∃ fu, fuel = fu + 1 := ⟨fuel - 1, by omega⟩
    have hi3 : ¬ 3 ≤ i := by omega
    have hr' : ∀ g, (sL mm a g).2.2 v0 19 = some a := fun _ => hr
    simp only [L_MPainter_times_2]
    rw [if_neg (by rw [nI_k3, nI_leD (by omega) (by omega)]; exact hi3), nI_k0, e_times_10 h0 h1 h2 ha n1 n2 (by omega) 4 0 zfuel mm rfl (by decide) hr]
    simp only [zob_e, nI_k1, nI_add]
    rw [ih (i + 1) fu _ (by omega) (by omega) (hr' _)]
    refine congrArg (fun z => some (v0, v1, v2, nI 3, z)) ?_
    rw [sL_sL]
    refine sL_to (fun k => ?_)
    simp only [sL_at, sL_ne n1, sL_ne n2]
    by_cases hk : 4 * (i + 1) ≤ k ∧ k < 12
    · rw [if_pos hk, if_pos (by omega)]
    · rw [if_neg hk]
      by_cases hk2 : 4 * i + 0 ≤ k ∧ k < 4 * i + 4
      · rw [if_pos hk2, if_pos (by omega), show k / 4 = i by omega, show k % 4 = k - 4 * i by omega]
      · rw [if_neg hk2, if_neg (by omega)]
theorem e_times_113 {sh : zSh} {v0 v1 a : Nat} (h0 : sh v0 = some (13, 0)) (h1 : sh v1 = some (102, 12)) (ha : sh a = some (102, 12)) (n1 : v1 ≠ a) : ∀ (d i fuel : Nat) (mm : zMem), i + d = 12 → d < fuel → mm.2.2 v0 19 = some a → L_MPainter_times_113 sh fuel v0 v1 (nI i) mm = some (v0, v1, nI 12, sL mm v1 (fun k => if i ≤ k ∧ k < 12 then mm.2.1 a k else mm.2.1 v1 k)) := by
  intro d
  induction d with
  | zero =>
    intro i fuel mm hj hf hr
    obtain ⟨fu, rfl⟩ : ∃ fu, fuel = fu + 1 := ⟨fuel - 1, by omega⟩
    obtain rfl : i = 12 := by omega
    simp only [L_MPainter_times_113]
    rw [if_pos (by decide)]
    refine congrArg (fun z => some (v0, v1, nI 12, z)) ?_
    rw [sL_to (h := mm.2.1 v1) (fun k => if_neg (by omega)), sL_id]
  | succ d ih =>
    intro i fuel mm hj hf hr
    obtain ⟨fu, rfl⟩ : ∃ fu, fuel = fu + 1 := ⟨fuel - 1, by omega⟩
    have hi3 : ¬ 12 ≤ i := by omega
    have hr' : ∀ g, (sL mm v1 g).2.2 v0 19 = some a := fun _ => hr
    simp (disch := first | assumption | omega) only [L_MPainter_times_113, nI_k1, nI_k12, nI_add, nI_leD, hi3, ↓zoS_h h0, h0, ↓zoS_h h1, h1, ↓zoS_h ha, ha, ↓zob_h hr, hr, ↓zoL_e, ↓zob_e, ↓reduceIte, zoS_e, zob_e, nI_lt0, nI_lt00, nI_cl, nle_f, or_self, or_false, false_or]
    rw [mL_sL, ih (i + 1) fu _ (by omega) (by omega) (hr' _)]
    refine congrArg (fun z => some (v0, v1, nI 12, z)) ?_
    rw [sL_sL]
    refine sL_to (fun k => ?_)
    simp only [sL_at, sL_ne (Ne.symm n1), vp_updL]
    by_cases hk : i + 1 ≤ k ∧ k < 12
    · rw [if_pos hk, if_pos (by omega)]
    · rw [if_neg hk]
      by_cases hk2 : k = i
      · subst hk2
        rw [if_pos rfl, if_pos (by omega)]
      · rw [if_neg hk2, if_neg (by omega)]
/-- the reference's product: made and a get it -/
theorem e_times {sh : zSh} {mm : zMem} {o x y a : Nat} (h0 : sh o = some (13, 0)) (h1 : sh x = some (102, 12)) (h2 : sh y = some (102, 12)) (ha : sh a = some (102, 12)) (n1 : x ≠ a) (n2 : y ≠ a) (hr : mm.2.2 o 19 = some a) : F_MPainter_times sh mm o x y = some (sL (sL mm a (pM (mm.2.1 x) (mm.2.1 y) (mm.2.1 a))) x (pM (mm.2.1 x) (mm.2.1 y) (mm.2.1 x))) := by
  unfold F_MPainter_times
  rw [nI_k0, e_times_2 h0 h1 h2 ha n1 n2 3 0 zfuel mm rfl (by decide) hr]
  simp only [zob_e]
  rw [e_times_113 h0 h1 ha n1 12 0 zfuel _ rfl (by decide) (show (sL mm a _).2.2 o 19 = some a from hr)]
  simp only [zob_e]
  refine congrArg some ?_
  rw [show (fun k => if 4 * 0 ≤ k ∧ k < 12 then pT (mm.2.1 x) (mm.2.1 y) (k / 4) (k % 4) else mm.2.1 a k) = pM (mm.2.1 x) (mm.2.1 y) (mm.2.1 a) from funext fun k => by
    unfold pM
    by_cases hk : k < 12
    · rw [if_pos ⟨by omega, hk⟩, if_pos hk]
    · rw [if_neg (by omega), if_neg hk]]
  refine sL_to (fun k => ?_)
  rw [sL_at, sL_ne n1]
  unfold pM
  by_cases hk : k < 12
  · rw [if_pos ⟨by omega, hk⟩, if_pos hk, if_pos hk]
  · rw [if_neg (by omega), if_neg hk]
