/-! PURE: the class's matrices -/
theorem neg64 {x : Int32} (h : -2147483648 < x.toInt) : (-x).toInt64 = -x.toInt64 := by
  apply i64_ext
  rw [Int32.toInt_toInt64, i32_neg h, i64_neg, Int32.toInt_toInt64]
  rw [Int32.toInt_toInt64]
  omega
theorem e_along {sh : zSh} {mm : zMem} {a i n : Nat} (ha : sh a = some (100, n)) (hn : n < 100000) (hi : 4 * i + 3 < n) (x y z : Int64) : F_XFixed_along sh mm a (nI i) x y z = some ((sp_MPainter_mul (mm.1 a (4 * i)).toInt64 x + sp_MPainter_mul (mm.1 a (4 * i + 1)).toInt64 y) + sp_MPainter_mul (mm.1 a (4 * i + 2)).toInt64 z, mm) := by
  unfold F_XFixed_along
  simp (disch := first | assumption | omega) only [nI_k1, nI_k2, nI_k4, nI_add, nI_mul, ↓zoS_h ha, ha, zx_mul_fdiv, ↓zoL_e, ↓zob_e, ↓reduceIte, zoS_e, zob_e, nI_lt0, nI_lt00, nI_cl, nle_f, or_self, or_false, false_or]
/-- a matrix of ints as long numbers -/
def m64 (g : Nat → Int32) : Nat → Int64 := fun k => (g k).toInt64
theorem e_mulc_10 {sh : zSh} {a b t : Nat} (ha : sh a = some (100, 12)) (hb : sh b = some (100, 12)) (ht : sh t = some (100, 12)) (n1 : a ≠ t) (n2 : b ≠ t) {i : Nat} (hi : i < 3) : ∀ (d j fuel : Nat) (mm : zMem), j + d = 4 → d < fuel → L_XFixed_multiply_10 sh fuel a b t (nI i) (nI j) mm = some (a, b, t, nI i, nI 4, sI mm t (fun k => if 4 * i + j ≤ k ∧ k < 4 * i + 4 then (pT (m64 (mm.1 a)) (m64 (mm.1 b)) i (k - 4 * i)).toInt32 else mm.1 t k)) := by
  intro d
  induction d with
  | zero =>
    intro j fuel mm hj hf
    obtain ⟨fu, rfl⟩ : ∃ fu, fuel = fu + 1 := ⟨fuel - 1, by omega⟩
    obtain rfl : j = 4 := by omega
    simp only [L_XFixed_multiply_10]
    rw [if_pos (by decide)]
    refine congrArg (fun z => some (a, b, t, nI i, nI 4, z)) ?_
    rw [sI_to (h := mm.1 t) (fun k => if_neg (by omega)), sI_id]
  | succ d ih =>
    intro j fuel mm hj hf
    obtain ⟨fu, rfl⟩ : ∃ fu, fuel = fu + 1 := ⟨fuel - 1, by omega⟩
    have hj4 : ¬ 4 ≤ j := by omega
    have al := fun x y z => e_along (sh := sh) (mm := mm) (a := a) (i := i) (n := 12) ha (by decide) (by omega) x y z
    simp (disch := first | assumption | omega) only [L_XFixed_multiply_10, nI_k1, nI_k3, nI_k4, nI_k8, nI_add, nI_mul, nI_leD, nI_eqD, hj4, ↓zoS_h ha, ha, ↓zoS_h hb, hb, ↓zoS_h ht, ht, ↓zob_h (al _ _ _), al _ _ _, ↓zoL_e, ↓zob_e, ↓reduceIte, zoS_e, zob_e, nI_lt0, nI_lt00, nI_cl, nle_f, or_self, or_false, false_or]
    have key : ∀ v : Int32, v = (pT (m64 (mm.1 a)) (m64 (mm.1 b)) i j).toInt32 → L_XFixed_multiply_10 sh fu a b t (nI i) (nI (j + 1)) (mI mm t (4 * i + j) v) = some (a, b, t, nI i, nI 4, sI mm t (fun k => if 4 * i + j ≤ k ∧ k < 4 * i + 4 then (pT (m64 (mm.1 a)) (m64 (mm.1 b)) i (k - 4 * i)).toInt32 else mm.1 t k)) := by
      intro v hv
      rw [mI_sI, ih (j + 1) fu _ (by omega) (by omega)]
      refine congrArg (fun z => some (a, b, t, nI i, nI 4, z)) ?_
      rw [sI_sI]
      refine sI_to (fun k => ?_)
      simp only [sI_at, sI_ne n1, sI_ne n2, upd]
      by_cases hk : k = 4 * i + j
      · subst hk
        rw [if_neg (by omega), if_pos rfl, if_pos (by omega), show 4 * i + j - 4 * i = j by omega, hv]
      · by_cases hk2 : 4 * i + j ≤ k ∧ k < 4 * i + 4
        · rw [if_pos (by omega), if_pos hk2]
        · rw [if_neg (by omega), if_neg hk, if_neg hk2]
    by_cases hj3 : j = 3
    · rw [if_pos hj3]
      refine key _ ?_
      rw [← i32_rt (zx_bound _), bound_eq]
      unfold pT m64
      rw [if_pos hj3]
    · rw [if_neg hj3]
      refine key _ ?_
      rw [← i32_rt (zx_bound _), bound_eq]
      unfold pT m64
      rw [if_neg hj3, Int64.add_zero]
theorem e_mulc_2 {sh : zSh} {a b t : Nat} (ha : sh a = some (100, 12)) (hb : sh b = some (100, 12)) (ht : sh t = some (100, 12)) (n1 : a ≠ t) (n2 : b ≠ t) : ∀ (d i fuel : Nat) (mm : zMem), i + d = 3 → d < fuel → L_XFixed_multiply_2 sh fuel a b t (nI i) mm = some (a, b, t, nI 3, sI mm t (fun k => if 4 * i ≤ k ∧ k < 12 then (pT (m64 (mm.1 a)) (m64 (mm.1 b)) (k / 4) (k % 4)).toInt32 else mm.1 t k)) := by
  intro d
  induction d with
  | zero =>
    intro i fuel mm hj hf
    obtain ⟨fu, rfl⟩ : ∃ fu, fuel = fu + 1 := ⟨fuel - 1, by omega⟩
    obtain rfl : i = 3 := by omega
    simp only [L_XFixed_multiply_2]
    rw [if_pos (by decide)]
    refine congrArg (fun z => some (a, b, t, nI 3, z)) ?_
    rw [sI_to (h := mm.1 t) (fun k => if_neg (by omega)), sI_id]
  | succ d ih =>
    intro i fuel mm hj hf
    obtain ⟨fu, rfl⟩ : ∃ fu, fuel = fu + 1 := ⟨fuel - 1, by omega⟩
    simp only [L_XFixed_multiply_2]
    rw [if_neg (by rw [nI_k3, nI_leD (by omega) (by omega)]; omega), nI_k0, e_mulc_10 ha hb ht n1 n2 (by omega) 4 0 zfuel mm rfl (by decide)]
    simp only [zob_e, nI_k1, nI_add]
    rw [ih (i + 1) fu _ (by omega) (by omega)]
    refine congrArg (fun z => some (a, b, t, nI 3, z)) ?_
    rw [sI_sI]
    refine sI_to (fun k => ?_)
    simp only [sI_at, sI_ne n1, sI_ne n2]
    by_cases hk : 4 * (i + 1) ≤ k ∧ k < 12
    · rw [if_pos hk, if_pos (by omega)]
    · rw [if_neg hk]
      by_cases hk2 : 4 * i + 0 ≤ k ∧ k < 4 * i + 4
      · rw [if_pos hk2, if_pos (by omega), show k / 4 = i by omega, show k % 4 = k - 4 * i by omega]
      · rw [if_neg hk2, if_neg (by omega)]
theorem e_mulc {sh : zSh} {mm : zMem} {a b t : Nat} (ha : sh a = some (100, 12)) (hb : sh b = some (100, 12)) (ht : sh t = some (100, 12)) (n1 : a ≠ t) (n2 : b ≠ t) : F_XFixed_multiply sh mm a b t = some (sI mm t (fun k => if k < 12 then (pT (m64 (mm.1 a)) (m64 (mm.1 b)) (k / 4) (k % 4)).toInt32 else mm.1 t k)) := by
  unfold F_XFixed_multiply
  rw [nI_k0, e_mulc_2 ha hb ht n1 n2 3 0 zfuel mm rfl (by decide)]
  simp only [zob_e]
  refine congrArg some (sI_to (fun k => ?_))
  by_cases hk : k < 12
  · rw [if_pos ⟨by omega, hk⟩, if_pos hk]
  · rw [if_neg (by omega), if_neg hk]
theorem e_roll {sh : zSh} {mm : zMem} {t p : Nat} (ht : sh t = some (100, 12)) (hp : p + 1 < 12) (a b : Int64) (sz cz : Int32) : F_XFixed_roll sh mm t (nI p) a b sz cz = some (sI mm t (upd (upd (mm.1 t) p (sp_MPainter_mul a cz.toInt64 + sp_MPainter_mul b sz.toInt64).toInt32) (p + 1) (sp_MPainter_mul a (-sz).toInt64 + sp_MPainter_mul b cz.toInt64).toInt32)) := by
  unfold F_XFixed_roll
  simp (disch := first | assumption | omega) only [nI_k1, nI_add, ↓zoS_h ht, ht, zx_mul_fdiv, mI_sI, sI_sI, sI_at, ↓zoL_e, ↓zob_e, ↓reduceIte, zoS_e, zob_e, nI_lt0, nI_lt00, nI_cl, nle_f, or_self, or_false, false_or]
theorem e_turnc {sh : zSh} {mm : zMem} {a t p n : Nat} (ha : sh a = some (100, n)) (hn : n < 100000) (ht : sh t = some (100, 12)) (hp : p + 2 < n) : F_XFixed_turn sh mm a (nI p) t = some (sI mm t (fun k => if k < 12 ∧ k % 4 ≠ 3 then (tR (mm.1 a p) (mm.1 a (p + 1)) (mm.1 a (p + 2)) k).toInt32 else mm.1 t k)) := by
  have ng : ∀ k, (-zx_sin k).toInt64 = -(zx_sin k).toInt64 := fun k => neg64 (by have := zx_sin_rng k; omega)
  unfold F_XFixed_turn
  have r0 := fun mm a b sz cz => e_roll (sh := sh) (mm := mm) (t := t) (p := 0) ht (by decide) a b sz cz
  have r4 := fun mm a b sz cz => e_roll (sh := sh) (mm := mm) (t := t) (p := 4) ht (by decide) a b sz cz
  have r8 := fun mm a b sz cz => e_roll (sh := sh) (mm := mm) (t := t) (p := 8) ht (by decide) a b sz cz
  have k10 : (10 : Int32) = nI 10 := rfl
  simp (disch := first | assumption | omega) only [nI_k1, nI_k2, nI_add, ↓zoS_h ha, ha, ↓zoS_h ht, ht, zx_mul_fdiv, ↓zoL_e, ↓zob_e, ↓reduceIte, zoS_e, zob_e, nI_lt0, nI_lt00, nI_cl, nle_f, or_self, or_false, false_or]
  simp (disch := first | assumption | omega) only [nI_k0, nI_k4, nI_k6, nI_k8, k10, ↓zob_h (r0 _ _ _ _ _), r0 _ _ _ _ _, ↓zob_h (r4 _ _ _ _ _), r4 _ _ _ _ _, ↓zob_h (r8 _ _ _ _ _), r8 _ _ _ _ _, ↓zoS_h ht, ht, mI_sI, sI_sI, sI_at, ↓zoL_e, ↓zob_e, ↓reduceIte, zoS_e, zob_e, nI_lt0, nI_lt00, nI_cl, nle_f, or_self, or_false, false_or]
  refine congrArg some (sI_to (fun k => ?_))
  by_cases hk : k < 12
  · rcases lt12 hk with rfl | rfl | rfl | rfl | rfl | rfl | rfl | rfl | rfl | rfl | rfl | rfl <;> simp [upd, tR, tN, ng, i32_rt]
  · rw [if_neg (by omega)]
    simp only [upd]
    rw [if_neg (by omega), if_neg (by omega), if_neg (by omega), if_neg (by omega), if_neg (by omega), if_neg (by omega), if_neg (by omega), if_neg (by omega), if_neg (by omega)]
/-- a node's own matrix: its move, turn and size -/
def lM (mv tn sz : Nat → Int32) : Nat → Int64 := fun k => if k % 4 = 3 then (mv (k / 4)).toInt64 else sp_MPainter_bound (sp_MPainter_mul (tR (tn 0) (tn 1) (tn 2) k) (sz (k % 4)).toInt64)
theorem e_pl_18 {sh : zSh} {o t a : Nat} (ho : sh o = some (3, 0)) (ht : sh t = some (100, 12)) (ha : sh a = some (100, 9)) (n1 : a ≠ t) {i : Nat} (hi : i < 3) : ∀ (d j fuel : Nat) (mm : zMem), j + d = 3 → d < fuel → mm.2.2 o 4 = some a → L_XNode_placeLocal_18 sh fuel o t (nI i) (nI j) mm = some (o, t, nI i, nI 3, sI mm t (fun k => if 4 * i + j ≤ k ∧ k < 4 * i + 3 then zx_bound (sp_MPainter_mul (mm.1 t k).toInt64 (mm.1 a (6 + (k - 4 * i))).toInt64) else mm.1 t k)) := by
  intro d
  induction d with
  | zero =>
    intro j fuel mm hj hf hr
    obtain ⟨fu, rfl⟩ : ∃ fu, fuel = fu + 1 := ⟨fuel - 1, by omega⟩
    obtain rfl : j = 3 := by omega
    simp only [L_XNode_placeLocal_18]
    rw [if_pos (by decide)]
    refine congrArg (fun z => some (o, t, nI i, nI 3, z)) ?_
    rw [sI_to (h := mm.1 t) (fun k => if_neg (by omega)), sI_id]
  | succ d ih =>
    intro j fuel mm hj hf hr
    obtain ⟨fu, rfl⟩ : ∃ fu, fuel = fu + 1 := ⟨fuel - 1, by omega⟩
    have hj3 : ¬ 3 ≤ j := by omega
    have hr' : ∀ g, (sI mm t g).2.2 o 4 = some a := fun _ => hr
    simp (disch := first | assumption | omega) only [L_XNode_placeLocal_18, nI_k1, nI_k3, nI_k4, nI_k6, nI_add, nI_mul, nI_leD, hj3, ↓zoS_h ho, ho, ↓zoS_h ht, ht, ↓zoS_h ha, ha, ↓zob_h hr, hr, zx_mul_fdiv, ↓zoL_e, ↓zob_e, ↓reduceIte, zoS_e, zob_e, nI_lt0, nI_lt00, nI_cl, nle_f, or_self, or_false, false_or]
    rw [mI_sI, ih (j + 1) fu _ (by omega) (by omega) (hr' _)]
    refine congrArg (fun z => some (o, t, nI i, nI 3, z)) ?_
    rw [sI_sI]
    refine sI_to (fun k => ?_)
    simp only [sI_at, sI_ne n1, upd]
    by_cases hk : k = 4 * i + j
    · subst hk
      rw [if_neg (by omega), if_pos rfl, if_pos (by omega), show 4 * i + j - 4 * i = j by omega]
    · by_cases hk2 : 4 * i + j ≤ k ∧ k < 4 * i + 3
      · rw [if_pos (by omega), if_pos hk2, if_neg hk]
      · rw [if_neg (by omega), if_neg hk, if_neg hk2]
theorem e_pl_11 {sh : zSh} {o t a : Nat} (ho : sh o = some (3, 0)) (ht : sh t = some (100, 12)) (ha : sh a = some (100, 9)) (n1 : a ≠ t) : ∀ (d i fuel : Nat) (mm : zMem), i + d = 3 → d < fuel → mm.2.2 o 4 = some a → L_XNode_placeLocal_11 sh fuel o t (nI i) mm = some (o, t, nI 3, sI mm t (fun k => if 4 * i ≤ k ∧ k < 12 then (if k % 4 = 3 then mm.1 a (k / 4) else zx_bound (sp_MPainter_mul (mm.1 t k).toInt64 (mm.1 a (6 + k % 4)).toInt64)) else mm.1 t k)) := by
  intro d
  induction d with
  | zero =>
    intro i fuel mm hj hf hr
    obtain ⟨fu, rfl⟩ : ∃ fu, fuel = fu + 1 := ⟨fuel - 1, by omega⟩
    obtain rfl : i = 3 := by omega
    simp only [L_XNode_placeLocal_11]
    rw [if_pos (by decide)]
    refine congrArg (fun z => some (o, t, nI 3, z)) ?_
    rw [sI_to (h := mm.1 t) (fun k => if_neg (by omega)), sI_id]
  | succ d ih =>
    intro i fuel mm hj hf hr
    obtain ⟨fu, rfl⟩ : ∃ fu, fuel = fu + 1 := ⟨fuel - 1, by omega⟩
    simp only [L_XNode_placeLocal_11]
    rw [if_neg (by rw [nI_k3, nI_leD (by omega) (by omega)]; omega), nI_k0, e_pl_18 ho ht ha n1 (by omega) 3 0 zfuel mm rfl (by decide) hr]
    have hr' : ∀ g, (sI mm t g).2.2 o 4 = some a := fun g => hr
    simp (disch := first | assumption | omega) only [↓zoS_h ho, ho, ↓zoS_h ht, ht, ↓zoS_h ha, ha, ↓zob_h (hr' _), hr' _, nI_k1, nI_k3, nI_k4, nI_add, nI_mul, sI_ne n1, ↓zoL_e, ↓zob_e, ↓reduceIte, zoS_e, zob_e, nI_lt0, nI_lt00, nI_cl, nle_f, or_self, or_false, false_or]
    rw [mI_sI, sI_sI, ih (i + 1) fu _ (by omega) (by omega) (hr' _)]
    refine congrArg (fun z => some (o, t, nI 3, z)) ?_
    rw [sI_sI]
    refine sI_to (fun k => ?_)
    simp only [sI_at, sI_ne n1, upd]
    by_cases hk : 4 * (i + 1) ≤ k ∧ k < 12
    · rw [if_pos hk, if_pos (show 4 * i ≤ k ∧ k < 12 by omega), if_neg (show ¬ k = 4 * i + 3 by omega), if_neg (show ¬ (4 * i + 0 ≤ k ∧ k < 4 * i + 3) by omega)]
    · rw [if_neg hk]
      by_cases hk2 : k = 4 * i + 3
      · subst hk2
        rw [if_pos rfl, if_pos (show 4 * i ≤ 4 * i + 3 ∧ 4 * i + 3 < 12 by omega), if_pos (show (4 * i + 3) % 4 = 3 by omega), show (4 * i + 3) / 4 = i by omega]
      · rw [if_neg hk2]
        by_cases hk3 : 4 * i + 0 ≤ k ∧ k < 4 * i + 3
        · rw [if_pos hk3, if_pos (show 4 * i ≤ k ∧ k < 12 by omega), if_neg (show ¬ k % 4 = 3 by omega), show k % 4 = k - 4 * i by omega]
        · rw [if_neg hk3, if_neg (show ¬ (4 * i ≤ k ∧ k < 12) by omega)]
theorem e_placeLocal {sh : zSh} {mm : zMem} {o t a : Nat} (ho : sh o = some (3, 0)) (ht : sh t = some (100, 12)) (ha : sh a = some (100, 9)) (n1 : a ≠ t) (hr : mm.2.2 o 4 = some a) : F_XNode_placeLocal sh mm o t = some (sI mm t (fun k => if k < 12 then (lM (mm.1 a) (fun j => mm.1 a (3 + j)) (fun j => mm.1 a (6 + j)) k).toInt32 else mm.1 t k)) := by
  unfold F_XNode_placeLocal
  simp only [ho, zoS_e, hr, zob_e]
  rw [nI_k3, e_turnc ha (by decide) ht (by decide)]
  simp only [zob_e]
  rw [nI_k0, e_pl_11 ho ht ha n1 3 0 zfuel _ rfl (by decide) (show (sI mm t _).2.2 o 4 = some a from hr)]
  simp only [zob_e]
  refine congrArg some ?_
  rw [sI_sI]
  refine sI_to (fun k => ?_)
  simp only [sI_at, sI_ne n1]
  by_cases hk : k < 12
  · rw [if_pos ⟨by omega, hk⟩, if_pos hk]
    unfold lM
    by_cases h3 : k % 4 = 3
    · rw [if_pos h3, if_pos h3, i32_rt]
    · rw [if_neg h3, if_neg h3, if_pos ⟨hk, h3⟩, sml_rt (by decide) (tR_sml _ _ _ _), ← i32_rt (zx_bound _), bound_eq]
  · rw [if_neg (by omega), if_neg hk, if_neg (by omega)]
