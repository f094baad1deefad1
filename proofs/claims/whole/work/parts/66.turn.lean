/-! PURE: the three turns -/
theorem e_one_2 {sh : zSh} {a : Nat} (ha : sh a = some (102, 12)) : ∀ (d i fuel : Nat) (mm : zMem), i + d = 12 → d < fuel → L_MPainter_one_2 sh fuel a (nI i) mm = some (a, nI 12, sL mm a (fun k => if i ≤ k ∧ k < 12 then (if k % 5 = 0 then 65536 else 0) else mm.2.1 a k)) := by
  have h5 : ∀ j : Fin 12, ((nI (j : Nat) - nI (j : Nat) / 5 * 5) = 0) ↔ (j : Nat) % 5 = 0 := by decide +kernel
  intro d
  induction d with
  | zero =>
    intro i fuel mm hj hf
    obtain ⟨fu, rfl⟩ : ∃ fu, fuel = fu + 1 := ⟨fuel - 1, by omega⟩
    obtain rfl : i = 12 := by omega
    simp only [L_MPainter_one_2]
    rw [if_pos (by decide)]
    refine congrArg (fun z => some (a, nI 12, z)) ?_
    rw [sL_to (h := mm.2.1 a) (fun k => if_neg (by omega)), sL_id]
  | succ d ih =>
    intro i fuel mm hj hf
    obtain ⟨fu, rfl⟩ : ∃ fu, fuel = fu + 1 := ⟨fuel - 1, by omega⟩
    have hi : i < 12 := by omega
    simp only [L_MPainter_one_2]
    rw [if_neg (by rw [nI_k12, nI_leD (by omega) (by omega)]; omega)]
    simp (disch := first | assumption | omega) only [nI_k1, nI_add, ↓zoS_h ha, ha, ↓zoL_e, ↓zob_e, ↓reduceIte, zoS_e, zob_e, nI_lt0, nI_lt00, nI_cl, nle_f, or_self, or_false, false_or]
    have key : ∀ v : Int64, v = (if i % 5 = 0 then 65536 else 0) → L_MPainter_one_2 sh fu a (nI (i + 1)) (mL mm a i v) = some (a, nI 12, sL mm a (fun k => if i ≤ k ∧ k < 12 then (if k % 5 = 0 then 65536 else 0) else mm.2.1 a k)) := by
      intro v hv
      rw [mL_sL, ih (i + 1) fu _ (by omega) (by omega)]
      refine congrArg (fun z => some (a, nI 12, z)) ?_
      rw [sL_sL]
      refine sL_to (fun k => ?_)
      simp only [sL_at, vp_updL]
      by_cases hk : i + 1 ≤ k ∧ k < 12
      · rw [if_pos hk, if_pos (show i ≤ k ∧ k < 12 by omega)]
      · rw [if_neg hk]
        by_cases hk2 : k = i
        · subst hk2
          rw [if_pos rfl, if_pos (show k ≤ k ∧ k < 12 by omega), hv]
        · rw [if_neg hk2, if_neg (show ¬ (i ≤ k ∧ k < 12) by omega)]
    by_cases hm : i % 5 = 0
    · rw [if_pos ((h5 ⟨i, hi⟩).mpr hm)]
      exact key _ (if_pos hm).symm
    · rw [if_neg (fun h => hm ((h5 ⟨i, hi⟩).mp h))]
      exact key _ (if_neg hm).symm
theorem e_one {sh : zSh} {mm : zMem} {a : Nat} (ha : sh a = some (102, 12)) : F_MPainter_one sh mm a = some (sL mm a (fun k => if k < 12 then (if k % 5 = 0 then 65536 else 0) else mm.2.1 a k)) := by
  unfold F_MPainter_one
  rw [nI_k0, e_one_2 ha 12 0 zfuel mm rfl (by decide)]
  simp only [zob_e]
  refine congrArg some (sL_to (fun k => ?_))
  by_cases hk : k < 12
  · rw [if_pos ⟨by omega, hk⟩, if_pos hk]
  · rw [if_neg (by omega), if_neg hk]
/-- a turn about an axis with that sine and cosine -/
def abM (axis : Nat) (s c : Int64) : Nat → Int64 := fun k =>
  if axis = 0 then ([65536, 0, 0, 0, 0, c, -s, 0, 0, s, c, 0] : List Int64).getD k 0
  else if axis = 1 then ([c, 0, s, 0, 0, 65536, 0, 0, -s, 0, c, 0] : List Int64).getD k 0
  else ([c, -s, 0, 0, s, c, 0, 0, 0, 0, 65536, 0] : List Int64).getD k 0
theorem lt12 {k : Nat} (h : k < 12) : k = 0 ∨ k = 1 ∨ k = 2 ∨ k = 3 ∨ k = 4 ∨ k = 5 ∨ k = 6 ∨ k = 7 ∨ k = 8 ∨ k = 9 ∨ k = 10 ∨ k = 11 := by omega
theorem e_about {sh : zSh} {mm : zMem} {a axis : Nat} (ha : sh a = some (102, 12)) (hx : axis < 3) (x : Int64) : F_MPainter_about sh mm (nI axis) x a = some (sL mm a (fun k => if k < 12 then abM axis (zx_sin x.toInt32).toInt64 (zx_sin (x + 1024).toInt32).toInt64 k else mm.2.1 a k)) := by
  have e4 : ((4 : Int32) * 1) + 1 = nI 5 := by decide
  have e5 : ((4 : Int32) * 1) + 2 = nI 6 := by decide
  have e6 : ((4 : Int32) * 2) + 1 = nI 9 := by decide
  have e7 : ((4 : Int32) * 2) + 2 = nI 10 := by decide
  have e8 : ((4 : Int32) * 2) + 0 = nI 8 := by decide
  have e9 : ((4 : Int32) * 0) + 2 = nI 2 := by decide
  have e10 : ((4 : Int32) * 0) + 0 = nI 0 := by decide
  have e11 : ((4 : Int32) * 0) + 1 = nI 1 := by decide
  have e12 : ((4 : Int32) * 1) + 0 = nI 4 := by decide
  unfold F_MPainter_about
  rw [e_one ha]
  match axis, hx with
  | 0, _ =>
    rw [zob_e, if_pos (by decide)]
    simp (disch := first | assumption | omega) only [↓zob_h (e_cos _), e_cos _, ↓zob_h (e_sin _), e_sin _, e4, e5, e6, e7, ↓zoS_h ha, ha, mL_sL, sL_sL, sL_at, ↓zoL_e, ↓zob_e, ↓reduceIte, zoS_e, zob_e, nI_lt0, nI_lt00, nI_cl, nle_f, or_self, or_false, false_or]
    refine congrArg some (sL_to (fun k => ?_))
    by_cases hk : k < 12
    · rw [if_pos hk]
      rcases lt12 hk with rfl | rfl | rfl | rfl | rfl | rfl | rfl | rfl | rfl | rfl | rfl | rfl <;> simp [vp_updL, abM]
    · simp only [vp_updL]
      rw [if_neg (by omega), if_neg (by omega), if_neg (by omega), if_neg (by omega), if_neg hk, if_neg hk]
  | 1, _ =>
    rw [zob_e, if_neg (by decide), if_pos (by decide)]
    simp (disch := first | assumption | omega) only [↓zob_h (e_cos _), e_cos _, ↓zob_h (e_sin _), e_sin _, e7, e8, e9, e10, ↓zoS_h ha, ha, mL_sL, sL_sL, sL_at, ↓zoL_e, ↓zob_e, ↓reduceIte, zoS_e, zob_e, nI_lt0, nI_lt00, nI_cl, nle_f, or_self, or_false, false_or]
    refine congrArg some (sL_to (fun k => ?_))
    by_cases hk : k < 12
    · rw [if_pos hk]
      rcases lt12 hk with rfl | rfl | rfl | rfl | rfl | rfl | rfl | rfl | rfl | rfl | rfl | rfl <;> simp [vp_updL, abM]
    · simp only [vp_updL]
      rw [if_neg (by omega), if_neg (by omega), if_neg (by omega), if_neg (by omega), if_neg hk, if_neg hk]
  | 2, _ =>
    rw [zob_e, if_neg (by decide), if_neg (by decide)]
    simp (disch := first | assumption | omega) only [↓zob_h (e_cos _), e_cos _, ↓zob_h (e_sin _), e_sin _, e4, e10, e11, e12, ↓zoS_h ha, ha, mL_sL, sL_sL, sL_at, ↓zoL_e, ↓zob_e, ↓reduceIte, zoS_e, zob_e, nI_lt0, nI_lt00, nI_cl, nle_f, or_self, or_false, false_or]
    refine congrArg some (sL_to (fun k => ?_))
    by_cases hk : k < 12
    · rw [if_pos hk]
      rcases lt12 hk with rfl | rfl | rfl | rfl | rfl | rfl | rfl | rfl | rfl | rfl | rfl | rfl <;> simp [vp_updL, abM]
    · simp only [vp_updL]
      rw [if_neg (by omega), if_neg (by omega), if_neg (by omega), if_neg (by omega), if_neg hk, if_neg hk]
/-- within a few turns' reach -/
def sml (A : Int) (x : Int64) : Prop := -A ≤ x.toInt ∧ x.toInt ≤ A
theorem sml_mul {x y : Int64} (hx : sml 65536 x) (hy : sml 65536 y) : sml 65536 (sp_MPainter_mul x y) := by
  have h := mul_ab hx.1 hx.2 hy.1 hy.2
  have e : (x * y).toInt = x.toInt * y.toInt := i64_mul (by omega) (by omega)
  have := mul_toInt x y
  rw [e] at this
  unfold sml
  rw [this]
  omega
theorem sml_neg {x : Int64} {A : Int} (hA : A < 9223372036854775808) (hx : sml A x) : sml A (-x) := by
  have e := i64_neg (a := x) (by have := hx.1; omega)
  unfold sml at *
  rw [e]
  omega
theorem sml_add {x y : Int64} {A B : Int} (hA : A + B < 9223372036854775808) (hx : sml A x) (hy : sml B y) : sml (A + B) (x + y) := by
  unfold sml at *
  rw [i64_add] <;> omega
theorem sml_0 {A : Int} (h : 0 ≤ A) : sml A 0 := by
  unfold sml
  rw [show (0 : Int64).toInt = 0 by decide]
  omega
theorem sml_w {A B : Int} {x : Int64} (h : A ≤ B) (hx : sml A x) : sml B x := by
  unfold sml at *
  omega
theorem sml_bound {A : Int} {x : Int64} (h : A ≤ 16777216) (hx : sml A x) : sp_MPainter_bound x = x := by
  unfold sml at hx
  exact bound_id (by omega) (by omega)
theorem sml_rt {A : Int} {x : Int64} (h : A ≤ 2147483647) (hx : sml A x) : x.toInt32.toInt64 = x := by
  unfold sml at hx
  exact i64_rt (by omega) (by omega)
theorem mul_0r (x : Int64) : sp_MPainter_mul x 0 = 0 := by
  unfold sp_MPainter_mul
  rw [Int64.mul_zero]
  decide
theorem mul_0l (x : Int64) : sp_MPainter_mul 0 x = 0 := by
  unfold sp_MPainter_mul
  rw [Int64.zero_mul]
  decide
theorem mul_1r {x : Int64} (hx : sml 16777216 x) : sp_MPainter_mul x 65536 = x := by
  unfold sml at hx
  apply i64_ext
  rw [mul_toInt, i64_mul] <;> rw [show (65536 : Int64).toInt = 65536 by decide] <;> omega
theorem mul_1l {x : Int64} (hx : sml 16777216 x) : sp_MPainter_mul 65536 x = x := by
  unfold sml at hx
  apply i64_ext
  rw [mul_toInt, i64_mul] <;> rw [show (65536 : Int64).toInt = 65536 by decide] <;> omega
theorem sin_sml (k : Int32) : sml 65536 (zx_sin k).toInt64 := by
  have := zx_sin_rng k
  unfold sml
  rw [Int32.toInt_toInt64]
  omega
/-- the turn by x, y, z, as sines and cosines give it -/
def tN (sx cx sy cy sz cz : Int64) : Nat → Int64 := fun k => ([sp_MPainter_mul cy cz + sp_MPainter_mul (sp_MPainter_mul sy sx) sz, sp_MPainter_mul cy (-sz) + sp_MPainter_mul (sp_MPainter_mul sy sx) cz, sp_MPainter_mul sy cx, 0, sp_MPainter_mul 0 cz + sp_MPainter_mul cx sz, sp_MPainter_mul 0 (-sz) + sp_MPainter_mul cx cz, -sx, 0, sp_MPainter_mul (-sy) cz + sp_MPainter_mul (sp_MPainter_mul cy sx) sz, sp_MPainter_mul (-sy) (-sz) + sp_MPainter_mul (sp_MPainter_mul cy sx) cz, sp_MPainter_mul cy cx, 0] : List Int64).getD k 0
def tR (x y z : Int32) : Nat → Int64 := tN (zx_sin x).toInt64 (zx_sin (x + 1024)).toInt64 (zx_sin y).toInt64 (zx_sin (y + 1024)).toInt64 (zx_sin z).toInt64 (zx_sin (z + 1024)).toInt64
theorem tN_sml {sx cx sy cy sz cz : Int64} (h1 : sml 65536 sx) (h2 : sml 65536 cx) (h3 : sml 65536 sy) (h4 : sml 65536 cy) (h5 : sml 65536 sz) (h6 : sml 65536 cz) (k : Nat) : sml 131072 (tN sx cx sy cy sz cz k) := by
  have n3 := sml_neg (by decide) h3
  have n5 := sml_neg (by decide) h5
  have n1 := sml_neg (by decide) h1
  have z0 : sml 65536 0 := sml_0 (by decide)
  have add : ∀ {x y : Int64}, sml 65536 x → sml 65536 y → sml 131072 (x + y) := fun hx hy => sml_add (by decide) hx hy
  have w : ∀ {x : Int64}, sml 65536 x → sml 131072 x := fun hx => sml_w (by decide) hx
  unfold tN
  by_cases hk : k < 12
  · rcases lt12 hk with rfl | rfl | rfl | rfl | rfl | rfl | rfl | rfl | rfl | rfl | rfl | rfl
    · exact add (sml_mul h4 h6) (sml_mul (sml_mul h3 h1) h5)
    · exact add (sml_mul h4 n5) (sml_mul (sml_mul h3 h1) h6)
    · exact w (sml_mul h3 h2)
    · exact w z0
    · exact add (sml_mul z0 h6) (sml_mul h2 h5)
    · exact add (sml_mul z0 n5) (sml_mul h2 h6)
    · exact w n1
    · exact w z0
    · exact add (sml_mul n3 h6) (sml_mul (sml_mul h4 h1) h5)
    · exact add (sml_mul n3 n5) (sml_mul (sml_mul h4 h1) h6)
    · exact w (sml_mul h4 h2)
    · exact w z0
  · rw [getD_big (by simpa using hk)]
    exact w z0
theorem tR_sml (x y z : Int32) (k : Nat) : sml 131072 (tR x y z k) := tN_sml (sin_sml _) (sin_sml _) (sin_sml _) (sin_sml _) (sin_sml _) (sin_sml _) k
theorem pT_c {a a' b b' : Nat → Int64} (ha : ∀ k, k < 12 → a k = a' k) (hb : ∀ k, k < 12 → b k = b' k) {i j : Nat} (hi : i < 3) (hj : j < 4) : pT a b i j = pT a' b' i j := by
  unfold pT
  rw [ha (4 * i) (by omega), ha (4 * i + 1) (by omega), ha (4 * i + 2) (by omega), ha (4 * i + 3) (by omega), hb j (by omega), hb (4 + j) (by omega), hb (8 + j) (by omega)]
theorem pM_c {a a' b b' o o' : Nat → Int64} (ha : ∀ k, k < 12 → a k = a' k) (hb : ∀ k, k < 12 → b k = b' k) {k : Nat} (hk : k < 12) : pM a b o k = pM a' b' o' k := by
  unfold pM
  rw [if_pos hk, if_pos hk]
  exact pT_c ha hb (by omega) (by omega)
/-- about Y, then X -/
def tA1 (sx cx sy cy : Int64) : Nat → Int64 := fun k => ([cy, sp_MPainter_mul sy sx, sp_MPainter_mul sy cx, 0, 0, cx, -sx, 0, -sy, sp_MPainter_mul cy sx, sp_MPainter_mul cy cx, 0] : List Int64).getD k 0
theorem turn_1 {sx cx sy cy : Int64} (h1 : sml 65536 sx) (h2 : sml 65536 cx) (h3 : sml 65536 sy) (h4 : sml 65536 cy) {k : Nat} (hk : k < 12) : pT (abM 1 sy cy) (abM 0 sx cx) (k / 4) (k % 4) = tA1 sx cx sy cy k := by
  have n1 := sml_neg (by decide) h1
  have n3 := sml_neg (by decide) h3
  have m1 := mul_1r (sml_w (by decide) h4)
  have m2 := mul_1r (sml_w (by decide) n3)
  have m3 := mul_1l (sml_w (by decide) h2)
  have m4 := mul_1l (sml_w (by decide) n1)
  have b1 := sml_bound (by decide) h4
  have b2 := sml_bound (by decide) n3
  have b3 := sml_bound (by decide) h2
  have b4 := sml_bound (by decide) n1
  have b5 := sml_bound (by decide) (sml_mul h3 h1)
  have b6 := sml_bound (by decide) (sml_mul h3 h2)
  have b7 := sml_bound (by decide) (sml_mul h4 h1)
  have b8 := sml_bound (by decide) (sml_mul h4 h2)
  have b0 : sp_MPainter_bound 0 = 0 := by decide
  rcases lt12 hk with rfl | rfl | rfl | rfl | rfl | rfl | rfl | rfl | rfl | rfl | rfl | rfl <;> simp [pT, abM, tA1, mul_0r, mul_0l, m1, m2, m3, m4, b0, b1, b2, b3, b4, b5, b6, b7, b8]
theorem turn_2 {sx cx sy cy sz cz : Int64} (h1 : sml 65536 sx) (h2 : sml 65536 cx) (h3 : sml 65536 sy) (h4 : sml 65536 cy) (h5 : sml 65536 sz) (h6 : sml 65536 cz) {k : Nat} (hk : k < 12) : pT (tA1 sx cx sy cy) (abM 2 sz cz) (k / 4) (k % 4) = tN sx cx sy cy sz cz k := by
  have hs := tN_sml h1 h2 h3 h4 h5 h6
  have n1 := sml_neg (by decide) h1
  have m1 := mul_1r (sml_w (by decide) (sml_mul h3 h2))
  have m2 := mul_1r (sml_w (by decide) n1)
  have m3 := mul_1r (sml_w (by decide) (sml_mul h4 h2))
  have b0 : sp_MPainter_bound 0 = 0 := by decide
  have hb := fun k => sml_bound (by decide) (hs k)
  have g0 := hb 0
  have g1 := hb 1
  have g2 := hb 2
  have g4 := hb 4
  have g5 := hb 5
  have g6 := hb 6
  have g8 := hb 8
  have g9 := hb 9
  have g10 := hb 10
  simp [tN, mul_0l] at g0 g1 g2 g4 g5 g6 g8 g9 g10
  rcases lt12 hk with rfl | rfl | rfl | rfl | rfl | rfl | rfl | rfl | rfl | rfl | rfl | rfl <;> simp [pT, abM, tA1, tN, mul_0r, mul_0l, m1, m2, m3, b0, g0, g1, g2, g4, g5, g6, g8, g9, g10]
/-- only those arrays of long numbers may have changed -/
def lfr (S : List Nat) (m m' : zMem) : Prop := m'.1 = m.1 ∧ m'.2.2 = m.2.2 ∧ ∀ k, k ∉ S → m'.2.1 k = m.2.1 k
theorem lfr_r {S : List Nat} {m : zMem} : lfr S m m := ⟨rfl, rfl, fun _ _ => rfl⟩
theorem lfr_t {S : List Nat} {m m' m'' : zMem} (h : lfr S m m') (k : lfr S m' m'') : lfr S m m'' := ⟨k.1.trans h.1, k.2.1.trans h.2.1, fun a ha => (k.2.2 a ha).trans (h.2.2 a ha)⟩
theorem lfr_s {S : List Nat} {m m' : zMem} {a : Nat} {g : Nat → Int64} (h : lfr S m m') (ha : a ∈ S) : lfr S m (sL m' a g) := ⟨h.1, h.2.1, fun k hk => (sL_ne (fun e : k = a => hk (by rw [e]; exact ha))).trans (h.2.2 k hk)⟩
theorem lfr_w {S T : List Nat} {m m' : zMem} (h : lfr S m m') (hs : ∀ k, k ∈ S → k ∈ T) : lfr T m m' := ⟨h.1, h.2.1, fun k hk => h.2.2 k (fun q => hk (hs k q))⟩
theorem i32_add1024 {x : Int32} (h1 : -1048576 ≤ x.toInt) (h2 : x.toInt ≤ 1048576) : (x.toInt64 + 1024).toInt32 = x + 1024 := by
  apply i32_ext
  have e : (x.toInt64 + 1024).toInt = x.toInt + 1024 := by
    rw [i64_add] <;> rw [Int32.toInt_toInt64, show (1024 : Int64).toInt = 1024 by decide] <;> omega
  rw [i64_32, e, i32_add] <;> (try rw [e]) <;> (try rw [show (1024 : Int32).toInt = 1024 by decide]) <;> omega
/-- the reference's turn -/
theorem e_toTurn {W H : Nat} {mm : zMem} (hR : RF mm.2.2) {A n t : Nat} (hA : sh0 W H A = some (100, n)) (ht : t + 2 < n) (hn : n < 100000) (hx : ∀ c, c < 3 → -1048576 ≤ (mm.1 A (t + c)).toInt ∧ (mm.1 A (t + c)).toInt ≤ 1048576) : zok (F_MPainter_toTurn (sh0 W H) mm 1285 A (nI t)) (fun m' => lfr [1289, 1290, 1291] mm m' ∧ ∀ k, k < 12 → m'.2.1 1290 k = tR (mm.1 A t) (mm.1 A (t + 1)) (mm.1 A (t + 2)) k) := by
  have q0 := hx 0 (by decide)
  have q1 := hx 1 (by decide)
  have q2 := hx 2 (by decide)
  unfold F_MPainter_toTurn
  have r17 := rf_1285_17 hR
  have r18 := rf_1285_18 hR
  have r19 := rf_1285_19 hR
  have a1 := fun mm x => e_about (sh := sh0 W H) (mm := mm) (a := 1290) (axis := 1) sh_1290 (by decide) x
  have a0 := fun mm x => e_about (sh := sh0 W H) (mm := mm) (a := 1289) (axis := 0) sh_1289 (by decide) x
  have a2 := fun mm x => e_about (sh := sh0 W H) (mm := mm) (a := 1289) (axis := 2) sh_1289 (by decide) x
  have tm := fun mm (hr : mm.2.2 1285 19 = some 1291) => e_times (sh := sh0 W H) (mm := mm) (o := 1285) (x := 1290) (y := 1289) (a := 1291) sh_1285 sh_1290 sh_1289 sh_1291 (by decide) (by decide) hr
  rw [← nI_k1] at a1
  rw [← nI_k0] at a0
  rw [← nI_k2] at a2
  simp (disch := first | assumption | omega) only [nI_k1, nI_k2, nI_add, ↓zoS_h hA, hA, ↓zoS_h sh_1285, sh_1285, ↓zob_h r17, r17, ↓zob_h r18, r18, ↓zob_h r19, r19, ↓zoL_e, ↓zob_e, ↓reduceIte, zoS_e, zob_e, nI_lt0, nI_lt00, nI_cl, nle_f, or_self, or_false, false_or]
  simp only [← nI_k1, ← nI_k0, ← nI_k2, a1, a0, a2, zob_e, sL_R, sL_I, r17, r18, r19, sh_1285, zoS_e, tm]
  refine zok_s ⟨?_, ?_⟩
  · refine lfr_s (lfr_s (lfr_s (lfr_s (lfr_s (lfr_s (lfr_s (lfr_r) ?_) ?_) ?_) ?_) ?_) ?_) ?_ <;> decide
  · intro k hk
    have c0 := i32_add1024 (x := mm.1 A t) q0.1 q0.2
    have c1 := i32_add1024 q1.1 q1.2
    have c2 := i32_add1024 q2.1 q2.2
    simp only [sL_at, sL_ne (show (1290 : Nat) ≠ 1289 by decide), sL_ne (show (1290 : Nat) ≠ 1291 by decide), sL_ne (show (1289 : Nat) ≠ 1290 by decide), sL_ne (show (1289 : Nat) ≠ 1291 by decide), i32_rt, c0, c1, c2]
    refine (pM_c (a' := tA1 (zx_sin (mm.1 A t)).toInt64 (zx_sin (mm.1 A t + 1024)).toInt64 (zx_sin (mm.1 A (t + 1))).toInt64 (zx_sin (mm.1 A (t + 1) + 1024)).toInt64) (b' := abM 2 (zx_sin (mm.1 A (t + 2))).toInt64 (zx_sin (mm.1 A (t + 2) + 1024)).toInt64) (o' := fun _ => 0) (fun k hk => ?_) (fun k hk => if_pos hk) hk).trans ?_
    · refine (pM_c (a' := abM 1 (zx_sin (mm.1 A (t + 1))).toInt64 (zx_sin (mm.1 A (t + 1) + 1024)).toInt64) (b' := abM 0 (zx_sin (mm.1 A t)).toInt64 (zx_sin (mm.1 A t + 1024)).toInt64) (o' := fun _ => 0) (fun k hk => if_pos hk) (fun k hk => if_pos hk) hk).trans ?_
      unfold pM
      rw [if_pos hk]
      exact turn_1 (sin_sml _) (sin_sml _) (sin_sml _) (sin_sml _) hk
    · unfold pM
      rw [if_pos hk]
      exact turn_2 (sin_sml _) (sin_sml _) (sin_sml _) (sin_sml _) (sin_sml _) (sin_sml _) hk
