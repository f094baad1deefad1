/-! PURE: both packers' rows -/
section ZRW
variable {W H : Nat}
theorem c_fil {m : zMem} {c : Nat → Nat} {l M f x y : Nat} (hR : RF m.2.2) (h : rwI 7 c M m) (hM : M ≤ 6912) (hf : f < 5) (hl3 : 3 ≤ l) (hl : l ≤ 144) (hx : x < l) (hy : y < 48) (hxy : y * l + x < M) : F_XPacker_filtered (sh0 W H) m 5 (nI f) (nI x) (nI y) (nI l) = some (nI (flN c l f x y), m) := by
  have hyl : y ≠ 0 → l ≤ y * l := fun e => Nat.le_mul_of_pos_left l (by omega)
  have e1 : nI y * nI l + nI x = nI (y * l + x) := by rw [nI_mul, nI_pp]
  have sx := sh_5 (W := W) (H := H)
  obtain ⟨v1, v2⟩ := h (y * l + x) hxy
  unfold F_XPacker_filtered flN
  rw [e1, zoL_e]
  by_cases c1 : x < 3
  · rw [if_neg (by rw [show (3 : Int32) = nI 3 from rfl, nI_leD (by decide) (by omega)]; omega), if_pos c1]
    have x3 : nI x < 3 := by rw [show (3 : Int32) = nI 3 from rfl, nI_ltD (by omega) (by decide)]; exact c1
    by_cases c2 : y = 0
    · have g : sp_XPacker_guess (nI f) 0 0 0 = nI (gsN f 0 0 0) := gs_c hf (by decide) (by decide) (by decide)
      rw [if_pos (show nI y = 0 by rw [c2]; rfl), if_pos x3, zoS_h sx, zob_h (rf_5_2 hR), zoS_h sh_7, nI_ix (by omega) (by decide), nI_cl (n := y * l + x) (by omega), v2, g, and_255 v1 (gsN_b (by decide) (by decide) (by decide)), if_pos c2, if_pos (Or.inl c1)]
    · obtain ⟨b1, b2⟩ := h (y * l + x - l) (by omega)
      have g : sp_XPacker_guess (nI f) 0 (nI (c (y * l + x - l))) 0 = nI (gsN f 0 (c (y * l + x - l)) 0) := gs_c hf (by decide) b1 (by decide)
      have := hyl c2
      rw [if_neg (show ¬ (nI y = 0) from fun q => c2 ((nI_eqD (b := 0) (by omega) (by decide)).mp q)), zoS_h sx, zob_h (rf_5_2 hR), nI_sub (show l ≤ y * l + x by omega), zoL_e, zoS_h sh_7, nI_ix (by omega) (by decide), nI_cl (n := y * l + x - l) (by omega), b2, zoL_e, if_pos x3, zoS_h sx, zob_h (rf_5_2 hR), zoS_h sh_7, nI_ix (by omega) (by decide), nI_cl (n := y * l + x) (by omega), v2, g, and_255 v1 (gsN_b (by decide) b1 (by decide)), if_neg c2, if_pos (Or.inl c1)]
  · have x3 : ¬ (nI x < 3) := by rw [show (3 : Int32) = nI 3 from rfl, nI_ltD (by omega) (by decide)]; exact c1
    obtain ⟨a1, a2⟩ := h (y * l + x - 3) (by omega)
    have e3 : nI (y * l + x) - 3 = nI (y * l + x - 3) := nI_sub (b := 3) (by omega)
    rw [if_pos (by rw [show (3 : Int32) = nI 3 from rfl, nI_leD (by decide) (by omega)]; omega), zoS_h sx, zob_h (rf_5_2 hR), e3, zoL_e, zoS_h sh_7, nI_ix (by omega) (by decide), nI_cl (n := y * l + x - 3) (by omega), a2, zoL_e, if_neg c1]
    by_cases c2 : y = 0
    · have g : sp_XPacker_guess (nI f) (nI (c (y * l + x - 3))) 0 0 = nI (gsN f (c (y * l + x - 3)) 0 0) := gs_c hf a1 (by decide) (by decide)
      rw [if_pos (show nI y = 0 by rw [c2]; rfl), if_neg x3, zoS_h sx, zob_h (rf_5_2 hR), zoS_h sh_7, nI_ix (by omega) (by decide), nI_cl (n := y * l + x) (by omega), v2, g, and_255 v1 (gsN_b a1 (by decide) (by decide)), if_pos c2, if_pos (Or.inr c2)]
    · have := hyl c2
      obtain ⟨b1, b2⟩ := h (y * l + x - l) (by omega)
      obtain ⟨d1, d2⟩ := h (y * l + x - l - 3) (by omega)
      have g : sp_XPacker_guess (nI f) (nI (c (y * l + x - 3))) (nI (c (y * l + x - l))) (nI (c (y * l + x - l - 3))) = nI (gsN f (c (y * l + x - 3)) (c (y * l + x - l)) (c (y * l + x - l - 3))) := gs_c hf a1 b1 d1
      have e4 : nI (y * l + x - l) - 3 = nI (y * l + x - l - 3) := nI_sub (b := 3) (by omega)
      rw [if_neg (show ¬ (nI y = 0) from fun q => c2 ((nI_eqD (b := 0) (by omega) (by decide)).mp q)), zoS_h sx, zob_h (rf_5_2 hR), nI_sub (show l ≤ y * l + x by omega), zoL_e, zoS_h sh_7, nI_ix (by omega) (by decide), nI_cl (n := y * l + x - l) (by omega), b2, zoL_e, if_neg x3, zoS_h sx, zob_h (rf_5_2 hR), e4, zoL_e, zoS_h sh_7, nI_ix (by omega) (by decide), nI_cl (n := y * l + x - l - 3) (by omega), d2, zoL_e, zoS_h sx, zob_h (rf_5_2 hR), zoS_h sh_7, nI_ix (by omega) (by decide), nI_cl (n := y * l + x) (by omega), v2, g, and_255 v1 (gsN_b a1 b1 d1), if_neg c2, if_neg (fun q => q.elim c1 c2)]
/-- what the reference's packer has at hand -/
def mPk (c : Nat → Nat) (W M : Nat) (m : zMem) : Prop := RF m.2.2 ∧ m.2.2 1278 6 = some 1283 ∧ m.1 1278 5 = nI W ∧ rwI 1283 c M m
theorem m_atP {m : zMem} {c : Nat → Nat} {M x y : Nat} (h : mPk c W M m) (hM : M ≤ 6912) (hW : W ≤ 48) (hx : x < 144) (hy : y < 48) (hxy : y * (3 * W) + x < M) : F_MPacker_at (sh0 W H) m 1278 (nI x) (nI y) = some (nI (c (y * (3 * W) + x)), m) := by
  have e1 : (3 * nI W) * nI y + nI x = nI (y * (3 * W) + x) := by rw [nI_3mul, nI_mul, nI_pp, Nat.mul_comm (3 * W) y]
  unfold F_MPacker_at
  rw [if_neg (nI_pos (by omega)), if_pos (by rw [i32_le, nI_toInt (by omega)]; exact Int.natCast_nonneg y), zoS_h sh_1278, zob_h h.2.1, zoS_h sh_1278, h.2.2.1, e1, zoL_e, zoS_h sh_1283, nI_ix (by omega) (by decide), nI_cl (n := y * (3 * W) + x) (by omega), (h.2.2.2 _ hxy).2]
theorem m_at0 {m : zMem} {X Y : Int32} (h : X.toInt < 0 ∨ Y.toInt < 0) : F_MPacker_at (sh0 W H) m 1278 X Y = some (0, m) := by
  have z0 : (0 : Int32).toInt = 0 := rfl
  unfold F_MPacker_at
  by_cases c : X.toInt < 0
  · rw [if_pos (by rw [i32_lt, z0]; exact c)]
  · rw [if_neg (by rw [i32_lt, z0]; exact c), if_neg (by rw [i32_le, z0]; omega)]
theorem m_guess {m : zMem} {c : Nat → Nat} {M f x y : Nat} (h : mPk c W M m) (hM : M ≤ 6912) (hW8 : 8 ≤ W) (hW : W ≤ 48) (hf : f < 5) (hx : x < 3 * W) (hy : y < 48) (hxy : y * (3 * W) + x < M) : F_MPacker_guess (sh0 W H) m 1278 (nI f) (nI x) (nI y) = some (nI (gsN f (if x < 3 then 0 else c (y * (3 * W) + x - 3)) (if y = 0 then 0 else c (y * (3 * W) + x - 3 * W)) (if x < 3 ∨ y = 0 then 0 else c (y * (3 * W) + x - 3 * W - 3))), m) := by
  have c3 : (3 : Int32).toInt = 3 := rfl
  have c1' : (1 : Int32).toInt = 1 := rfl
  have xm : (nI x - 3).toInt = (x : Int) - 3 := by rw [i32_sub (by rw [nI_toInt (by omega)]; omega) (by rw [nI_toInt (by omega)]; omega), nI_toInt (by omega), c3]
  have ym : (nI y - 1).toInt = (y : Int) - 1 := by rw [i32_sub (by rw [nI_toInt (by omega)]; omega) (by rw [nI_toInt (by omega)]; omega), nI_toInt (by omega), c1']
  have hyl : y ≠ 0 → 3 * W ≤ y * (3 * W) ∧ (y - 1) * (3 * W) = y * (3 * W) - 3 * W := fun e => ⟨Nat.le_mul_of_pos_left _ (by omega), by rw [Nat.sub_mul, Nat.one_mul]⟩
  have hA : F_MPacker_at (sh0 W H) m 1278 (nI x - 3) (nI y) = some (nI (if x < 3 then 0 else c (y * (3 * W) + x - 3)), m) ∧ (if x < 3 then 0 else c (y * (3 * W) + x - 3)) < 256 := by
    by_cases q : x < 3
    · rw [if_pos q]
      exact ⟨m_at0 (Or.inl (by omega)), by decide⟩
    · rw [if_neg q, show nI x - 3 = nI (x - 3) from nI_sub (b := 3) (by omega), m_atP (H := H) h hM hW (by omega) hy (by omega), show y * (3 * W) + (x - 3) = y * (3 * W) + x - 3 by omega]
      exact ⟨rfl, (h.2.2.2 _ (by omega)).1⟩
  have hB : F_MPacker_at (sh0 W H) m 1278 (nI x) (nI y - 1) = some (nI (if y = 0 then 0 else c (y * (3 * W) + x - 3 * W)), m) ∧ (if y = 0 then 0 else c (y * (3 * W) + x - 3 * W)) < 256 := by
    by_cases q : y = 0
    · rw [if_pos q]
      exact ⟨m_at0 (Or.inr (by omega)), by decide⟩
    · obtain ⟨q1, q2⟩ := hyl q
      rw [if_neg q, show nI y - 1 = nI (y - 1) from nI_sub (b := 1) (by omega), m_atP (H := H) h hM hW (by omega) (by omega) (by omega), show (y - 1) * (3 * W) + x = y * (3 * W) + x - 3 * W by omega]
      exact ⟨rfl, (h.2.2.2 _ (by omega)).1⟩
  have hC : F_MPacker_at (sh0 W H) m 1278 (nI x - 3) (nI y - 1) = some (nI (if x < 3 ∨ y = 0 then 0 else c (y * (3 * W) + x - 3 * W - 3)), m) ∧ (if x < 3 ∨ y = 0 then 0 else c (y * (3 * W) + x - 3 * W - 3)) < 256 := by
    by_cases q : x < 3 ∨ y = 0
    · rw [if_pos q]
      exact ⟨m_at0 (by omega), by decide⟩
    · obtain ⟨q1, q2⟩ := hyl (by omega)
      rw [if_neg q, show nI x - 3 = nI (x - 3) from nI_sub (b := 3) (by omega), show nI y - 1 = nI (y - 1) from nI_sub (b := 1) (by omega), m_atP (H := H) h hM hW (by omega) (by omega) (by omega), show (y - 1) * (3 * W) + (x - 3) = y * (3 * W) + x - 3 * W - 3 by omega]
      exact ⟨rfl, (h.2.2.2 _ (by omega)).1⟩
  generalize (if x < 3 then 0 else c (y * (3 * W) + x - 3)) = a at *
  generalize (if y = 0 then 0 else c (y * (3 * W) + x - 3 * W)) = b at *
  generalize (if x < 3 ∨ y = 0 then 0 else c (y * (3 * W) + x - 3 * W - 3)) = d at *
  obtain ⟨hA, a1⟩ := hA
  obtain ⟨hB, b1⟩ := hB
  obtain ⟨hC, d1⟩ := hC
  unfold F_MPacker_guess
  rw [zoS_h sh_1278, zob_h hA]
  dsimp only
  rw [zoS_h sh_1278, zob_h hB]
  dsimp only
  rw [zoS_h sh_1278, zob_h hC]
  dsimp only
  have d2 : nI (a + b) / (2 : Int32) = nI ((a + b) / 2) := nI_div (b := 2) (by omega) (by decide) (by decide)
  unfold gsN
  by_cases f0 : f = 0
  · rw [if_pos (show nI f = 0 by rw [f0]; rfl), if_pos f0]
    rfl
  rw [if_neg (show ¬ (nI f = 0) from fun q => f0 ((nI_eqD (b := 0) (by omega) (by decide)).mp q)), if_neg f0]
  by_cases f1 : f = 1
  · rw [if_pos (show nI f = 1 by rw [f1]; rfl), if_pos f1]
  rw [if_neg (show ¬ (nI f = 1) from fun q => f1 ((nI_eqD (b := 1) (by omega) (by decide)).mp q)), if_neg f1]
  by_cases f2 : f = 2
  · rw [if_pos (show nI f = 2 by rw [f2]; rfl), if_pos f2]
  rw [if_neg (show ¬ (nI f = 2) from fun q => f2 ((nI_eqD (b := 2) (by omega) (by decide)).mp q)), if_neg f2]
  by_cases f3 : f = 3
  · rw [if_pos (show nI f = 3 by rw [f3]; rfl), if_pos f3, nI_pp, d2]
  rw [if_neg (show ¬ (nI f = 3) from fun q => f3 ((nI_eqD (b := 3) (by omega) (by decide)).mp q)), if_neg f3, zoL_e, zoL_e, zoL_e, zoL_e]
  have ea : (nI a).toInt = a := nI_toInt (by omega)
  have eb : (nI b).toInt = b := nI_toInt (by omega)
  have ed : (nI d).toInt = d := nI_toInt (by omega)
  have ep : ((nI a + nI b) - nI d).toInt = (a : Int) + b - d := by
    rw [nI_pp, i32_sub (by rw [nI_toInt (by omega)]; omega) (by rw [nI_toInt (by omega)]; omega), nI_toInt (by omega), ed]
    omega
  have e1 : (((nI a + nI b) - nI d) - nI a).toInt = (b : Int) - d := by rw [i32_sub (by omega) (by omega), ep, ea]; omega
  have e2 : (((nI a + nI b) - nI d) - nI b).toInt = (a : Int) - d := by rw [i32_sub (by omega) (by omega), ep, eb]; omega
  have e3 : (((nI a + nI b) - nI d) - nI d).toInt = (a : Int) + b - 2 * d := by rw [i32_sub (by omega) (by omega), ep, ed]; omega
  have l1 := abs_lt e2 e1 (by omega) (by omega) (by omega) (by omega)
  have l2 := abs_lt e3 e2 (by omega) (by omega) (by omega) (by omega)
  have l3 := abs_lt e3 e1 (by omega) (by omega) (by omega) (by omega)
  unfold pae
  by_cases c1 : ((a : Int) - d).natAbs < ((b : Int) - d).natAbs
  · rw [if_pos (l1.mpr c1), if_pos c1]
    by_cases c2 : ((a : Int) + b - 2 * d).natAbs < ((a : Int) - d).natAbs
    · rw [if_pos (l2.mpr c2), if_pos c2]
    · rw [if_neg (fun q => c2 (l2.mp q)), if_neg c2]
  · rw [if_neg (fun q => c1 (l1.mp q)), if_neg c1]
    by_cases c3 : ((a : Int) + b - 2 * d).natAbs < ((b : Int) - d).natAbs
    · rw [if_pos (l3.mpr c3), if_pos c3]
      by_cases c2 : ((a : Int) + b - 2 * d).natAbs < ((a : Int) - d).natAbs
      · rw [if_pos (l2.mpr c2), if_pos c2]
      · rw [if_neg (fun q => c2 (l2.mp q)), if_neg c2]
    · rw [if_neg (fun q => c3 (l3.mp q)), if_neg c3]
theorem m_less {m : zMem} {c : Nat → Nat} {M f x y : Nat} (h : mPk c W M m) (hM : M ≤ 6912) (hW8 : 8 ≤ W) (hW : W ≤ 48) (hf : f < 5) (hx : x < 3 * W) (hy : y < 48) (hxy : y * (3 * W) + x < M) : F_MPacker_less (sh0 W H) m 1278 (nI f) (nI x) (nI y) = some (nI (flN c (3 * W) f x y), m) := by
  have hb : ∀ i, i < M → c i < 256 := fun i hi => (h.2.2.2 i hi).1
  unfold F_MPacker_less flN
  rw [zoS_h sh_1278, zob_h (m_atP (H := H) h hM hW (by omega) hy hxy)]
  dsimp only
  rw [zoS_h sh_1278, zob_h (m_guess (H := H) h hM hW8 hW hf hx hy hxy)]
  dsimp only
  rw [and_255 (hb _ hxy) (gsN_b ?_ ?_ ?_)]
  · split
    · decide
    · exact hb _ (by omega)
  · split
    · decide
    · exact hb _ (by omega)
  · split
    · decide
    · exact hb _ (by omega)
/-- sums and the best filter -/
def smF (v : Nat → Nat) : Nat → Nat
  | 0 => 0
  | n + 1 => smF v n + min (v n) (256 - v n)
theorem smF_b {v : Nat → Nat} : ∀ n, smF v n ≤ 128 * n := by
  intro n
  induction n with
  | zero => exact Nat.le_refl _
  | succ n ih => rw [smF]; omega
theorem smF_m {v : Nat → Nat} {a : Nat} : ∀ b, a ≤ b → smF v a ≤ smF v b := by
  intro b
  induction b with
  | zero => intro h; rw [show a = 0 by omega]; exact Nat.le_refl _
  | succ b ih =>
    intro h
    by_cases e : a = b + 1
    · rw [e]; exact Nat.le_refl _
    · have := ih (by omega)
      rw [smF]
      omega
def bfS (sm : Nat → Nat) : Nat → Nat × Nat
  | 0 => (0, 1769472)
  | f + 1 => if sm f < (bfS sm f).2 then (f, sm f) else bfS sm f
theorem bfS_b {sm : Nat → Nat} (h : ∀ f, sm f ≤ 20000) : ∀ f, f ≤ 5 → (bfS sm f).1 < 5 ∧ (bfS sm f).2 ≤ 1769472 ∧ (1 ≤ f → (bfS sm f).2 ≤ 20000) := by
  intro f
  induction f with
  | zero => intro _; exact ⟨by show 0 < 5; decide, by show 1769472 ≤ 1769472; decide, fun q => absurd q (by decide)⟩
  | succ f ih =>
    intro hf
    obtain ⟨a, b, c⟩ := ih (by omega)
    have := h f
    rw [bfS]
    by_cases e : sm f < (bfS sm f).2
    · rw [if_pos e]
      exact ⟨by show f < 5; omega, by show sm f ≤ _; omega, fun _ => this⟩
    · rw [if_neg e]
      exact ⟨a, b, fun _ => by omega⟩
def smY (c : Nat → Nat) (l y f : Nat) : Nat := smF (fun x => flN c l f x y) l
def bsY (c : Nat → Nat) (l y : Nat) : Nat := (bfS (smY c l y) 5).1
theorem smY_b {c : Nat → Nat} {l y f : Nat} (hl : l ≤ 144) : smY c l y f ≤ 20000 := by
  have := smF_b (v := fun x => flN c l f x y) l
  unfold smY
  omega
theorem min_v {v : Nat} (hv : v < 256) : zx_min (nI v) (256 - nI v) = nI (min v (256 - v)) := by
  rw [show (256 : Int32) - nI v = nI (256 - v) from nI_sub (a := 256) (by omega), min_nI (by omega) (by omega)]
theorem c_bf21 {m : zMem} {c : Nat → Nat} {l M f y B L : Nat} (hR : RF m.2.2) (h : rwI 7 c M m) (hM : M ≤ 6912) (hf : f < 5) (hl3 : 3 ≤ l) (hl : l ≤ 144) (hy : y < 48) (hyM : y * l + l ≤ M) (hL : L ≤ 1769472) : ∀ (d x fuel : Nat), x + d = l → d < fuel → ∃ X, X ≤ l ∧ (X = l ∨ L ≤ smF (fun x => flN c l f x y) X) ∧ L_XPacker_bestFilter_21 (sh0 W H) fuel 5 (nI y) (nI l) (nI B) (nI L) (nI f) (nI (smF (fun x => flN c l f x y) x)) (nI x) m = some (5, nI y, nI l, nI B, nI L, nI f, nI (smF (fun x => flN c l f x y) X), nI X, m) := by
  intro d
  induction d with
  | zero =>
    intro x fuel hx hf'
    obtain ⟨fu, rfl⟩ : ∃ fu, fuel = fu + 1 := ⟨fuel - 1, by omega⟩
    refine ⟨x, by omega, Or.inl (by omega), ?_⟩
    rw [L_XPacker_bestFilter_21, if_pos (by rw [nI_leD (by omega) (by omega)]; omega)]
  | succ d ih =>
    intro x fuel hx hf'
    obtain ⟨fu, rfl⟩ : ∃ fu, fuel = fu + 1 := ⟨fuel - 1, by omega⟩
    have sb := smF_b (v := fun x => flN c l f x y) x
    rw [L_XPacker_bestFilter_21, if_neg (by rw [nI_leD (by omega) (by omega)]; omega)]
    by_cases q : L ≤ smF (fun x => flN c l f x y) x
    · rw [if_pos (by rw [nI_leD (by omega) (by omega)]; exact q)]
      exact ⟨x, by omega, Or.inr q, rfl⟩
    · rw [if_neg (by rw [nI_leD (by omega) (by omega)]; exact q), zoS_h sh_5, zob_h (c_fil (W := W) (H := H) hR h hM hf hl3 hl (by omega) hy (by omega))]
      dsimp only
      rw [min_v flN_b, nI_pp, zoL_e, nI_p1]
      exact ih (x + 1) fu (by omega) (by omega)
theorem c_bf9 {m : zMem} {c : Nat → Nat} {l M y : Nat} (hR : RF m.2.2) (h : rwI 7 c M m) (hM : M ≤ 6912) (hl3 : 3 ≤ l) (hl : l ≤ 144) (hy : y < 48) (hyM : y * l + l ≤ M) : ∀ (d f fuel : Nat), f + d = 5 → d < fuel → L_XPacker_bestFilter_9 (sh0 W H) fuel 5 (nI y) (nI l) (nI (bfS (smY c l y) f).1) (nI (bfS (smY c l y) f).2) (nI f) m = some (5, nI y, nI l, nI (bfS (smY c l y) 5).1, nI (bfS (smY c l y) 5).2, nI 5, m) := by
  intro d
  induction d with
  | zero =>
    intro f fuel hf hfu
    obtain ⟨fu, rfl⟩ : ∃ fu, fuel = fu + 1 := ⟨fuel - 1, by omega⟩
    obtain rfl : f = 5 := by omega
    rw [L_XPacker_bestFilter_9, if_pos (by decide)]
  | succ d ih =>
    intro f fuel hf hfu
    obtain ⟨fu, rfl⟩ : ∃ fu, fuel = fu + 1 := ⟨fuel - 1, by omega⟩
    obtain ⟨b1, b2, _⟩ := bfS_b (sm := smY c l y) (fun f => smY_b (c := c) (y := y) (f := f) hl) f (by omega)
    obtain ⟨X, x1, x2, x3⟩ := c_bf21 (W := W) (H := H) (B := (bfS (smY c l y) f).1) (L := (bfS (smY c l y) f).2) hR h hM (show f < 5 by omega) hl3 hl hy hyM b2 l 0 zfuel (by omega) (zf_lt (by omega))
    have sb := smF_b (v := fun x => flN c l f x y) X
    have sb' := smF_b (v := fun x => flN c l f x y) l
    have sm := smF_m (v := fun x => flN c l f x y) (a := X) l x1
    have i := ih (f + 1) fu (by omega) (by omega)
    rw [bfS] at i
    rw [L_XPacker_bestFilter_9, if_neg (by rw [show (5 : Int32) = nI 5 from rfl, nI_leD (by decide) (by omega)]; omega), zob_h (show L_XPacker_bestFilter_21 (sh0 W H) zfuel 5 (nI y) (nI l) (nI (bfS (smY c l y) f).1) (nI (bfS (smY c l y) f).2) (nI f) 0 0 m = _ from x3)]
    dsimp only
    rw [nI_p1]
    by_cases q : (bfS (smY c l y) f).2 ≤ smF (fun x => flN c l f x y) X
    · have nq : ¬ smY c l y f < (bfS (smY c l y) f).2 := by unfold smY at q ⊢; omega
      rw [if_neg nq] at i
      rw [if_pos (by rw [nI_leD (by omega) (by omega)]; exact q)]
      exact i
    · have eX : X = l := x2.resolve_right q
      rw [eX] at q
      have pq : smY c l y f < (bfS (smY c l y) f).2 := by unfold smY at q ⊢; omega
      rw [if_pos pq] at i
      rw [eX, if_neg (by rw [nI_leD (by omega) (by omega)]; exact q)]
      exact i
theorem c_best {m : zMem} {c : Nat → Nat} {l M y : Nat} (hR : RF m.2.2) (h : rwI 7 c M m) (hM : M ≤ 6912) (hl3 : 3 ≤ l) (hl : l ≤ 144) (hy : y < 48) (hyM : y * l + l ≤ M) : F_XPacker_bestFilter (sh0 W H) m 5 (nI y) (nI l) = some (nI (bsY c l y), m) := by
  unfold F_XPacker_bestFilter
  rw [zob_h (show L_XPacker_bestFilter_9 (sh0 W H) zfuel 5 (nI y) (nI l) 0 1769472 0 m = _ from c_bf9 (W := W) (H := H) hR h hM hl3 hl hy hyM 5 0 zfuel (by decide) (zf_lt (by decide)))]
  rfl
theorem m_row19 {m : zMem} {c : Nat → Nat} {M f y : Nat} {v2 v3 : Int32} (h : mPk c W M m) (hM : M ≤ 6912) (hW8 : 8 ≤ W) (hW : W ≤ 48) (hf : f < 5) (hy : y < 48) (hyM : y * (3 * W) + 3 * W ≤ M) : ∀ (d x fuel : Nat), x + d = 3 * W → d < fuel → L_MPacker_row_19 (sh0 W H) fuel 1278 (nI y) v2 v3 (nI f) (nI (smF (fun x => flN c (3 * W) f x y) x)) (nI x) m = some (1278, nI y, v2, v3, nI f, nI (smY c (3 * W) y f), nI (3 * W), m) := by
  intro d
  induction d with
  | zero =>
    intro x fuel hx hf'
    obtain ⟨fu, rfl⟩ : ∃ fu, fuel = fu + 1 := ⟨fuel - 1, by omega⟩
    obtain rfl : x = 3 * W := by omega
    rw [L_MPacker_row_19, zoS_h sh_1278, h.2.2.1, nI_3mul, if_pos (by rw [nI_leD (by omega) (by omega)]; omega)]
    rfl
  | succ d ih =>
    intro x fuel hx hf'
    obtain ⟨fu, rfl⟩ : ∃ fu, fuel = fu + 1 := ⟨fuel - 1, by omega⟩
    have ls := m_less (H := H) (x := x) h hM hW8 hW hf (by omega) hy (by omega)
    rw [L_MPacker_row_19, zoS_h sh_1278, h.2.2.1, nI_3mul, if_neg (by rw [nI_leD (by omega) (by omega)]; omega), zoS_h sh_1278, zob_h ls]
    dsimp only
    rw [zoS_h sh_1278, zob_h ls]
    dsimp only
    rw [min_v flN_b, nI_pp, zoL_e, nI_p1]
    exact ih (x + 1) fu (by omega) (by omega)
theorem m_row7 {m : zMem} {c : Nat → Nat} {M y : Nat} (h : mPk c W M m) (hM : M ≤ 6912) (hW8 : 8 ≤ W) (hW : W ≤ 48) (hy : y < 48) (hyM : y * (3 * W) + 3 * W ≤ M) : ∀ (d f fuel : Nat), f + d = 5 → d < fuel → ∃ z, L_MPacker_row_7 (sh0 W H) fuel 1278 (nI y) (if f = 0 then 0 else nI (bfS (smY c (3 * W) y) f).1) (if f = 0 then 0 else nI (bfS (smY c (3 * W) y) f).2) (nI f) m = some (1278, nI y, nI (bsY c (3 * W) y), z, nI 5, m) := by
  intro d
  induction d with
  | zero =>
    intro f fuel hf hfu
    obtain ⟨fu, rfl⟩ : ∃ fu, fuel = fu + 1 := ⟨fuel - 1, by omega⟩
    obtain rfl : f = 5 := by omega
    rw [L_MPacker_row_7, if_pos (by decide), if_neg (by decide)]
    exact ⟨_, rfl⟩
  | succ d ih =>
    intro f fuel hf hfu
    obtain ⟨fu, rfl⟩ : ∃ fu, fuel = fu + 1 := ⟨fuel - 1, by omega⟩
    obtain ⟨b1, b2, b3⟩ := bfS_b (sm := smY c (3 * W) y) (fun f => smY_b (c := c) (l := 3 * W) (y := y) (f := f) (by omega)) f (by omega)
    have sb := smY_b (c := c) (l := 3 * W) (y := y) (f := f) (by omega)
    obtain ⟨z, i⟩ := ih (f + 1) fu (by omega) (by omega)
    rw [if_neg (by omega), if_neg (by omega), bfS] at i
    rw [L_MPacker_row_7, if_neg (by rw [show (5 : Int32) = nI 5 from rfl, nI_leD (by decide) (by omega)]; omega), zob_h (show L_MPacker_row_19 (sh0 W H) zfuel 1278 (nI y) _ _ (nI f) 0 0 m = _ from m_row19 (H := H) h hM hW8 hW (show f < 5 by omega) hy hyM (3 * W) 0 zfuel (by omega) (zf_lt (by omega)))]
    dsimp only
    rw [nI_p1]
    by_cases f0 : f = 0
    · rw [if_pos (show nI f = 0 by rw [f0]; rfl)]
      rw [if_pos (by rw [f0] at b3 ⊢; show smY c (3 * W) y 0 < 1769472; rw [f0] at sb; omega)] at i
      exact ⟨z, i⟩
    · rw [if_neg (show ¬ (nI f = 0) from fun q => f0 ((nI_eqD (b := 0) (by omega) (by decide)).mp q)), if_neg f0, if_neg f0]
      by_cases q : (bfS (smY c (3 * W) y) f).2 ≤ smY c (3 * W) y f
      · rw [if_neg (by omega)] at i
        rw [if_pos (by rw [nI_leD (by omega) (by omega)]; exact q)]
        exact ⟨z, i⟩
      · rw [if_pos (by omega)] at i
        rw [if_neg (by rw [nI_leD (by omega) (by omega)]; exact q)]
        exact ⟨z, i⟩
end ZRW
