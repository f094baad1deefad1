/-! PURE: the reference copies a row of a scene -/
section ZNB
variable {W H : Nat}
theorem e_copy2 {a b len : Nat} (ha : sh0 W H a = some (100, len)) (hb : sh0 W H b = some (100, len)) (hab : a ≠ b) (hl : len < 100000) : ∀ (d k fuel : Nat) (m : zMem), k + d = len → d < fuel → L_MScene_copy_2 (sh0 W H) fuel a b (nI k) m = some (a, b, nI len, sI m b (fun q => if k ≤ q ∧ q < len then m.1 a q else m.1 b q)) := by
  have hzA : ∀ K : Nat → Nat → Option (Nat × Nat × Int32 × zMem), zoA (sh0 W H b) K = K 100 len := fun K => by
    rw [hb]
    exact zoA_e (by decide)
  have hof : Int32.ofNat len = nI len := rfl
  intro d
  induction d with
  | zero =>
    intro k fuel m hk hf
    obtain ⟨fu, rfl⟩ : ∃ fu, fuel = fu + 1 := ⟨fuel - 1, by omega⟩
    obtain rfl : k = len := by omega
    simp only [L_MScene_copy_2, hzA, hof]
    rw [if_pos (Int32.le_refl _)]
    refine congrArg (fun z => some (a, b, nI k, z)) ?_
    rw [sI_to (h := m.1 b) (fun q => if_neg (by omega)), sI_id]
  | succ d ih =>
    intro k fuel m hk hf
    obtain ⟨fu, rfl⟩ : ∃ fu, fuel = fu + 1 := ⟨fuel - 1, by omega⟩
    have hle : (nI len ≤ nI k) = False := eq_false (by rw [nI_leD (by omega) (by omega)]; omega)
    simp only [L_MScene_copy_2, hzA, hof, hle, ↓reduceIte]
    simp (disch := first | assumption | omega) only [↓zoS_h ha, ha, ↓zoS_h hb, hb, nI_1, ↓zoL_e, ↓zob_e, ↓reduceIte, zoS_e, zob_e, nI_lt0, nI_lt00, nI_cl, nle_f, or_self, or_false, false_or]
    rw [mI_sI, ih (k + 1) fu _ (by omega) (by omega)]
    refine congrArg (fun z => some (a, b, nI len, z)) ?_
    rw [sI_sI]
    refine sI_to (fun q => ?_)
    simp only [sI_at, sI_ne hab]
    by_cases hq : q = k
    · subst hq
      rw [if_neg (by omega), if_pos (by omega), upd_at]
    · by_cases hq2 : k ≤ q ∧ q < len
      · rw [if_pos (by omega), if_pos hq2]
      · rw [if_neg (by omega), if_neg hq2, upd_ne hq]
theorem e_copy {a b len : Nat} (ha : sh0 W H a = some (100, len)) (hb : sh0 W H b = some (100, len)) (hab : a ≠ b) (hl : len < 100000) (m : zMem) : F_MScene_copy (sh0 W H) m a b = some (sI m b (fun q => if q < len then m.1 a q else m.1 b q)) := by
  unfold F_MScene_copy
  rw [nI_k0, e_copy2 ha hb hab hl len 0 zfuel m (by omega) (zf_lt (by omega))]
  simp only [zob_e, Nat.zero_le, true_and]
theorem e_bec267 {r s : Nat} (hr : gM r) (hs : gM s) (hrs : s + 20 ≠ r + 20) : ∀ (d k fuel : Nat) (m : zMem), k + d = 48 → d < fuel → RF m.2.2 → L_MScene_become_267 (sh0 W H) fuel r s (nI k) m = some (r, s, nI 48, sI m (r + 20) (fun q => if k ≤ q ∧ q < 48 then vp_nar .boolean (m.1 (s + 20) q) else m.1 (r + 20) q)) := by
  intro d
  induction d with
  | zero =>
    intro k fuel m hk hf hR
    obtain ⟨fu, rfl⟩ : ∃ fu, fuel = fu + 1 := ⟨fuel - 1, by omega⟩
    obtain rfl : k = 48 := by omega
    simp only [L_MScene_become_267]
    rw [if_pos (by decide)]
    refine congrArg (fun z => some (r, s, nI 48, z)) ?_
    rw [sI_to (h := m.1 (r + 20)) (fun q => if_neg (by omega)), sI_id]
  | succ d ih =>
    intro k fuel m hk hf hR
    obtain ⟨fu, rfl⟩ : ∃ fu, fuel = fu + 1 := ⟨fuel - 1, by omega⟩
    have hle : ((48 : Int32) ≤ nI k) = False := eq_false (by rw [show (48 : Int32) = nI 48 from rfl, nI_leD (by decide) (by omega)]; omega)
    simp (disch := first | assumption | omega) only [L_MScene_become_267, hle, ↓zoS_h (sh_m0 hr), sh_m0 hr, ↓zoS_h (sh_m0 hs), sh_m0 hs, ↓zoS_h (sh_m20 hr), sh_m20 hr, ↓zoS_h (sh_m20 hs), sh_m20 hs, ↓zob_h (rf_m24 hR hr), rf_m24 hR hr, ↓zob_h (rf_m24 hR hs), rf_m24 hR hs, nI_1, ↓zoL_e, ↓zob_e, ↓reduceIte, zoS_e, zob_e, nI_lt0, nI_lt00, nI_cl, nle_f, or_self, or_false, false_or]
    rw [mI_sI, ih (k + 1) fu _ (by omega) (by omega) (show RF (sI m _ _).2.2 from hR)]
    refine congrArg (fun z => some (r, s, nI 48, z)) ?_
    rw [sI_sI]
    refine sI_to (fun q => ?_)
    simp only [sI_at, sI_ne hrs]
    by_cases hq : q = k
    · subst hq
      rw [if_neg (by omega), if_pos (by omega), upd_at]
    · by_cases hq2 : k ≤ q ∧ q < 48
      · rw [if_pos (by omega), if_pos hq2]
      · rw [if_neg (by omega), if_neg hq2, upd_ne hq]
end ZNB
