/-! PURE: a node's place in the world, the reference's way -/
def wL (f : Nat → Nat → Int32) (r i : Nat) : Nat → Int64 := lM (fun c => f (r + 17) (3 * i + c)) (fun c => f (r + 18) (3 * i + c)) (fun c => f (r + 19) (3 * i + c))
theorem e_tl_23 {W H r nd : Nat} (hr : gM r) (hn : nd < 48) {i : Nat} (hi : i < 3) : ∀ (d j fuel : Nat) (mm : zMem), j + d = 3 → d < fuel → RF mm.2.2 → mm.2.2 1285 5 = some r → L_MPainter_toLocal_23 (sh0 W H) fuel 1285 (nI nd) (nI i) (nI j) mm = some (1285, nI nd, nI i, nI 3, sL mm 1289 (fun k => if 4 * i + j ≤ k ∧ k < 4 * i + 3 then sp_MPainter_bound (sp_MPainter_mul (mm.2.1 1290 k) (mm.1 (r + 19) (3 * nd + (k - 4 * i))).toInt64) else mm.2.1 1289 k)) := by
  intro d
  induction d with
  | zero =>
    intro j fuel mm hj hf hR hs
    obtain ⟨fu, rfl⟩ : ∃ fu, fuel = fu + 1 := ⟨fuel - 1, by omega⟩
    obtain rfl : j = 3 := by omega
    simp only [L_MPainter_toLocal_23]
    rw [if_pos (by decide)]
    refine congrArg (fun z => some (1285, nI nd, nI i, nI 3, z)) ?_
    rw [sL_to (h := mm.2.1 1289) (fun k => if_neg (by omega)), sL_id]
  | succ d ih =>
    intro j fuel mm hj hf hR hs
    obtain ⟨fu, rfl⟩ : ∃ fu, fuel = fu + 1 := ⟨fuel - 1, by omega⟩
    have hj3 : ¬ 3 ≤ j := by omega
    have hR' : ∀ g, RF (sL mm 1289 g).2.2 := fun _ => hR
    have hs' : ∀ g, (sL mm 1289 g).2.2 1285 5 = some r := fun _ => hs
    simp (disch := first | assumption | omega) only [L_MPainter_toLocal_23, nI_k1, nI_k3, nI_k4, nI_add, nI_mul, nI_leD, hj3, ↓zoS_h sh_1285, sh_1285, ↓zoS_h sh_1289, sh_1289, ↓zoS_h sh_1290, sh_1290, ↓zoS_h (sh_m0 hr), sh_m0 hr, ↓zoS_h (sh_m19 hr), sh_m19 hr, ↓zob_h (rf_1285_17 hR), rf_1285_17 hR, ↓zob_h (rf_1285_18 hR), rf_1285_18 hR, ↓zob_h (rf_m23 hR hr), rf_m23 hR hr, ↓zob_h hs, hs, ↓zoL_e, ↓zob_e, ↓reduceIte, zoS_e, zob_e, nI_lt0, nI_lt00, nI_cl, nle_f, or_self, or_false, false_or]
    rw [mL_sL, ih (j + 1) fu _ (by omega) (by omega) (hR' _) (hs' _)]
    refine congrArg (fun z => some (1285, nI nd, nI i, nI 3, z)) ?_
    rw [sL_sL]
    refine sL_to (fun k => ?_)
    simp only [sL_at, sL_I, sL_ne (show 1290 ≠ 1289 by decide), vp_updL]
    by_cases hk : k = 4 * i + j
    · subst hk
      rw [if_neg (by omega), if_pos rfl, if_pos (by omega), show 4 * i + j - 4 * i = j by omega]
    · by_cases hk2 : 4 * i + j ≤ k ∧ k < 4 * i + 3
      · rw [if_pos (by omega), if_pos hk2]
      · rw [if_neg (by omega), if_neg hk, if_neg hk2]
theorem e_tl_16 {W H r nd : Nat} (hr : gM r) (hn : nd < 48) : ∀ (d i fuel : Nat) (mm : zMem), i + d = 3 → d < fuel → RF mm.2.2 → mm.2.2 1285 5 = some r → L_MPainter_toLocal_16 (sh0 W H) fuel 1285 (nI nd) (nI i) mm = some (1285, nI nd, nI 3, sL mm 1289 (fun k => if 4 * i ≤ k ∧ k < 12 then (if k % 4 = 3 then (mm.1 (r + 17) (3 * nd + k / 4)).toInt64 else sp_MPainter_bound (sp_MPainter_mul (mm.2.1 1290 k) (mm.1 (r + 19) (3 * nd + k % 4)).toInt64)) else mm.2.1 1289 k)) := by
  intro d
  induction d with
  | zero =>
    intro i fuel mm hj hf hR hs
    obtain ⟨fu, rfl⟩ : ∃ fu, fuel = fu + 1 := ⟨fuel - 1, by omega⟩
    obtain rfl : i = 3 := by omega
    simp only [L_MPainter_toLocal_16]
    rw [if_pos (by decide)]
    refine congrArg (fun z => some (1285, nI nd, nI 3, z)) ?_
    rw [sL_to (h := mm.2.1 1289) (fun k => if_neg (by omega)), sL_id]
  | succ d ih =>
    intro i fuel mm hj hf hR hs
    obtain ⟨fu, rfl⟩ : ∃ fu, fuel = fu + 1 := ⟨fuel - 1, by omega⟩
    have hR' : ∀ g, RF (sL mm 1289 g).2.2 := fun _ => hR
    have hs' : ∀ g, (sL mm 1289 g).2.2 1285 5 = some r := fun _ => hs
    simp only [L_MPainter_toLocal_16]
    rw [if_neg (by rw [nI_k3, nI_leD (by omega) (by omega)]; omega), nI_k0, e_tl_23 hr hn (by omega) 3 0 zfuel mm rfl (by decide) hR hs]
    simp (disch := first | assumption | omega) only [sL_R, sL_I, nI_k1, nI_k3, nI_k4, nI_add, nI_mul, ↓zoS_h sh_1285, sh_1285, ↓zoS_h sh_1289, sh_1289, ↓zoS_h (sh_m0 hr), sh_m0 hr, ↓zoS_h (sh_m17 hr), sh_m17 hr, ↓zob_h (rf_1285_17 hR), rf_1285_17 hR, ↓zob_h (rf_m21 hR hr), rf_m21 hR hr, ↓zob_h hs, hs, ↓zoL_e, ↓zob_e, ↓reduceIte, zoS_e, zob_e, nI_lt0, nI_lt00, nI_cl, nle_f, or_self, or_false, false_or]
    rw [mL_sL, sL_sL, ih (i + 1) fu _ (by omega) (by omega) (hR' _) (hs' _)]
    refine congrArg (fun z => some (1285, nI nd, nI 3, z)) ?_
    rw [sL_sL]
    refine sL_to (fun k => ?_)
    simp only [sL_at, sL_I, sL_ne (show 1290 ≠ 1289 by decide), vp_updL]
    by_cases hk : 4 * (i + 1) ≤ k ∧ k < 12
    · rw [if_pos hk, if_pos (show 4 * i ≤ k ∧ k < 12 by omega)]
    · rw [if_neg hk]
      by_cases hk2 : k = 4 * i + 3
      · subst hk2
        rw [if_pos rfl, if_pos (show 4 * i ≤ 4 * i + 3 ∧ 4 * i + 3 < 12 by omega), if_pos (show (4 * i + 3) % 4 = 3 by omega), show (4 * i + 3) / 4 = i by omega]
      · rw [if_neg hk2]
        by_cases hk3 : 4 * i + 0 ≤ k ∧ k < 4 * i + 3
        · rw [if_pos hk3, if_pos (show 4 * i ≤ k ∧ k < 12 by omega), if_neg (show ¬ k % 4 = 3 by omega), show k % 4 = k - 4 * i by omega]
        · rw [if_neg hk3, if_neg (show ¬ (4 * i ≤ k ∧ k < 12) by omega)]
/-- what the reference's scene must keep for its nodes -/
def trnB (f : Nat → Nat → Int32) (r n : Nat) : Prop := ∀ j, j < 3 * n → -1048576 ≤ (f (r + 18) j).toInt ∧ (f (r + 18) j).toInt ≤ 1048576
theorem e_toLocal {W H : Nat} {mm : zMem} {r nd n : Nat} (hR : RF mm.2.2) (hs : mm.2.2 1285 5 = some r) (hr : gM r) (hn : nd < n) (hn2 : n ≤ 48) (ht : trnB mm.1 r n) : zok (F_MPainter_toLocal (sh0 W H) mm 1285 (nI nd)) (fun m' => lfr [1289, 1290, 1291] mm m' ∧ ∀ k, k < 12 → m'.2.1 1289 k = wL mm.1 r nd k) := by
  unfold F_MPainter_toLocal
  simp only [sh_1285, zoS_e, hs, zob_e, sh_m0 hr, rf_m22 hR hr, nI_k3, nI_mul]
  refine zok_b (e_toTurn hR (sh_m18 hr) (by omega) (by decide) (fun c hc => ht _ (by omega))) (fun p ⟨hf, hp⟩ => ?_)
  rw [nI_k0, e_tl_16 hr (by omega) 3 0 zfuel p rfl (by decide) (by rw [hf.2.1]; exact hR) (by rw [hf.2.1]; exact hs)]
  simp only [zob_e]
  refine zok_s ⟨lfr_s hf (by decide), fun k hk => ?_⟩
  rw [sL_at, if_pos ⟨by omega, hk⟩, hf.1]
  unfold wL lM
  by_cases h3 : k % 4 = 3
  · rw [if_pos h3, if_pos h3]
  · rw [if_neg h3, if_neg h3, hp k hk]
    rfl
/-- a node, its parent, and on to one that has none -/
def anc (p : Nat → Int32) : Nat → Nat → List Nat
  | 0, i => [i]
  | n + 1, i => if p i < 0 then [i] else i :: anc p n (p i).toNatClampNeg
def parB (p : Nat → Int32) (n : Nat) : Prop := ∀ i, i < n → -1 ≤ (p i).toInt ∧ (p i).toInt < i
theorem par_nI {p : Nat → Int32} {n i : Nat} (h : parB p n) (hi : i < n) (h0 : ¬ p i < 0) : p i = nI (p i).toNatClampNeg ∧ (p i).toNatClampNeg < i := by
  obtain ⟨j, hj, e⟩ := nI_of h0
  have h2 := (h i hi).2
  rw [e, nI_toInt hj] at h2
  rw [e, nI_clamp hj]
  exact ⟨rfl, by omega⟩
theorem anc_fuel {p : Nat → Int32} {n : Nat} (h : parB p n) : ∀ (i : Nat), i < n → ∀ a b, i ≤ a → i ≤ b → anc p a i = anc p b i := by
  intro i
  induction i using Nat.strongRecOn with
  | ind i ih =>
    intro hi a b ha hb
    by_cases h0 : p i < 0
    · cases a <;> cases b <;> simp [anc, h0]
    · obtain ⟨e, hl⟩ := par_nI h hi h0
      obtain ⟨a, rfl⟩ : ∃ q, a = q + 1 := ⟨a - 1, by omega⟩
      obtain ⟨b, rfl⟩ : ∃ q, b = q + 1 := ⟨b - 1, by omega⟩
      simp only [anc, h0, ↓reduceIte]
      rw [ih _ hl (by omega) a b (by omega) (by omega)]
def chn (p : Nat → Int32) (i : Nat) : List Nat := anc p i i
theorem chn_root {p : Nat → Int32} {i : Nat} (h : p i < 0) : chn p i = [i] := by
  unfold chn
  cases i <;> simp [anc, h]
theorem chn_step {p : Nat → Int32} {n i : Nat} (h : parB p n) (hi : i < n) (h0 : ¬ p i < 0) : chn p i = i :: chn p (p i).toNatClampNeg := by
  obtain ⟨e, hl⟩ := par_nI h hi h0
  obtain ⟨q, rfl⟩ : ∃ q, i = q + 1 := ⟨i - 1, by omega⟩
  unfold chn
  rw [show anc p (q + 1) (q + 1) = (q + 1) :: anc p q (p (q + 1)).toNatClampNeg from by simp only [anc, h0, ↓reduceIte], anc_fuel h _ (by omega) q (p (q + 1)).toNatClampNeg (by omega) (by omega)]
theorem chn_len {p : Nat → Int32} {n : Nat} (h : parB p n) : ∀ (i : Nat), i < n → 0 < (chn p i).length ∧ (chn p i).length ≤ i + 1 ∧ ∀ q, q < (chn p i).length → (chn p i).getD q 0 < n := by
  intro i
  induction i using Nat.strongRecOn with
  | ind i ih =>
    intro hi
    by_cases h0 : p i < 0
    · rw [chn_root h0]
      refine ⟨by simp, by simp, fun q hq => ?_⟩
      simp at hq
      subst hq
      simpa using hi
    · obtain ⟨e, hl⟩ := par_nI h hi h0
      obtain ⟨a1, a2, a3⟩ := ih _ hl (by omega)
      rw [chn_step h hi h0]
      refine ⟨by simp, by simp; omega, fun q hq => ?_⟩
      cases q with
      | zero => simpa using hi
      | succ q =>
        simp at hq
        simpa using a3 q hq
/-- the matrices of a chain, from its end on -/
def wch (f : Nat → Nat → Int32) (r : Nat) : List Nat → Nat → Int64
  | [] => fun _ => 0
  | x :: t => match t with
    | [] => wL f r x
    | _ :: _ => pM (wch f r t) (wL f r x) (fun _ => 0)
/-- a node's place in the world -/
def wW (f : Nat → Nat → Int32) (r i : Nat) : Nat → Int64 := wch f r (chn (f (r + 15)) i)
theorem wW_root {f : Nat → Nat → Int32} {r i : Nat} (h : f (r + 15) i < 0) : wW f r i = wL f r i := by
  unfold wW
  rw [chn_root h]
  rfl
theorem wW_step {f : Nat → Nat → Int32} {r n i : Nat} (h : parB (f (r + 15)) n) (hi : i < n) (h0 : ¬ f (r + 15) i < 0) : wW f r i = pM (wW f r (f (r + 15) i).toNatClampNeg) (wL f r i) (fun _ => 0) := by
  obtain ⟨e, hl⟩ := par_nI h hi h0
  have hn := (chn_len h _ (show (f (r + 15) i).toNatClampNeg < n by omega)).1
  unfold wW
  rw [chn_step h hi h0]
  cases hc : chn (f (r + 15)) (f (r + 15) i).toNatClampNeg with
  | nil => rw [hc] at hn; simp at hn
  | cons y t => rfl
theorem e_tw_4 {W H r n : Nat} (hr : gM r) (hn : n ≤ 48) : ∀ (i c fuel : Nat) (mm : zMem), i < n → c + i < 48 → i + 1 < fuel → RF mm.2.2 → mm.2.2 1285 5 = some r → parB (mm.1 (r + 15)) n → zok (L_MPainter_toWorld_4 (sh0 W H) fuel 1285 (nI c) (nI i) mm) (fun q => q.1 = 1285 ∧ q.2.1 = nI (c + (chn (mm.1 (r + 15)) i).length) ∧ q.2.2.2 = sI mm 1292 (fun k => if c ≤ k ∧ k < c + (chn (mm.1 (r + 15)) i).length then nI ((chn (mm.1 (r + 15)) i).getD (k - c) 0) else mm.1 1292 k)) := by
  intro i
  induction i using Nat.strongRecOn with
  | ind i ih =>
    intro c fuel mm hi hc hf hR hs hp
    obtain ⟨fu, rfl⟩ : ∃ fu, fuel = fu + 1 := ⟨fuel - 1, by omega⟩
    have ne : r + 15 ≠ 1292 := by rcases hr with rfl | rfl | rfl <;> decide
    have hlt : ¬ nI i < 0 := nI_pos (by omega)
    simp only [L_MPainter_toWorld_4]
    rw [if_neg hlt]
    have hs' : ∀ k j v, (mI mm k j v).2.2 = mm.2.2 := fun _ _ _ => rfl
    simp (disch := first | assumption | omega) only [nI_k1, nI_add, ↓zoS_h sh_1285, sh_1285, ↓zoS_h sh_1292, sh_1292, ↓zoS_h (sh_m0 hr), sh_m0 hr, ↓zoS_h (sh_m15 hr), sh_m15 hr, ↓zob_h (rf_1285_20 hR), rf_1285_20 hR, ↓zob_h (rf_m19 hR hr), rf_m19 hR hr, ↓zob_h hs, hs, hs', ↓zoL_e, ↓zob_e, ↓reduceIte, zoS_e, zob_e, nI_lt0, nI_lt00, nI_cl, nle_f, or_self, or_false, false_or]
    rw [mI_sI]
    simp only [sI_ne ne]
    by_cases h0 : mm.1 (r + 15) i < 0
    · obtain ⟨fu, rfl⟩ : ∃ q, fu = q + 1 := ⟨fu - 1, by omega⟩
      simp only [L_MPainter_toWorld_4]
      rw [if_pos h0, chn_root h0]
      refine zok_s ⟨rfl, rfl, sI_to (fun k => ?_)⟩
      simp only [upd]
      by_cases hk : k = c
      · subst hk
        rw [if_pos rfl, if_pos (by simp)]
        simp
      · rw [if_neg hk, if_neg (by simp; omega)]
    · obtain ⟨e, hl⟩ := par_nI hp hi h0
      rw [e]
      refine zok_w (ih _ hl (c + 1) fu (sI mm 1292 (upd (mm.1 1292) c (nI i))) (by omega) (by omega) (by omega) hR hs (by rw [sI_ne ne]; exact hp)) (fun q hq => ?_)
      rw [sI_ne ne] at hq
      obtain ⟨q1, q2, q3⟩ := hq
      rw [chn_step hp hi h0]
      refine ⟨q1, by rw [q2, List.length_cons]; congr 1; omega, ?_⟩
      rw [q3, sI_sI]
      refine sI_to (fun k => ?_)
      simp only [sI_at, upd, List.length_cons]
      by_cases hk : c + 1 ≤ k ∧ k < c + 1 + (chn (mm.1 (r + 15)) (mm.1 (r + 15) i).toNatClampNeg).length
      · rw [if_pos hk, if_pos (by omega), show k - c = (k - (c + 1)) + 1 by omega]
        rfl
      · rw [if_neg hk]
        by_cases hk2 : k = c
        · subst hk2
          rw [if_pos rfl, if_pos (by omega)]
          simp
        · rw [if_neg hk2, if_neg (by omega)]
theorem e_tw_45 {W H : Nat} {x : Int32} : ∀ (d i fuel : Nat) (mm : zMem), i + d = 12 → d < fuel → RF mm.2.2 → L_MPainter_toWorld_45 (sh0 W H) fuel 1285 x (nI i) mm = some (1285, x, nI 12, sL mm 1286 (fun k => if i ≤ k ∧ k < 12 then mm.2.1 1289 k else mm.2.1 1286 k)) := by
  intro d
  induction d with
  | zero =>
    intro i fuel mm hj hf hR
    obtain ⟨fu, rfl⟩ : ∃ fu, fuel = fu + 1 := ⟨fuel - 1, by omega⟩
    obtain rfl : i = 12 := by omega
    simp only [L_MPainter_toWorld_45]
    rw [if_pos (by decide)]
    refine congrArg (fun z => some (1285, x, nI 12, z)) ?_
    rw [sL_to (h := mm.2.1 1286) (fun k => if_neg (by omega)), sL_id]
  | succ d ih =>
    intro i fuel mm hj hf hR
    obtain ⟨fu, rfl⟩ : ∃ fu, fuel = fu + 1 := ⟨fuel - 1, by omega⟩
    have hi3 : ¬ 12 ≤ i := by omega
    simp (disch := first | assumption | omega) only [L_MPainter_toWorld_45, nI_k1, nI_k12, nI_add, nI_leD, hi3, ↓zoS_h sh_1285, sh_1285, ↓zoS_h sh_1286, sh_1286, ↓zoS_h sh_1289, sh_1289, ↓zob_h (rf_1285_14 hR), rf_1285_14 hR, ↓zob_h (rf_1285_17 hR), rf_1285_17 hR, ↓zoL_e, ↓zob_e, ↓reduceIte, zoS_e, zob_e, nI_lt0, nI_lt00, nI_cl, nle_f, or_self, or_false, false_or]
    rw [mL_sL, ih (i + 1) fu _ (by omega) (by omega) (show RF (sL mm 1286 _).2.2 from hR)]
    refine congrArg (fun z => some (1285, x, nI 12, z)) ?_
    rw [sL_sL]
    refine sL_to (fun k => ?_)
    simp only [sL_at, sL_ne (show 1289 ≠ 1286 by decide), vp_updL]
    by_cases hk : i + 1 ≤ k ∧ k < 12
    · rw [if_pos hk, if_pos (by omega)]
    · rw [if_neg hk]
      by_cases hk2 : k = i
      · subst hk2
        rw [if_pos rfl, if_pos (by omega)]
      · rw [if_neg hk2, if_neg (by omega)]
theorem wch_cons {f : Nat → Nat → Int32} {r x : Nat} {t : List Nat} (ht : 0 < t.length) : wch f r (x :: t) = pM (wch f r t) (wL f r x) (fun _ => 0) := by
  cases t with
  | nil => simp at ht
  | cons y t => rfl
/-- down the chain -/
theorem e_tw_73 {W H r n : Nat} (hr : gM r) (hn : n ≤ 48) {l : List Nat} (hl : l.length ≤ 48) (hln : ∀ q, q < l.length → l.getD q 0 < n) : ∀ (d fuel : Nat) (mm : zMem), d < l.length → d < fuel → RF mm.2.2 → mm.2.2 1285 5 = some r → trnB mm.1 r n → (∀ q, q < l.length → mm.1 1292 q = nI (l.getD q 0)) → (∀ k, k < 12 → mm.2.1 1286 k = wch mm.1 r (l.drop d) k) → zok (L_MPainter_toWorld_73 (sh0 W H) fuel 1285 (nI d - 1) mm) (fun q => q.1 = 1285 ∧ lfr [1286, 1289, 1290, 1291] mm q.2.2 ∧ ∀ k, k < 12 → q.2.2.2.1 1286 k = wch mm.1 r l k) := by
  intro d
  induction d with
  | zero =>
    intro fuel mm hd hf hR hs ht hc hw
    obtain ⟨fu, rfl⟩ : ∃ fu, fuel = fu + 1 := ⟨fuel - 1, by omega⟩
    simp only [L_MPainter_toWorld_73]
    rw [if_pos (by decide)]
    exact zok_s ⟨rfl, lfr_r, hw⟩
  | succ d ih =>
    intro fuel mm hd hf hR hs ht hc hw
    obtain ⟨fu, rfl⟩ : ∃ fu, fuel = fu + 1 := ⟨fuel - 1, by omega⟩
    simp only [L_MPainter_toWorld_73]
    rw [nI_pred, if_neg (nI_pos (by omega))]
    simp (disch := first | assumption | omega) only [↓zoS_h sh_1285, sh_1285, ↓zoS_h sh_1292, sh_1292, ↓zob_h (rf_1285_20 hR), rf_1285_20 hR, hc d (by omega), ↓zoL_e, ↓zob_e, ↓reduceIte, zoS_e, zob_e, nI_lt0, nI_lt00, nI_cl, nle_f, or_self, or_false, false_or]
    refine zok_b (e_toLocal hR hs hr (hln d (by omega)) hn ht) (fun p ⟨hf1, hp⟩ => ?_)
    have hR1 : RF p.2.2 := by rw [hf1.2.1]; exact hR
    simp only [zoS_e, sh_1285, rf_1285_14 hR1, rf_1285_17 hR1, zob_e]
    rw [e_times sh_1285 sh_1286 sh_1289 sh_1291 (by decide) (by decide) (rf_1285_19 hR1)]
    simp only [zob_e]
    have e1 : nI d + (-1) = nI d - 1 := by rw [Int32.sub_eq_add_neg]
    rw [e1]
    have hf2 : lfr [1286, 1289, 1290, 1291] mm (sL (sL p 1291 (pM (p.2.1 1286) (p.2.1 1289) (p.2.1 1291))) 1286 (pM (p.2.1 1286) (p.2.1 1289) (p.2.1 1286))) := lfr_s (lfr_s (lfr_w hf1 (by decide)) (by decide)) (by decide)
    refine zok_w (ih fu _ (by omega) (by omega) (by rw [hf2.2.1]; exact hR) (by rw [hf2.2.1]; exact hs) (by rw [hf2.1]; exact ht) (by rw [hf2.1]; exact hc) (fun k hk => ?_)) (fun q hq => ?_)
    · rw [hf2.1, sL_at]
      have ed : l.drop d = l.getD d 0 :: l.drop (d + 1) := by
        rw [getD_in (by omega)]
        exact List.drop_eq_getElem_cons (by omega)
      rw [ed, wch_cons (by simp; omega)]
      exact pM_c (fun k hk => by rw [hf1.2.2 1286 (by decide), hw k hk]) hp hk
    · obtain ⟨q1, q2, q3⟩ := hq
      rw [hf2.1] at q3
      exact ⟨q1, lfr_t hf2 q2, q3⟩
/-- of the painter's own arrays only those may have changed: world, part, turned, made, and the chain -/
def wfr (m m' : zMem) : Prop := (∀ k, k ≠ 1292 → m'.1 k = m.1 k) ∧ m'.2.2 = m.2.2 ∧ ∀ k, k ∉ [1286, 1289, 1290, 1291] → m'.2.1 k = m.2.1 k
theorem wL_c {f g : Nat → Nat → Int32} {r i : Nat} (h1 : f (r + 17) = g (r + 17)) (h2 : f (r + 18) = g (r + 18)) (h3 : f (r + 19) = g (r + 19)) : wL f r i = wL g r i := by
  unfold wL
  rw [h1, h2, h3]
theorem wch_c {f g : Nat → Nat → Int32} {r : Nat} (h1 : f (r + 17) = g (r + 17)) (h2 : f (r + 18) = g (r + 18)) (h3 : f (r + 19) = g (r + 19)) : ∀ l : List Nat, wch f r l = wch g r l := by
  intro l
  induction l with
  | nil => rfl
  | cons x t ih =>
    cases t with
    | nil => exact wL_c h1 h2 h3
    | cons y t => rw [wch_cons (t := y :: t) (Nat.succ_pos _), wch_cons (t := y :: t) (Nat.succ_pos _), ih, wL_c h1 h2 h3]
theorem e_toWorld {W H : Nat} {mm : zMem} {r nd n : Nat} (hR : RF mm.2.2) (hs : mm.2.2 1285 5 = some r) (hr : gM r) (hn : nd < n) (hn2 : n ≤ 48) (ht : trnB mm.1 r n) (hp : parB (mm.1 (r + 15)) n) : zok (F_MPainter_toWorld (sh0 W H) mm 1285 (nI nd)) (fun m' => wfr mm m' ∧ ∀ k, k < 12 → m'.2.1 1286 k = wW mm.1 r nd k) := by
  unfold F_MPainter_toWorld
  rw [nI_k0]
  refine zok_b (e_tw_4 hr hn2 nd 0 zfuel mm hn (by omega) (zf_lt (by omega)) hR hs hp) (fun q hq => ?_)
  obtain ⟨q1, q2, q3⟩ := hq
  obtain ⟨l1, l2, l3⟩ := chn_len hp nd hn
  have ne : ∀ j, j < 30 → r + j ≠ 1292 := by
    intro j hj
    rcases hr with rfl | rfl | rfl <;> omega
  generalize hl : chn (mm.1 (r + 15)) nd = l at *
  obtain ⟨c, hc⟩ : ∃ c, l.length = c + 1 := ⟨l.length - 1, by omega⟩
  obtain ⟨z1, z2, z3, m1⟩ := q
  simp only at q1 q2 q3
  subst q1
  rw [Nat.zero_add, hc] at q2
  subst q2
  have g1 : m1.2.2 = mm.2.2 := by rw [q3]; rfl
  have g2 : m1.2.1 = mm.2.1 := by rw [q3]; rfl
  have g3 : ∀ k, k ≠ 1292 → m1.1 k = mm.1 k := fun k hk => by rw [q3, sI_ne hk]
  have g4 : ∀ q, q < l.length → m1.1 1292 q = nI (l.getD q 0) := fun q hq => by
    rw [q3, sI_at, if_pos (by omega)]
    rfl
  clear q3
  have hR1 : RF m1.2.2 := by rw [g1]; exact hR
  have hs1 : m1.2.2 1285 5 = some r := by rw [g1]; exact hs
  have ht1 : trnB m1.1 r n := by
    unfold trnB
    rw [g3 _ (ne 18 (by decide))]
    exact ht
  have e1 : nI (c + 1) - 1 = nI c := nI_pred c
  have e2 : nI (c + 1) - 2 = nI c - 1 := by
    rw [← e1, Int32.sub_sub]
    rfl
  simp (disch := first | assumption | omega) only [↓zoS_h sh_1285, sh_1285, ↓zoS_h sh_1292, sh_1292, ↓zob_h (rf_1285_20 hR1), rf_1285_20 hR1, e1, e2, g4 c (by omega), ↓zoL_e, ↓zob_e, ↓reduceIte, zoS_e, zob_e, nI_lt0, nI_lt00, nI_cl, nle_f, or_self, or_false, false_or]
  refine zok_b (e_toLocal hR1 hs1 hr (l3 c (by omega)) hn2 ht1) (fun p ⟨hf1, hpp⟩ => ?_)
  rw [e_tw_45 12 0 zfuel p rfl (by decide) (by rw [hf1.2.1]; exact hR1)]
  simp only [zob_e, e2]
  have hf2 : lfr [1286, 1289, 1290, 1291] m1 (sL p 1286 (fun k => if 0 ≤ k ∧ k < 12 then p.2.1 1289 k else p.2.1 1286 k)) := lfr_s (lfr_w hf1 (by decide)) (by decide)
  refine zok_b (e_tw_73 hr hn2 (l := l) (by omega) l3 c zfuel _ (by omega) (zf_lt (by omega)) (by rw [hf2.2.1]; exact hR1) (by rw [hf2.2.1]; exact hs1) (by rw [hf2.1]; exact ht1) (by rw [hf2.1]; exact g4) (fun k hk => ?_)) (fun q hq => ?_)
  · rw [sL_at, if_pos ⟨by omega, hk⟩, hpp k hk, hf2.1]
    have ed : l.drop c = [l.getD c 0] := by
      rw [getD_in (by omega), List.drop_eq_getElem_cons (by omega), List.drop_of_length_le (by omega)]
    rw [ed]
    rfl
  · obtain ⟨q1, q2, q3⟩ := hq
    refine zok_s ⟨⟨fun k hk => ?_, ?_, fun k hk => ?_⟩, fun k hk => ?_⟩
    · rw [q2.1, hf2.1, g3 k hk]
    · rw [q2.2.1, hf2.2.1, g1]
    · rw [q2.2.2 k hk, hf2.2.2 k hk, g2]
    · rw [q3 k hk, hf2.1]
      unfold wW
      rw [hl]
      exact congrFun (wch_c (g3 _ (ne 17 (by decide))) (g3 _ (ne 18 (by decide))) (g3 _ (ne 19 (by decide))) l) k
