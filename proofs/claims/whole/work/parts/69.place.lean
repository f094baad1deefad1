/-! PURE: a node's place in the world, the class's way -/
/-- the class's nodes are the reference's -/
def Rnd (f : Nat → Nat → Int32) (s r n : Nat) : Prop := ∀ i, i < n → f (ndA s i) 0 = f (r + 15) i ∧ f (ndA s i) 1 = f (r + 16) i ∧ f (ndA s i) 2 = f (r + 20) i ∧ ∀ c, c < 3 → f (ndA s i + 1) c = f (r + 17) (3 * i + c) ∧ f (ndA s i + 1) (3 + c) = f (r + 18) (3 * i + c) ∧ f (ndA s i + 1) (6 + c) = f (r + 19) (3 * i + c)
/-- a node that no one hides -/
def shn (f : Nat → Nat → Int32) (r i : Nat) : Bool := (chn (f (r + 15)) i).all (fun x => f (r + 20) x = 0)
theorem shn_root {f : Nat → Nat → Int32} {r i : Nat} (h : f (r + 15) i < 0) : shn f r i = decide (f (r + 20) i = 0) := by
  unfold shn
  rw [chn_root h]
  simp
theorem shn_step {f : Nat → Nat → Int32} {r n i : Nat} (h : parB (f (r + 15)) n) (hi : i < n) (h0 : ¬ f (r + 15) i < 0) : shn f r i = (decide (f (r + 20) i = 0) && shn f r (f (r + 15) i).toNatClampNeg) := by
  unfold shn
  rw [chn_step h hi h0]
  simp
def b32 (b : Bool) : Int32 := if b then 1 else 0
/-- node i of the class's scene is placed -/
def Plc1 (f : Nat → Nat → Int32) (s r i : Nat) : Prop := f (ndA s i) 3 = b32 (shn f r i) ∧ ∀ k, k < 12 → f (ndA s i + 2) k = (wW f r i k).toInt32
def Plc (f : Nat → Nat → Int32) (s r n : Nat) : Prop := ∀ i, i < n → Plc1 f s r i
theorem lM_rng (mv tn sz : Nat → Int32) (k : Nat) : sml 2147483648 (lM mv tn sz k) := by
  unfold lM
  split
  · unfold sml
    rw [Int32.toInt_toInt64]
    have h1 : -2147483648 ≤ (mv (k / 4)).toInt := (mv (k / 4)).le_toInt
    have h2 : (mv (k / 4)).toInt < 2147483648 := (mv (k / 4)).toInt_lt
    omega
  · have := bound_rng (sp_MPainter_mul (tR (tn 0) (tn 1) (tn 2) k) (sz (k % 4)).toInt64)
    unfold sml
    omega
theorem lM_rt (mv tn sz : Nat → Int32) (k : Nat) : (lM mv tn sz k).toInt32.toInt64 = lM mv tn sz k := by
  unfold lM
  split
  · rw [i32_rt]
  · have := bound_rng (sp_MPainter_mul (tR (tn 0) (tn 1) (tn 2) k) (sz (k % 4)).toInt64)
    exact i64_rt (by omega) (by omega)
theorem pM_rt {a b : Nat → Int64} {k : Nat} (hk : k < 12) {o : Nat → Int64} : (pM a b o k).toInt32.toInt64 = pM a b o k := by
  unfold pM
  rw [if_pos hk]
  unfold pT
  have := bound_rng (((sp_MPainter_mul (a (4 * (k / 4))) (b (k % 4)) + sp_MPainter_mul (a (4 * (k / 4) + 1)) (b (4 + k % 4))) + sp_MPainter_mul (a (4 * (k / 4) + 2)) (b (8 + k % 4))) + (if k % 4 = 3 then a (4 * (k / 4) + 3) else 0))
  exact i64_rt (by omega) (by omega)
theorem wW_rt {f : Nat → Nat → Int32} {r n i k : Nat} (h : parB (f (r + 15)) n) (hi : i < n) (hk : k < 12) : (wW f r i k).toInt32.toInt64 = wW f r i k := by
  by_cases h0 : f (r + 15) i < 0
  · rw [wW_root h0]
    exact lM_rt _ _ _ _
  · rw [wW_step h hi h0]
    exact pM_rt hk
theorem lM_c {mv tn sz mv' tn' sz' : Nat → Int32} (h1 : ∀ c, c < 3 → mv c = mv' c) (h2 : ∀ c, c < 3 → tn c = tn' c) (h3 : ∀ c, c < 3 → sz c = sz' c) {k : Nat} (hk : k < 12) : lM mv tn sz k = lM mv' tn' sz' k := by
  unfold lM
  rw [h2 0 (by decide), h2 1 (by decide), h2 2 (by decide)]
  by_cases h : k % 4 = 3
  · rw [if_pos h, if_pos h, h1 _ (by omega)]
  · rw [if_neg h, if_neg h, h3 _ (by omega)]
/-- what placing may change: local, the placings, and whether a node is shown -/
def plS (s k c : Nat) : Prop := k = s + 25 ∨ (∃ j, j < 48 ∧ k = ndA s j + 2) ∨ (c = 3 ∧ ∃ j, j < 48 ∧ k = ndA s j)
def plf (s : Nat) (m m' : zMem) : Prop := m'.2 = m.2 ∧ ∀ k c, ¬ plS s k c → m'.1 k c = m.1 k c
theorem plf_r {s : Nat} {m : zMem} : plf s m m := ⟨rfl, fun _ _ _ => rfl⟩
theorem plf_t {s : Nat} {m m' m'' : zMem} (h : plf s m m') (k : plf s m' m'') : plf s m m'' := ⟨k.1.trans h.1, fun a c ha => (k.2 a c ha).trans (h.2 a c ha)⟩
theorem plf_l {s : Nat} {m m' : zMem} {g : Nat → Int32} (h : plf s m m') : plf s m (sI m' (s + 25) g) := ⟨h.1, fun k c hk => by
  rw [sI_ne (fun e => hk (Or.inl e))]
  exact h.2 k c hk⟩
theorem plf_p {s i : Nat} {m m' : zMem} {g : Nat → Int32} (hi : i < 48) (h : plf s m m') : plf s m (sI m' (ndA s i + 2) g) := ⟨h.1, fun k c hk => by
  rw [sI_ne (fun e => hk (Or.inr (Or.inl ⟨i, hi, e⟩)))]
  exact h.2 k c hk⟩
theorem plf_h {s i : Nat} {m m' : zMem} {v : Int32} (hi : i < 48) (h : plf s m m') : plf s m (sI m' (ndA s i) (upd (m'.1 (ndA s i)) 3 v)) := ⟨h.1, fun k c hk => by
  by_cases e : k = ndA s i
  · subst e
    rw [sI_at]
    unfold upd
    rw [if_neg (fun e => hk (Or.inr (Or.inr ⟨e, i, hi, rfl⟩)))]
    exact h.2 _ c hk
  · rw [sI_ne e]
    exact h.2 k c hk⟩
theorem plS_no {s k c : Nat} (hs : gS s) (h : 1121 ≤ k ∨ k < 11) : ¬ plS s k c := by
  unfold plS ndA
  rcases hs with rfl | rfl | rfl <;> omega
theorem plS_nd {s i c : Nat} (hs : gS s) (hi : i < 48) (hc : c ≠ 3) : ¬ plS s (ndA s i) c := by
  unfold plS ndA
  omega
theorem plS_nn {s i c : Nat} (hi : i < 48) : ¬ plS s (ndA s i + 1) c := by
  unfold plS ndA
  omega
theorem plS_1 {s c : Nat} : ¬ plS s (s + 1) c := by
  unfold plS ndA
  omega
theorem plS_0 {s c : Nat} : ¬ plS s s c := by
  unfold plS ndA
  omega
theorem ml_plf {s r : Nat} {m m' : zMem} (hs : gS s) (hr : gM r) (h : plf s m m') {q : Nat} (hq : q < 30) : m'.1 (r + q) = m.1 (r + q) := by
  funext c
  exact h.2 _ _ (plS_no hs (by rcases hr with rfl | rfl | rfl <;> omega))
theorem chn_c {f g : Nat → Nat → Int32} {r : Nat} (h : f (r + 15) = g (r + 15)) (i : Nat) : chn (f (r + 15)) i = chn (g (r + 15)) i := by rw [h]
theorem wW_c {f g : Nat → Nat → Int32} {r : Nat} (h : ∀ q, q < 30 → f (r + q) = g (r + q)) (i : Nat) : wW f r i = wW g r i := by
  unfold wW
  rw [h 15 (by decide)]
  exact wch_c (h 17 (by decide)) (h 18 (by decide)) (h 19 (by decide)) _
theorem shn_c {f g : Nat → Nat → Int32} {r : Nat} (h : ∀ q, q < 30 → f (r + q) = g (r + q)) (i : Nat) : shn f r i = shn g r i := by
  unfold shn
  rw [h 15 (by decide), h 20 (by decide)]
theorem Rnd_plf {s r n : Nat} {m m' : zMem} (hs : gS s) (hr : gM r) (hn : n ≤ 48) (h : plf s m m') (k : Rnd m.1 s r n) : Rnd m'.1 s r n := by
  intro i hi
  obtain ⟨a1, a2, a3, a4⟩ := k i hi
  have e := fun q hq => ml_plf hs hr h (q := q) hq
  refine ⟨?_, ?_, ?_, fun c hc => ?_⟩
  · rw [h.2 _ _ (plS_nd hs (by omega) (by decide)), a1, e 15 (by decide)]
  · rw [h.2 _ _ (plS_nd hs (by omega) (by decide)), a2, e 16 (by decide)]
  · rw [h.2 _ _ (plS_nd hs (by omega) (by decide)), a3, e 20 (by decide)]
  · obtain ⟨b1, b2, b3⟩ := a4 c hc
    rw [h.2 _ _ (plS_nn (by omega)), h.2 _ _ (plS_nn (by omega)), h.2 _ _ (plS_nn (by omega)), b1, b2, b3, e 17 (by decide), e 18 (by decide), e 19 (by decide)]
    exact ⟨rfl, rfl, rfl⟩
theorem ndA_ne {s i j : Nat} (h : j ≠ i) : ndA s j ≠ ndA s i := by unfold ndA; omega
theorem ndA_ne1 {s i j : Nat} : ndA s j ≠ ndA s i + 1 := by unfold ndA; omega
theorem ndA_ne2 {s i j : Nat} : ndA s j ≠ ndA s i + 2 := by unfold ndA; omega
theorem ndA_ne12 {s i j : Nat} : ndA s j + 1 ≠ ndA s i + 2 := by unfold ndA; omega
theorem ndA_ne22 {s i j : Nat} (h : j ≠ i) : ndA s j + 2 ≠ ndA s i + 2 := by unfold ndA; omega
theorem ndA_l {s i : Nat} : ndA s i ≠ s + 25 := by unfold ndA; omega
theorem ndA_l1 {s i : Nat} : ndA s i + 1 ≠ s + 25 := by unfold ndA; omega
theorem ndA_l2 {s i : Nat} : ndA s i + 2 ≠ s + 25 := by unfold ndA; omega
set_option maxHeartbeats 4000000 in
theorem e_pn_2 {W H s r n : Nat} (hs : gS s) (hr : gM r) (hn : n ≤ 48) : ∀ (d i fuel : Nat) (mm : zMem), i + d = n → d < fuel → RF mm.2.2 → mm.1 (s + 1) 3 = nI n → mm.1 s 9 = 0 → Rnd mm.1 s r n → parB (mm.1 (r + 15)) n → (∀ j, j < i → Plc1 mm.1 s r j) → zok (L_XScene_placeNodes_2 (sh0 W H) fuel s (nI i) mm) (fun q => q.1 = s ∧ plf s mm q.2.2 ∧ ∀ j, j < n → Plc1 q.2.2.1 s r j) := by
  intro d
  induction d with
  | zero =>
    intro i fuel mm hi hf hR hc hp9 hnd hpar hpl
    obtain ⟨fu, rfl⟩ : ∃ fu, fuel = fu + 1 := ⟨fuel - 1, by omega⟩
    obtain rfl : i = n := by omega
    simp (disch := first | assumption | omega) only [L_XScene_placeNodes_2, ↓zoS_h (sh_s0 hs), sh_s0 hs, ↓zoS_h (sh_s1 hs), sh_s1 hs, ↓zob_h (rf_s0 hR hs), rf_s0 hR hs, nI_k3, hc, Int32.le_refl, ↓zoL_e, ↓zob_e, ↓reduceIte, zoS_e, zob_e, nI_lt0, nI_lt00, nI_cl, nle_f, or_self, or_false, false_or]
    exact zok_s ⟨rfl, plf_r, hpl⟩
  | succ d ih =>
    intro i fuel mm hi hf hR hc hp9 hnd hpar hpl
    obtain ⟨fu, rfl⟩ : ∃ fu, fuel = fu + 1 := ⟨fuel - 1, by omega⟩
    have hin : i < n := by omega
    have hi48 : i < 48 := by omega
    obtain ⟨n1, n2, n3, n4⟩ := hnd i hin
    have hloc : ∀ M : zMem, plf s mm M → ∀ k, k < 12 → lM (M.1 (ndA s i + 1)) (fun j => M.1 (ndA s i + 1) (3 + j)) (fun j => M.1 (ndA s i + 1) (6 + j)) k = wL mm.1 r i k := by
      intro M hM k hk
      unfold wL
      refine lM_c (fun c hc => ?_) (fun c hc => ?_) (fun c hc => ?_) hk
      · rw [hM.2 _ _ (plS_nn hi48)]
        exact (n4 c hc).1
      · rw [hM.2 _ _ (plS_nn hi48)]
        exact (n4 c hc).2.1
      · rw [hM.2 _ _ (plS_nn hi48)]
        exact (n4 c hc).2.2
    have step : ∀ M : zMem, plf s mm M → Plc1 M.1 s r i → (∀ j, j ≠ i → M.1 (ndA s j) = mm.1 (ndA s j) ∧ M.1 (ndA s j + 2) = mm.1 (ndA s j + 2)) → zok (L_XScene_placeNodes_2 (sh0 W H) fu s (nI (i + 1)) M) (fun q => q.1 = s ∧ plf s mm q.2.2 ∧ ∀ j, j < n → Plc1 q.2.2.1 s r j) := by
      intro M hM h1 h2
      have em := fun q (hq : q < 30) => ml_plf hs hr hM hq
      refine zok_w (ih (i + 1) fu M (by omega) (by omega) (by rw [hM.1]; exact hR) (by rw [hM.2 _ _ plS_1]; exact hc) (by rw [hM.2 _ _ plS_0]; exact hp9) (Rnd_plf hs hr hn hM hnd) (by rw [em 15 (by decide)]; exact hpar) (fun j hj => ?_)) (fun q hq => ⟨hq.1, plf_t hM hq.2.1, hq.2.2⟩)
      by_cases e : j = i
      · rw [e]
        exact h1
      · obtain ⟨a1, a2⟩ := hpl j (by omega)
        refine ⟨?_, fun k hk => ?_⟩
        · rw [(h2 j e).1, a1, shn_c em]
        · rw [(h2 j e).2, a2 k hk, wW_c em]
    have ex : ∀ M : zMem, plf s mm M → ∀ j, wW M.1 r j = wW mm.1 r j := fun M hM j => wW_c (fun q hq => ml_plf hs hr hM hq) j
    have es : ∀ M : zMem, plf s mm M → ∀ j, shn M.1 r j = shn mm.1 r j := fun M hM j => shn_c (fun q hq => ml_plf hs hr hM hq) j
    have pl1 : ∀ M : zMem, M.2.2 = mm.2.2 → F_XNode_placeLocal (sh0 W H) M (ndA s i) (ndA s i + 2) = some (sI M (ndA s i + 2) (fun k => if k < 12 then (lM (M.1 (ndA s i + 1)) (fun j => M.1 (ndA s i + 1) (3 + j)) (fun j => M.1 (ndA s i + 1) (6 + j)) k).toInt32 else M.1 (ndA s i + 2) k)) := fun M hM => e_placeLocal (sh_ndA hs hi48) (sh_ndA2 hs hi48) (sh_ndA1 hs hi48) (by omega) (by rw [hM]; exact rf_ndA4 hR hs hi48)
    have pl2 : ∀ M : zMem, M.2.2 = mm.2.2 → F_XNode_placeLocal (sh0 W H) M (ndA s i) (s + 25) = some (sI M (s + 25) (fun k => if k < 12 then (lM (M.1 (ndA s i + 1)) (fun j => M.1 (ndA s i + 1) (3 + j)) (fun j => M.1 (ndA s i + 1) (6 + j)) k).toInt32 else M.1 (s + 25) k)) := fun M hM => e_placeLocal (sh_ndA hs hi48) (sh_s25 hs) (sh_ndA1 hs hi48) ndA_l1 (by rw [hM]; exact rf_ndA4 hR hs hi48)
    have hq3 : ∀ v, (mI mm (ndA s i) 3 v).1 (ndA s i) 0 = mm.1 (ndA s i) 0 := fun v => by
      rw [mI_sI, sI_at]
      rfl
    have fin1 : ∀ v, v = b32 (shn mm.1 r i) → mm.1 (r + 15) i < 0 → zok (L_XScene_placeNodes_2 (sh0 W H) fu s (nI (i + 1)) (sI (mI mm (ndA s i) 3 v) (ndA s i + 2) (fun k => if k < 12 then (lM ((mI mm (ndA s i) 3 v).1 (ndA s i + 1)) (fun j => (mI mm (ndA s i) 3 v).1 (ndA s i + 1) (3 + j)) (fun j => (mI mm (ndA s i) 3 v).1 (ndA s i + 1) (6 + j)) k).toInt32 else (mI mm (ndA s i) 3 v).1 (ndA s i + 2) k))) (fun q => q.1 = s ∧ plf s mm q.2.2 ∧ ∀ j, j < n → Plc1 q.2.2.1 s r j) := by
      intro v hv h0
      rw [mI_sI]
      have hM0 : plf s mm (sI mm (ndA s i) (upd (mm.1 (ndA s i)) 3 v)) := plf_h hi48 plf_r
      refine step _ (plf_p hi48 hM0) ⟨?_, fun k hk => ?_⟩ (fun j hj => ⟨?_, ?_⟩)
      · rw [es _ (plf_p hi48 hM0), sI_ne ndA_ne2, sI_at]
        exact hv
      · rw [ex _ (plf_p hi48 hM0), sI_at, if_pos hk, hloc _ hM0 k hk, wW_root h0]
      · rw [sI_ne ndA_ne2, sI_ne (ndA_ne hj)]
      · rw [sI_ne (ndA_ne22 hj), sI_ne (Ne.symm ndA_ne2)]
    have fin2 : ∀ v, v = b32 (shn mm.1 r i) → ¬ mm.1 (r + 15) i < 0 → ∀ P1 : zMem, P1 = sI (mI mm (ndA s i) 3 v) (s + 25) (fun k => if k < 12 then (lM ((mI mm (ndA s i) 3 v).1 (ndA s i + 1)) (fun j => (mI mm (ndA s i) 3 v).1 (ndA s i + 1) (3 + j)) (fun j => (mI mm (ndA s i) 3 v).1 (ndA s i + 1) (6 + j)) k).toInt32 else (mI mm (ndA s i) 3 v).1 (s + 25) k) → zok (L_XScene_placeNodes_2 (sh0 W H) fu s (nI (i + 1)) (sI P1 (ndA s i + 2) (fun k => if k < 12 then (pT (m64 (P1.1 (ndA s (mm.1 (r + 15) i).toNatClampNeg + 2))) (m64 (P1.1 (s + 25))) (k / 4) (k % 4)).toInt32 else P1.1 (ndA s i + 2) k))) (fun q => q.1 = s ∧ plf s mm q.2.2 ∧ ∀ j, j < n → Plc1 q.2.2.1 s r j) := by
      intro v hv h0 P1 hP1
      obtain ⟨e, hl⟩ := par_nI hpar hin h0
      rw [mI_sI] at hP1
      have hM0 : plf s mm (sI mm (ndA s i) (upd (mm.1 (ndA s i)) 3 v)) := plf_h hi48 plf_r
      have hM1 : plf s mm P1 := by
        rw [hP1]
        exact plf_l hM0
      have g1 : ∀ j, P1.1 (ndA s j + 2) = mm.1 (ndA s j + 2) := fun j => by
        rw [hP1, sI_ne ndA_l2, sI_ne (Ne.symm ndA_ne2)]
      have g2 : ∀ j, j ≠ i → P1.1 (ndA s j) = mm.1 (ndA s j) := fun j hj => by
        rw [hP1, sI_ne ndA_l, sI_ne (ndA_ne hj)]
      have g3 : P1.1 (ndA s i) 3 = v := by
        rw [hP1, sI_ne ndA_l, sI_at]
        rfl
      have g4 : ∀ k, k < 12 → m64 (P1.1 (s + 25)) k = wL mm.1 r i k := fun k hk => by
        unfold m64
        rw [hP1, sI_at, if_pos hk, lM_rt, hloc _ hM0 k hk]
      refine step _ (plf_p hi48 hM1) ⟨?_, fun k hk => ?_⟩ (fun j hj => ⟨?_, ?_⟩)
      · rw [es _ (plf_p hi48 hM1), sI_ne ndA_ne2, g3]
        exact hv
      · rw [ex _ (plf_p hi48 hM1), sI_at, if_pos hk, wW_step hpar hin h0]
        unfold pM
        rw [if_pos hk]
        refine congrArg Int64.toInt32 (pT_c (fun k hk => ?_) g4 (by omega) (by omega))
        unfold m64
        rw [g1, (hpl _ hl).2 k hk, wW_rt hpar (by omega) hk]
      · rw [sI_ne ndA_ne2, g2 j hj]
      · rw [sI_ne (ndA_ne22 hj), g1]
    have hlt : ¬ n ≤ i := by omega
    by_cases h0 : mm.1 (r + 15) i < 0
    · have h0' : mm.1 (ndA s i) 0 < 0 := by rw [n1]; exact h0
      have h0'' : ¬ 0 ≤ mm.1 (ndA s i) 0 := Int32.not_le.mpr h0'
      by_cases hh : mm.1 (ndA s i) 2 = 0
      · simp (disch := first | assumption | omega) only [L_XScene_placeNodes_2, ↓zS_s0, ↓zS_s1, ↓zS_s2, ↓zS_s3, ↓zS_s20, ↓zS_s21, ↓zS_s22, ↓zS_s23, ↓zS_s24, ↓zS_s25, ↓zS_smt, ↓zS_txA, ↓zS_txA1, ↓zS_txA2, ↓zS_msA, ↓zS_msA1, ↓zS_msA2, ↓zS_msA3, ↓zS_msA4, ↓zS_ndA, ↓zS_ndA1, ↓zS_ndA2, ↓zS_tkA, ↓zS_tkA1, ↓zS_tkA2, ↓zS_0, ↓zS_1, ↓zS_2, ↓zS_3, ↓zS_4, ↓zS_5, ↓zS_6, ↓zS_7, ↓zS_8, ↓zS_9, ↓zS_10, ↓zS_1121, ↓zS_1122, ↓zS_1123, ↓zS_1124, ↓zS_1125, ↓zS_1126, ↓zS_1175, ↓zS_1176, ↓zS_1177, ↓zS_1178, ↓zS_1179, ↓zS_1180, ↓zS_1181, ↓zS_1182, ↓zS_1183, ↓zS_1184, ↓zS_1185, ↓zS_1186, ↓zS_1277, ↓zS_1278, ↓zS_1279, ↓zS_1280, ↓zS_1281, ↓zS_1282, ↓zS_1283, ↓zS_1284, ↓zS_1285, ↓zS_1302, ↓zS_1286, ↓zS_1287, ↓zS_1288, ↓zS_1289, ↓zS_1290, ↓zS_1291, ↓zS_1292, ↓zS_1293, ↓zS_1294, ↓zS_1295, ↓zS_1296, ↓zS_1297, ↓zS_1298, ↓zS_1299, ↓zS_1300, ↓zS_1301, ↓zS_sg, ↓zS_m0, ↓zS_m1, ↓zS_m2, ↓zS_m3, ↓zS_m4, ↓zS_m5, ↓zS_m6, ↓zS_m7, ↓zS_m8, ↓zS_m9, ↓zS_m10, ↓zS_m11, ↓zS_m12, ↓zS_m13, ↓zS_m14, ↓zS_m15, ↓zS_m16, ↓zS_m17, ↓zS_m18, ↓zS_m19, ↓zS_m20, ↓zS_m21, ↓zS_m22, ↓zS_m23, ↓zS_m24, ↓zS_m25, ↓zS_m26, ↓zS_m27, ↓zS_m28, ↓zS_m29, ↓bf_0_2, ↓bf_0_4, ↓bf_0_6, ↓bf_0_7, ↓bf_0_8, ↓bf_0_9, ↓bf_3_2, ↓bf_5_0, ↓bf_5_2, ↓bf_5_3, ↓bf_5_5, ↓bf_5_6, ↓bf_1121_0, ↓bf_1121_8, ↓bf_1121_9, ↓bf_1121_10, ↓bf_1121_13, ↓bf_1122_1, ↓bf_1181_1, ↓bf_1178_1, ↓bf_1178_2, ↓bf_1178_8, ↓bf_1178_9, ↓bf_1178_11, ↓bf_1185_2, ↓bf_1185_4, ↓bf_1185_5, ↓bf_1185_6, ↓bf_1185_7, ↓bf_1185_8, ↓bf_1185_9, ↓bf_1185_14, ↓bf_1185_16, ↓bf_1185_17, ↓bf_1185_18, ↓bf_1277_0, ↓bf_1277_1, ↓bf_1278_0, ↓bf_1278_2, ↓bf_1285_3, ↓bf_1285_4, ↓bf_1285_14, ↓bf_1285_15, ↓bf_1285_16, ↓bf_1285_17, ↓bf_1285_18, ↓bf_1285_19, ↓bf_1285_20, ↓bf_1285_21, ↓bf_1285_22, ↓bf_1285_23, ↓bf_1285_24, ↓bf_1285_25, ↓bf_1285_27, ↓bf_1285_28, ↓bf_1285_29, ↓bf_1285_30, ↓bf_2, ↓bf_2_, ↓bf_1126, ↓bf_1126_, ↓bf_s0, ↓bf_s1, ↓bf_s2, ↓bf_s3, ↓bf_s4, ↓bf_s5, ↓bf_s6, ↓bf_s7, ↓bf_s10, ↓bf_tx, ↓bf_tx_, ↓bf_mt, ↓bf_mt_, ↓bf_ms, ↓bf_ms_, ↓bf_nd, ↓bf_nd_, ↓bf_tk, ↓bf_tk_, ↓bf_txA4, ↓bf_txA5, ↓bf_msA3, ↓bf_msA4, ↓bf_msA5, ↓bf_msA6, ↓bf_ndA4, ↓bf_ndA5, ↓bf_tkA4, ↓bf_tkA5, ↓bf_m5, ↓bf_m6, ↓bf_m7, ↓bf_m8, ↓bf_m9, ↓bf_m10, ↓bf_m11, ↓bf_m12, ↓bf_m13, ↓bf_m14, ↓bf_m15, ↓bf_m16, ↓bf_m17, ↓bf_m18, ↓bf_m19, ↓bf_m20, ↓bf_m21, ↓bf_m22, ↓bf_m23, ↓bf_m24, ↓bf_m25, ↓bf_m26, ↓bf_m27, ↓bf_m28, ↓bf_m29, ↓bf_m30, ↓bf_m31, ↓bf_m32, ↓bf_m33, mI_R, sI_R, sL_R, nI_k1, nI_k3, nI_add, hc, nI_leD, hlt, hp9, hq3, ↓zob_h (pl1 _ (mI_R _ _ _ _)), pl1 _ (mI_R _ _ _ _), hh, h0', h0'', ↓zoL_e, ↓zob_e, ↓reduceIte, zoS_e, zob_e, nI_lt0, nI_lt00, nI_cl, nle_f, or_self, or_false, false_or]
        refine fin1 1 ?_ h0
        rw [shn_root h0, ← n3, hh]
        rfl
      · simp (disch := first | assumption | omega) only [L_XScene_placeNodes_2, ↓zS_s0, ↓zS_s1, ↓zS_s2, ↓zS_s3, ↓zS_s20, ↓zS_s21, ↓zS_s22, ↓zS_s23, ↓zS_s24, ↓zS_s25, ↓zS_smt, ↓zS_txA, ↓zS_txA1, ↓zS_txA2, ↓zS_msA, ↓zS_msA1, ↓zS_msA2, ↓zS_msA3, ↓zS_msA4, ↓zS_ndA, ↓zS_ndA1, ↓zS_ndA2, ↓zS_tkA, ↓zS_tkA1, ↓zS_tkA2, ↓zS_0, ↓zS_1, ↓zS_2, ↓zS_3, ↓zS_4, ↓zS_5, ↓zS_6, ↓zS_7, ↓zS_8, ↓zS_9, ↓zS_10, ↓zS_1121, ↓zS_1122, ↓zS_1123, ↓zS_1124, ↓zS_1125, ↓zS_1126, ↓zS_1175, ↓zS_1176, ↓zS_1177, ↓zS_1178, ↓zS_1179, ↓zS_1180, ↓zS_1181, ↓zS_1182, ↓zS_1183, ↓zS_1184, ↓zS_1185, ↓zS_1186, ↓zS_1277, ↓zS_1278, ↓zS_1279, ↓zS_1280, ↓zS_1281, ↓zS_1282, ↓zS_1283, ↓zS_1284, ↓zS_1285, ↓zS_1302, ↓zS_1286, ↓zS_1287, ↓zS_1288, ↓zS_1289, ↓zS_1290, ↓zS_1291, ↓zS_1292, ↓zS_1293, ↓zS_1294, ↓zS_1295, ↓zS_1296, ↓zS_1297, ↓zS_1298, ↓zS_1299, ↓zS_1300, ↓zS_1301, ↓zS_sg, ↓zS_m0, ↓zS_m1, ↓zS_m2, ↓zS_m3, ↓zS_m4, ↓zS_m5, ↓zS_m6, ↓zS_m7, ↓zS_m8, ↓zS_m9, ↓zS_m10, ↓zS_m11, ↓zS_m12, ↓zS_m13, ↓zS_m14, ↓zS_m15, ↓zS_m16, ↓zS_m17, ↓zS_m18, ↓zS_m19, ↓zS_m20, ↓zS_m21, ↓zS_m22, ↓zS_m23, ↓zS_m24, ↓zS_m25, ↓zS_m26, ↓zS_m27, ↓zS_m28, ↓zS_m29, ↓bf_0_2, ↓bf_0_4, ↓bf_0_6, ↓bf_0_7, ↓bf_0_8, ↓bf_0_9, ↓bf_3_2, ↓bf_5_0, ↓bf_5_2, ↓bf_5_3, ↓bf_5_5, ↓bf_5_6, ↓bf_1121_0, ↓bf_1121_8, ↓bf_1121_9, ↓bf_1121_10, ↓bf_1121_13, ↓bf_1122_1, ↓bf_1181_1, ↓bf_1178_1, ↓bf_1178_2, ↓bf_1178_8, ↓bf_1178_9, ↓bf_1178_11, ↓bf_1185_2, ↓bf_1185_4, ↓bf_1185_5, ↓bf_1185_6, ↓bf_1185_7, ↓bf_1185_8, ↓bf_1185_9, ↓bf_1185_14, ↓bf_1185_16, ↓bf_1185_17, ↓bf_1185_18, ↓bf_1277_0, ↓bf_1277_1, ↓bf_1278_0, ↓bf_1278_2, ↓bf_1285_3, ↓bf_1285_4, ↓bf_1285_14, ↓bf_1285_15, ↓bf_1285_16, ↓bf_1285_17, ↓bf_1285_18, ↓bf_1285_19, ↓bf_1285_20, ↓bf_1285_21, ↓bf_1285_22, ↓bf_1285_23, ↓bf_1285_24, ↓bf_1285_25, ↓bf_1285_27, ↓bf_1285_28, ↓bf_1285_29, ↓bf_1285_30, ↓bf_2, ↓bf_2_, ↓bf_1126, ↓bf_1126_, ↓bf_s0, ↓bf_s1, ↓bf_s2, ↓bf_s3, ↓bf_s4, ↓bf_s5, ↓bf_s6, ↓bf_s7, ↓bf_s10, ↓bf_tx, ↓bf_tx_, ↓bf_mt, ↓bf_mt_, ↓bf_ms, ↓bf_ms_, ↓bf_nd, ↓bf_nd_, ↓bf_tk, ↓bf_tk_, ↓bf_txA4, ↓bf_txA5, ↓bf_msA3, ↓bf_msA4, ↓bf_msA5, ↓bf_msA6, ↓bf_ndA4, ↓bf_ndA5, ↓bf_tkA4, ↓bf_tkA5, ↓bf_m5, ↓bf_m6, ↓bf_m7, ↓bf_m8, ↓bf_m9, ↓bf_m10, ↓bf_m11, ↓bf_m12, ↓bf_m13, ↓bf_m14, ↓bf_m15, ↓bf_m16, ↓bf_m17, ↓bf_m18, ↓bf_m19, ↓bf_m20, ↓bf_m21, ↓bf_m22, ↓bf_m23, ↓bf_m24, ↓bf_m25, ↓bf_m26, ↓bf_m27, ↓bf_m28, ↓bf_m29, ↓bf_m30, ↓bf_m31, ↓bf_m32, ↓bf_m33, mI_R, sI_R, sL_R, nI_k1, nI_k3, nI_add, hc, nI_leD, hlt, hp9, hq3, ↓zob_h (pl1 _ (mI_R _ _ _ _)), pl1 _ (mI_R _ _ _ _), hh, h0'', ↓zoL_e, ↓zob_e, ↓reduceIte, zoS_e, zob_e, nI_lt0, nI_lt00, nI_cl, nle_f, or_self, or_false, false_or]
        refine fin1 0 ?_ h0
        rw [shn_root h0, ← n3, decide_eq_false hh]
        rfl
    · obtain ⟨e, hl⟩ := par_nI hpar hin h0
      have hpp : mm.1 (ndA s i) 0 = nI (mm.1 (r + 15) i).toNatClampNeg := by rw [n1]; exact e
      have hp48 : (mm.1 (r + 15) i).toNatClampNeg < 48 := by omega
      have ml : ∀ P1 : zMem, F_XFixed_multiply (sh0 W H) P1 (ndA s (mm.1 (r + 15) i).toNatClampNeg + 2) (s + 25) (ndA s i + 2) = some (sI P1 (ndA s i + 2) (fun k => if k < 12 then (pT (m64 (P1.1 (ndA s (mm.1 (r + 15) i).toNatClampNeg + 2))) (m64 (P1.1 (s + 25))) (k / 4) (k % 4)).toInt32 else P1.1 (ndA s i + 2) k)) := fun P1 => e_mulc (sh_ndA2 hs hp48) (sh_s25 hs) (sh_ndA2 hs hi48) (ndA_ne22 (by omega)) (Ne.symm ndA_l2)
      have hs3 := (hpl _ hl).1
      have hq0 : ∀ v g, (sI (mI mm (ndA s i) 3 v) (s + 25) g).1 (ndA s i) 0 = nI (mm.1 (r + 15) i).toNatClampNeg := fun v g => by
        rw [sI_ne ndA_l, hq3, hpp]
      have hx1 : mm.2.2 (s + 21) (mm.1 (ndA s i) 0).toNatClampNeg = some (ndA s (mm.1 (r + 15) i).toNatClampNeg) := by
        rw [hpp, nI_cl (by omega)]
        exact rf_nd hR hs hp48
      have hx2 : ∀ v g, (sI (mI mm (ndA s i) 3 v) (s + 25) g).2.2 (s + 21) ((sI (mI mm (ndA s i) 3 v) (s + 25) g).1 (ndA s i) 0).toNatClampNeg = some (ndA s (mm.1 (r + 15) i).toNatClampNeg) := fun v g => by
        rw [hq0, nI_cl (by omega)]
        exact rf_nd hR hs hp48
      have nI_lt0' : (nI (mm.1 (r + 15) i).toNatClampNeg < 0) = False := nI_lt0 (by omega)
      have nI_ge0' : (0 ≤ nI (mm.1 (r + 15) i).toNatClampNeg) = True := eq_true (nI_pos' (by omega))
      by_cases hh : mm.1 (ndA s i) 2 = 0
      · by_cases hsh : shn mm.1 r (mm.1 (r + 15) i).toNatClampNeg
        · have h3 : ¬ mm.1 (ndA s (mm.1 (r + 15) i).toNatClampNeg) 3 = 0 := by
            rw [hs3, hsh]
            decide
          simp (disch := first | assumption | omega) only [L_XScene_placeNodes_2, ↓zS_s0, ↓zS_s1, ↓zS_s2, ↓zS_s3, ↓zS_s20, ↓zS_s21, ↓zS_s22, ↓zS_s23, ↓zS_s24, ↓zS_s25, ↓zS_smt, ↓zS_txA, ↓zS_txA1, ↓zS_txA2, ↓zS_msA, ↓zS_msA1, ↓zS_msA2, ↓zS_msA3, ↓zS_msA4, ↓zS_ndA, ↓zS_ndA1, ↓zS_ndA2, ↓zS_tkA, ↓zS_tkA1, ↓zS_tkA2, ↓zS_0, ↓zS_1, ↓zS_2, ↓zS_3, ↓zS_4, ↓zS_5, ↓zS_6, ↓zS_7, ↓zS_8, ↓zS_9, ↓zS_10, ↓zS_1121, ↓zS_1122, ↓zS_1123, ↓zS_1124, ↓zS_1125, ↓zS_1126, ↓zS_1175, ↓zS_1176, ↓zS_1177, ↓zS_1178, ↓zS_1179, ↓zS_1180, ↓zS_1181, ↓zS_1182, ↓zS_1183, ↓zS_1184, ↓zS_1185, ↓zS_1186, ↓zS_1277, ↓zS_1278, ↓zS_1279, ↓zS_1280, ↓zS_1281, ↓zS_1282, ↓zS_1283, ↓zS_1284, ↓zS_1285, ↓zS_1302, ↓zS_1286, ↓zS_1287, ↓zS_1288, ↓zS_1289, ↓zS_1290, ↓zS_1291, ↓zS_1292, ↓zS_1293, ↓zS_1294, ↓zS_1295, ↓zS_1296, ↓zS_1297, ↓zS_1298, ↓zS_1299, ↓zS_1300, ↓zS_1301, ↓zS_sg, ↓zS_m0, ↓zS_m1, ↓zS_m2, ↓zS_m3, ↓zS_m4, ↓zS_m5, ↓zS_m6, ↓zS_m7, ↓zS_m8, ↓zS_m9, ↓zS_m10, ↓zS_m11, ↓zS_m12, ↓zS_m13, ↓zS_m14, ↓zS_m15, ↓zS_m16, ↓zS_m17, ↓zS_m18, ↓zS_m19, ↓zS_m20, ↓zS_m21, ↓zS_m22, ↓zS_m23, ↓zS_m24, ↓zS_m25, ↓zS_m26, ↓zS_m27, ↓zS_m28, ↓zS_m29, ↓bf_0_2, ↓bf_0_4, ↓bf_0_6, ↓bf_0_7, ↓bf_0_8, ↓bf_0_9, ↓bf_3_2, ↓bf_5_0, ↓bf_5_2, ↓bf_5_3, ↓bf_5_5, ↓bf_5_6, ↓bf_1121_0, ↓bf_1121_8, ↓bf_1121_9, ↓bf_1121_10, ↓bf_1121_13, ↓bf_1122_1, ↓bf_1181_1, ↓bf_1178_1, ↓bf_1178_2, ↓bf_1178_8, ↓bf_1178_9, ↓bf_1178_11, ↓bf_1185_2, ↓bf_1185_4, ↓bf_1185_5, ↓bf_1185_6, ↓bf_1185_7, ↓bf_1185_8, ↓bf_1185_9, ↓bf_1185_14, ↓bf_1185_16, ↓bf_1185_17, ↓bf_1185_18, ↓bf_1277_0, ↓bf_1277_1, ↓bf_1278_0, ↓bf_1278_2, ↓bf_1285_3, ↓bf_1285_4, ↓bf_1285_14, ↓bf_1285_15, ↓bf_1285_16, ↓bf_1285_17, ↓bf_1285_18, ↓bf_1285_19, ↓bf_1285_20, ↓bf_1285_21, ↓bf_1285_22, ↓bf_1285_23, ↓bf_1285_24, ↓bf_1285_25, ↓bf_1285_27, ↓bf_1285_28, ↓bf_1285_29, ↓bf_1285_30, ↓bf_2, ↓bf_2_, ↓bf_1126, ↓bf_1126_, ↓bf_s0, ↓bf_s1, ↓bf_s2, ↓bf_s3, ↓bf_s4, ↓bf_s5, ↓bf_s6, ↓bf_s7, ↓bf_s10, ↓bf_tx, ↓bf_tx_, ↓bf_mt, ↓bf_mt_, ↓bf_ms, ↓bf_ms_, ↓bf_nd, ↓bf_nd_, ↓bf_tk, ↓bf_tk_, ↓bf_txA4, ↓bf_txA5, ↓bf_msA3, ↓bf_msA4, ↓bf_msA5, ↓bf_msA6, ↓bf_ndA4, ↓bf_ndA5, ↓bf_tkA4, ↓bf_tkA5, ↓bf_m5, ↓bf_m6, ↓bf_m7, ↓bf_m8, ↓bf_m9, ↓bf_m10, ↓bf_m11, ↓bf_m12, ↓bf_m13, ↓bf_m14, ↓bf_m15, ↓bf_m16, ↓bf_m17, ↓bf_m18, ↓bf_m19, ↓bf_m20, ↓bf_m21, ↓bf_m22, ↓bf_m23, ↓bf_m24, ↓bf_m25, ↓bf_m26, ↓bf_m27, ↓bf_m28, ↓bf_m29, ↓bf_m30, ↓bf_m31, ↓bf_m32, ↓bf_m33, mI_R, sI_R, sL_R, nI_k1, nI_k3, nI_add, hc, nI_leD, hlt, hp9, hq3, hpp, nI_lt0', nI_ge0', hq0, ↓zob_h hx1, ↓zob_h (hx2 _ _), ↓zob_h (ml _), ml _, ↓zob_h (pl2 _ (mI_R _ _ _ _)), pl2 _ (mI_R _ _ _ _), hh, h3, ↓zoL_e, ↓zob_e, ↓reduceIte, zoS_e, zob_e, nI_lt0, nI_lt00, nI_cl, nle_f, or_self, or_false, false_or]
          refine fin2 1 ?_ h0 _ rfl
          rw [shn_step hpar hin h0, ← n3, hh, hsh]
          rfl
        · have h3 : mm.1 (ndA s (mm.1 (r + 15) i).toNatClampNeg) 3 = 0 := by
            rw [hs3, Bool.not_eq_true _ |>.mp hsh]
            decide
          simp (disch := first | assumption | omega) only [L_XScene_placeNodes_2, ↓zS_s0, ↓zS_s1, ↓zS_s2, ↓zS_s3, ↓zS_s20, ↓zS_s21, ↓zS_s22, ↓zS_s23, ↓zS_s24, ↓zS_s25, ↓zS_smt, ↓zS_txA, ↓zS_txA1, ↓zS_txA2, ↓zS_msA, ↓zS_msA1, ↓zS_msA2, ↓zS_msA3, ↓zS_msA4, ↓zS_ndA, ↓zS_ndA1, ↓zS_ndA2, ↓zS_tkA, ↓zS_tkA1, ↓zS_tkA2, ↓zS_0, ↓zS_1, ↓zS_2, ↓zS_3, ↓zS_4, ↓zS_5, ↓zS_6, ↓zS_7, ↓zS_8, ↓zS_9, ↓zS_10, ↓zS_1121, ↓zS_1122, ↓zS_1123, ↓zS_1124, ↓zS_1125, ↓zS_1126, ↓zS_1175, ↓zS_1176, ↓zS_1177, ↓zS_1178, ↓zS_1179, ↓zS_1180, ↓zS_1181, ↓zS_1182, ↓zS_1183, ↓zS_1184, ↓zS_1185, ↓zS_1186, ↓zS_1277, ↓zS_1278, ↓zS_1279, ↓zS_1280, ↓zS_1281, ↓zS_1282, ↓zS_1283, ↓zS_1284, ↓zS_1285, ↓zS_1302, ↓zS_1286, ↓zS_1287, ↓zS_1288, ↓zS_1289, ↓zS_1290, ↓zS_1291, ↓zS_1292, ↓zS_1293, ↓zS_1294, ↓zS_1295, ↓zS_1296, ↓zS_1297, ↓zS_1298, ↓zS_1299, ↓zS_1300, ↓zS_1301, ↓zS_sg, ↓zS_m0, ↓zS_m1, ↓zS_m2, ↓zS_m3, ↓zS_m4, ↓zS_m5, ↓zS_m6, ↓zS_m7, ↓zS_m8, ↓zS_m9, ↓zS_m10, ↓zS_m11, ↓zS_m12, ↓zS_m13, ↓zS_m14, ↓zS_m15, ↓zS_m16, ↓zS_m17, ↓zS_m18, ↓zS_m19, ↓zS_m20, ↓zS_m21, ↓zS_m22, ↓zS_m23, ↓zS_m24, ↓zS_m25, ↓zS_m26, ↓zS_m27, ↓zS_m28, ↓zS_m29, ↓bf_0_2, ↓bf_0_4, ↓bf_0_6, ↓bf_0_7, ↓bf_0_8, ↓bf_0_9, ↓bf_3_2, ↓bf_5_0, ↓bf_5_2, ↓bf_5_3, ↓bf_5_5, ↓bf_5_6, ↓bf_1121_0, ↓bf_1121_8, ↓bf_1121_9, ↓bf_1121_10, ↓bf_1121_13, ↓bf_1122_1, ↓bf_1181_1, ↓bf_1178_1, ↓bf_1178_2, ↓bf_1178_8, ↓bf_1178_9, ↓bf_1178_11, ↓bf_1185_2, ↓bf_1185_4, ↓bf_1185_5, ↓bf_1185_6, ↓bf_1185_7, ↓bf_1185_8, ↓bf_1185_9, ↓bf_1185_14, ↓bf_1185_16, ↓bf_1185_17, ↓bf_1185_18, ↓bf_1277_0, ↓bf_1277_1, ↓bf_1278_0, ↓bf_1278_2, ↓bf_1285_3, ↓bf_1285_4, ↓bf_1285_14, ↓bf_1285_15, ↓bf_1285_16, ↓bf_1285_17, ↓bf_1285_18, ↓bf_1285_19, ↓bf_1285_20, ↓bf_1285_21, ↓bf_1285_22, ↓bf_1285_23, ↓bf_1285_24, ↓bf_1285_25, ↓bf_1285_27, ↓bf_1285_28, ↓bf_1285_29, ↓bf_1285_30, ↓bf_2, ↓bf_2_, ↓bf_1126, ↓bf_1126_, ↓bf_s0, ↓bf_s1, ↓bf_s2, ↓bf_s3, ↓bf_s4, ↓bf_s5, ↓bf_s6, ↓bf_s7, ↓bf_s10, ↓bf_tx, ↓bf_tx_, ↓bf_mt, ↓bf_mt_, ↓bf_ms, ↓bf_ms_, ↓bf_nd, ↓bf_nd_, ↓bf_tk, ↓bf_tk_, ↓bf_txA4, ↓bf_txA5, ↓bf_msA3, ↓bf_msA4, ↓bf_msA5, ↓bf_msA6, ↓bf_ndA4, ↓bf_ndA5, ↓bf_tkA4, ↓bf_tkA5, ↓bf_m5, ↓bf_m6, ↓bf_m7, ↓bf_m8, ↓bf_m9, ↓bf_m10, ↓bf_m11, ↓bf_m12, ↓bf_m13, ↓bf_m14, ↓bf_m15, ↓bf_m16, ↓bf_m17, ↓bf_m18, ↓bf_m19, ↓bf_m20, ↓bf_m21, ↓bf_m22, ↓bf_m23, ↓bf_m24, ↓bf_m25, ↓bf_m26, ↓bf_m27, ↓bf_m28, ↓bf_m29, ↓bf_m30, ↓bf_m31, ↓bf_m32, ↓bf_m33, mI_R, sI_R, sL_R, nI_k1, nI_k3, nI_add, hc, nI_leD, hlt, hp9, hq3, hpp, nI_lt0', nI_ge0', hq0, ↓zob_h hx1, ↓zob_h (hx2 _ _), ↓zob_h (ml _), ml _, ↓zob_h (pl2 _ (mI_R _ _ _ _)), pl2 _ (mI_R _ _ _ _), hh, h3, ↓zoL_e, ↓zob_e, ↓reduceIte, zoS_e, zob_e, nI_lt0, nI_lt00, nI_cl, nle_f, or_self, or_false, false_or]
          refine fin2 0 ?_ h0 _ rfl
          rw [shn_step hpar hin h0, ← n3, hh, Bool.not_eq_true _ |>.mp hsh]
          rfl
      · simp (disch := first | assumption | omega) only [L_XScene_placeNodes_2, ↓zS_s0, ↓zS_s1, ↓zS_s2, ↓zS_s3, ↓zS_s20, ↓zS_s21, ↓zS_s22, ↓zS_s23, ↓zS_s24, ↓zS_s25, ↓zS_smt, ↓zS_txA, ↓zS_txA1, ↓zS_txA2, ↓zS_msA, ↓zS_msA1, ↓zS_msA2, ↓zS_msA3, ↓zS_msA4, ↓zS_ndA, ↓zS_ndA1, ↓zS_ndA2, ↓zS_tkA, ↓zS_tkA1, ↓zS_tkA2, ↓zS_0, ↓zS_1, ↓zS_2, ↓zS_3, ↓zS_4, ↓zS_5, ↓zS_6, ↓zS_7, ↓zS_8, ↓zS_9, ↓zS_10, ↓zS_1121, ↓zS_1122, ↓zS_1123, ↓zS_1124, ↓zS_1125, ↓zS_1126, ↓zS_1175, ↓zS_1176, ↓zS_1177, ↓zS_1178, ↓zS_1179, ↓zS_1180, ↓zS_1181, ↓zS_1182, ↓zS_1183, ↓zS_1184, ↓zS_1185, ↓zS_1186, ↓zS_1277, ↓zS_1278, ↓zS_1279, ↓zS_1280, ↓zS_1281, ↓zS_1282, ↓zS_1283, ↓zS_1284, ↓zS_1285, ↓zS_1302, ↓zS_1286, ↓zS_1287, ↓zS_1288, ↓zS_1289, ↓zS_1290, ↓zS_1291, ↓zS_1292, ↓zS_1293, ↓zS_1294, ↓zS_1295, ↓zS_1296, ↓zS_1297, ↓zS_1298, ↓zS_1299, ↓zS_1300, ↓zS_1301, ↓zS_sg, ↓zS_m0, ↓zS_m1, ↓zS_m2, ↓zS_m3, ↓zS_m4, ↓zS_m5, ↓zS_m6, ↓zS_m7, ↓zS_m8, ↓zS_m9, ↓zS_m10, ↓zS_m11, ↓zS_m12, ↓zS_m13, ↓zS_m14, ↓zS_m15, ↓zS_m16, ↓zS_m17, ↓zS_m18, ↓zS_m19, ↓zS_m20, ↓zS_m21, ↓zS_m22, ↓zS_m23, ↓zS_m24, ↓zS_m25, ↓zS_m26, ↓zS_m27, ↓zS_m28, ↓zS_m29, ↓bf_0_2, ↓bf_0_4, ↓bf_0_6, ↓bf_0_7, ↓bf_0_8, ↓bf_0_9, ↓bf_3_2, ↓bf_5_0, ↓bf_5_2, ↓bf_5_3, ↓bf_5_5, ↓bf_5_6, ↓bf_1121_0, ↓bf_1121_8, ↓bf_1121_9, ↓bf_1121_10, ↓bf_1121_13, ↓bf_1122_1, ↓bf_1181_1, ↓bf_1178_1, ↓bf_1178_2, ↓bf_1178_8, ↓bf_1178_9, ↓bf_1178_11, ↓bf_1185_2, ↓bf_1185_4, ↓bf_1185_5, ↓bf_1185_6, ↓bf_1185_7, ↓bf_1185_8, ↓bf_1185_9, ↓bf_1185_14, ↓bf_1185_16, ↓bf_1185_17, ↓bf_1185_18, ↓bf_1277_0, ↓bf_1277_1, ↓bf_1278_0, ↓bf_1278_2, ↓bf_1285_3, ↓bf_1285_4, ↓bf_1285_14, ↓bf_1285_15, ↓bf_1285_16, ↓bf_1285_17, ↓bf_1285_18, ↓bf_1285_19, ↓bf_1285_20, ↓bf_1285_21, ↓bf_1285_22, ↓bf_1285_23, ↓bf_1285_24, ↓bf_1285_25, ↓bf_1285_27, ↓bf_1285_28, ↓bf_1285_29, ↓bf_1285_30, ↓bf_2, ↓bf_2_, ↓bf_1126, ↓bf_1126_, ↓bf_s0, ↓bf_s1, ↓bf_s2, ↓bf_s3, ↓bf_s4, ↓bf_s5, ↓bf_s6, ↓bf_s7, ↓bf_s10, ↓bf_tx, ↓bf_tx_, ↓bf_mt, ↓bf_mt_, ↓bf_ms, ↓bf_ms_, ↓bf_nd, ↓bf_nd_, ↓bf_tk, ↓bf_tk_, ↓bf_txA4, ↓bf_txA5, ↓bf_msA3, ↓bf_msA4, ↓bf_msA5, ↓bf_msA6, ↓bf_ndA4, ↓bf_ndA5, ↓bf_tkA4, ↓bf_tkA5, ↓bf_m5, ↓bf_m6, ↓bf_m7, ↓bf_m8, ↓bf_m9, ↓bf_m10, ↓bf_m11, ↓bf_m12, ↓bf_m13, ↓bf_m14, ↓bf_m15, ↓bf_m16, ↓bf_m17, ↓bf_m18, ↓bf_m19, ↓bf_m20, ↓bf_m21, ↓bf_m22, ↓bf_m23, ↓bf_m24, ↓bf_m25, ↓bf_m26, ↓bf_m27, ↓bf_m28, ↓bf_m29, ↓bf_m30, ↓bf_m31, ↓bf_m32, ↓bf_m33, mI_R, sI_R, sL_R, nI_k1, nI_k3, nI_add, hc, nI_leD, hlt, hp9, hq3, hpp, nI_lt0', nI_ge0', hq0, ↓zob_h hx1, ↓zob_h (hx2 _ _), ↓zob_h (ml _), ml _, ↓zob_h (pl2 _ (mI_R _ _ _ _)), pl2 _ (mI_R _ _ _ _), hh, ↓zoL_e, ↓zob_e, ↓reduceIte, zoS_e, zob_e, nI_lt0, nI_lt00, nI_cl, nle_f, or_self, or_false, false_or]
        refine fin2 0 ?_ h0 _ rfl
        rw [shn_step hpar hin h0, ← n3, decide_eq_false hh]
        rfl
/-- the class's scene is placed -/
theorem e_placeNodes {W H s r n : Nat} {mm : zMem} (hs : gS s) (hr : gM r) (hn : n ≤ 48) (hR : RF mm.2.2) (hc : mm.1 (s + 1) 3 = nI n) (hnd : Rnd mm.1 s r n) (hpar : parB (mm.1 (r + 15)) n) (hpl : ¬ mm.1 s 9 = 0 → Plc mm.1 s r n) : zok (F_XScene_placeNodes (sh0 W H) mm s) (fun m' => ∃ m1, plf s mm m1 ∧ m' = mI m1 s 9 1 ∧ Plc m'.1 s r n) := by
  have key : zok (L_XScene_placeNodes_2 (sh0 W H) zfuel s (nI 0) mm) (fun q => q.1 = s ∧ plf s mm q.2.2 ∧ ∀ j, j < n → Plc1 q.2.2.1 s r j) := by
    by_cases h9 : mm.1 s 9 = 0
    · exact e_pn_2 hs hr hn n 0 zfuel mm (by omega) (zf_lt (by omega)) hR hc h9 hnd hpar (fun j hj => by omega)
    · rw [zfuel_s]
      simp (disch := first | assumption | omega) only [L_XScene_placeNodes_2, ↓zoS_h (sh_s0 hs), sh_s0 hs, ↓zoS_h (sh_s1 hs), sh_s1 hs, ↓zob_h (rf_s0 hR hs), rf_s0 hR hs, nI_k3, hc, h9, ↓zoL_e, ↓zob_e, ↓reduceIte, zoS_e, zob_e, nI_lt0, nI_lt00, nI_cl, nle_f, or_self, or_false, false_or]
      refine zok_if (fun _ => zok_s ⟨rfl, plf_r, hpl h9⟩) (fun _ => zok_s ⟨rfl, plf_r, hpl h9⟩)
  unfold F_XScene_placeNodes
  refine zok_b key (fun q hq => ?_)
  obtain ⟨q1, q2, q3⟩ := hq
  rw [q1]
  simp only [sh_s0 hs, zoS_e, zoL_e]
  refine zok_s ⟨q.2.2, q2, rfl, fun j hj => ?_⟩
  obtain ⟨a1, a2⟩ := q3 j hj
  have e : ∀ a, a ≠ s → (mI q.2.2 s 9 1).1 a = q.2.2.1 a := fun a ha => by rw [mI_sI, sI_ne ha]
  have er : ∀ k, k < 30 → (mI q.2.2 s 9 1).1 (r + k) = q.2.2.1 (r + k) := fun k hk => e _ (by rcases hr with rfl | rfl | rfl <;> rcases hs with rfl | rfl | rfl <;> omega)
  refine ⟨?_, fun k hk => ?_⟩
  · rw [e _ (by unfold ndA; omega), a1, shn_c er]
  · rw [e _ (by unfold ndA; omega), a2 k hk, wW_c er]
