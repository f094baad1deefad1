/-! PURE: a scene of the class and one of the reference, cell by cell -/
theorem RtxG_c {f f' : Nat → Nat → Int32} {s i : Nat} {g g' : Nat → Nat → Int32} (h0 : f' (txA s i) = f (txA s i)) (h1 : f' (txA s i + 1) = f (txA s i + 1)) (h2 : f' (txA s i + 2) = f (txA s i + 2)) (k1 : g' 1 i = g 1 i) (k2 : g' 2 i = g 2 i) (k3 : g' 3 i = g 3 i) (k4 : ∀ c, c < 4095 → g' 4 (4095 * i + c) = g 4 (4095 * i + c)) (h : RtxG f s g i) : RtxG f' s g' i := by
  obtain ⟨e, he, a1, a2, a3, a4, a5, a6, a7, a8, a9⟩ := h
  have hs32 : sd e 0 ≤ 32 := (show ∀ e : Fin 6, sd e 0 ≤ 32 by decide) ⟨e, by omega⟩
  have hsq : sd e 0 * sd e 0 ≤ 1024 := Nat.mul_le_mul hs32 hs32
  refine ⟨e, he, by rw [k1, a1], by rw [h0, k1, a2], by rw [h0, k2, a3], by rw [h0, k3, a4], ?_, fun j hj => by rw [k4 j (by omega)]; exact a6 j hj, by rw [k2]; exact a7, by rw [k2]; exact a8, by rw [k3]; exact a9⟩
  refine RtxL_c he (B := fun j => g 4 (4095 * i + j)) (fun j hj => (k4 j (by omega)).symm) ?_
  obtain ⟨b1, b2, b3⟩ := a5
  exact ⟨by rw [h0]; exact b1, fun j hj => by rw [h2]; exact b2 j hj, fun j hj q hq => by rw [h1]; exact b3 j hj q hq⟩
theorem RmtG_c {f f' : Nat → Nat → Int32} {s i : Nat} {g g' : Nat → Nat → Int32} (h0 : f' (s + (4 + i)) = f (s + (4 + i))) (k5 : ∀ c, c < 4 → g' 5 (4 * i + c) = g 5 (4 * i + c)) (k6 : g' 6 i = g 6 i) (k7 : g' 7 i = g 7 i) (hc : (g 0 0).toInt ≤ (g' 0 0).toInt) (h : RmtG f s g i ∧ WmtG g i) : RmtG f' s g' i ∧ WmtG g' i := by
  obtain ⟨⟨a1, a2, a3⟩, b1, b2, b3, b4⟩ := h
  exact ⟨⟨fun c hc => by rw [h0, k5 c hc, a1 c hc], by rw [h0, k6, a2], by rw [h0, k7, a3]⟩, fun c hc => by rw [k5 c hc]; exact b1 c hc, by rw [k6]; exact b2, by rw [k6]; omega, by rw [k7]; exact b4⟩
theorem RmsG_c {f f' : Nat → Nat → Int32} {s i : Nat} {g g' : Nat → Nat → Int32} (h0 : ∀ e, e < 5 → f' (msA s i + e) = f (msA s i + e)) (k8 : g' 8 i = g 8 i) (k9 : g' 9 i = g 9 i) (k10 : g' 10 i = g 10 i) (k11 : ∀ c, c < 384 → g' 11 (384 * i + c) = g 11 (384 * i + c) ∧ g' 12 (384 * i + c) = g 12 (384 * i + c) ∧ g' 14 (384 * i + c) = g 14 (384 * i + c) ∧ (c < 256 → g' 13 (256 * i + c) = g 13 (256 * i + c))) (hc : (g 0 1).toInt ≤ (g' 0 1).toInt) (h : RmsG f s g i ∧ WmsG g i) : RmsG f' s g' i ∧ WmsG g' i := by
  obtain ⟨⟨a1, a2, a3, a4, a5, a6⟩, b1, b2, np, nf, b3, b4, b5, b6, b7, b8, b9, b10, b11⟩ := h
  have e9 : (g 9 i).toNatClampNeg = np := by rw [b7, nI_cl (by omega)]
  have e10 : (g 10 i).toNatClampNeg = nf := by rw [b8, nI_cl (by omega)]
  have hz := h0 0 (by decide)
  rw [Nat.add_zero] at hz
  rw [e9] at a4 a5
  rw [e10] at a6
  refine ⟨⟨by rw [hz, k8, a1], by rw [hz, k9, a2], by rw [hz, k10, a3], fun j hj => ?_, fun j hj => ?_, fun j hj => ?_⟩, by rw [k8]; exact b1, by rw [k8]; omega, np, nf, b3, b4, b5, b6, by rw [k9]; exact b7, by rw [k10]; exact b8, fun j hj => ?_, fun j hj => ?_, fun j hj => ?_⟩
  · rw [k9, e9] at hj
    rw [h0 1 (by decide), h0 2 (by decide), (k11 j (by omega)).1, (k11 j (by omega)).2.1]
    exact a4 j hj
  · rw [k9, e9] at hj
    rw [h0 3 (by decide), (k11 j (by omega)).2.2.2 (by omega)]
    exact a5 j hj
  · rw [k10, e10] at hj
    rw [h0 4 (by decide), (k11 j (by omega)).2.2.1]
    exact a6 j hj
  · rw [(k11 j (by omega)).1, (k11 j (by omega)).2.1]
    exact b9 j hj
  · rw [(k11 j (by omega)).2.2.2 (by omega)]
    exact b10 j hj
  · rw [(k11 j (by omega)).2.2.1]
    exact b11 j hj
theorem RndG_c {f f' : Nat → Nat → Int32} {s i : Nat} {g g' : Nat → Nat → Int32} (h0 : ∀ c, c < 3 → f' (ndA s i) c = f (ndA s i) c) (h1 : f' (ndA s i + 1) = f (ndA s i + 1)) (k15 : g' 15 i = g 15 i) (k16 : g' 16 i = g 16 i) (k20 : g' 20 i = g 20 i) (k17 : ∀ c, c < 3 → g' 17 (3 * i + c) = g 17 (3 * i + c) ∧ g' 18 (3 * i + c) = g 18 (3 * i + c) ∧ g' 19 (3 * i + c) = g 19 (3 * i + c)) (hc : (g 0 2).toInt ≤ (g' 0 2).toInt) (h : RndG f s g i ∧ WndG g i) : RndG f' s g' i ∧ WndG g' i := by
  obtain ⟨⟨a1, a2, a3, a4⟩, b1, b2, b3, b4, b5, b6⟩ := h
  refine ⟨⟨by rw [h0 0 (by decide), k15, a1], by rw [h0 1 (by decide), k16, a2], by rw [h0 2 (by decide), k20, a3], fun c hc => ?_⟩, by rw [k15]; exact b1, by rw [k15]; exact b2, by rw [k16]; exact b3, by rw [k16]; omega, by rw [k20]; exact b5, fun c hc => ?_⟩
  · obtain ⟨c1, c2, c3⟩ := k17 c hc
    rw [h1, c1, c2, c3]
    exact a4 c hc
  · obtain ⟨c1, c2, c3⟩ := k17 c hc
    rw [c1, c2, c3]
    exact b6 c hc
theorem RtkG_c {f f' : Nat → Nat → Int32} {s i : Nat} {g g' : Nat → Nat → Int32} (h0 : ∀ e, e < 3 → f' (tkA s i + e) = f (tkA s i + e)) (k21 : g' 21 i = g 21 i) (k22 : g' 22 i = g 22 i) (k23 : g' 23 i = g 23 i) (k24 : g' 24 i = g 24 i) (k26 : ∀ c, c < 96 → g' 26 (96 * i + c) = g 26 (96 * i + c) ∧ (c < 32 → g' 25 (32 * i + c) = g 25 (32 * i + c))) (hc : (g 0 3).toInt ≤ (g' 0 3).toInt) (h : RtkG f s g i ∧ WtkG g i) : RtkG f' s g' i ∧ WtkG g' i := by
  obtain ⟨⟨a1, a2, a3, a4, a5, a6⟩, b1, b2, b3, b4, b5, b6, nk, b7, b8, b9, b10, b11, b12⟩ := h
  have e24 : (g 24 i).toNatClampNeg = nk := by rw [b9, nI_cl (by omega)]
  have hz := h0 0 (by decide)
  rw [Nat.add_zero] at hz
  rw [e24] at a5 a6
  refine ⟨⟨by rw [hz, k21, a1], by rw [hz, k22, a2], by rw [hz, k23, a3], by rw [hz, k24, a4], fun j hj => ?_, fun j hj => ?_⟩, by rw [k21]; exact b1, by rw [k21]; omega, by rw [k22]; exact b3, by rw [k22]; exact b4, by rw [k23]; exact b5, by rw [k23]; exact b6, nk, b7, b8, by rw [k24]; exact b9, fun j hj => ?_, fun j hj => ?_, fun j hj => ?_⟩
  · rw [k24, e24] at hj
    rw [h0 1 (by decide), (k26 j (by omega)).2 (by omega)]
    exact a5 j hj
  · rw [k24, e24] at hj
    rw [h0 2 (by decide), (k26 j (by omega)).1]
    exact a6 j hj
  · rw [(k26 j (by omega)).2 (by omega)]
    exact b10 j hj
  · rw [(k26 j (by omega)).2 (by omega), (k26 (j + 1) (by omega)).2 (by omega)]
    exact b11 j hj
  · rw [k22, (k26 j (by omega)).1]
    exact b12 j hj
theorem Rcam_c {f f' : Nat → Nat → Int32} {s : Nat} {g g' : Nat → Nat → Int32} (h0 : f' (s + 23) = f (s + 23)) (k27 : g' 27 = g 27) (k28 : g' 28 = g 28) (k34 : g' 0 34 = g 0 34) (h : Rcam f s g ∧ Wcam g) : Rcam f' s g' ∧ Wcam g' := by
  unfold Rcam Wcam at *
  rw [h0, k27, k28, k34]
  exact h
theorem Rlmp_c {f f' : Nat → Nat → Int32} {s : Nat} {g g' : Nat → Nat → Int32} (h0 : f' (s + 24) = f (s + 24)) (k29 : g' 29 = g 29) (k35 : g' 0 35 = g 0 35) (h : Rlmp f s g ∧ Wlmp g) : Rlmp f' s g' ∧ Wlmp g' := by
  unfold Rlmp Wlmp at *
  rw [h0, k29, k35]
  exact h
def lim (c : Nat) : Nat := ([8, 16, 16, 48, 32] : List Nat).getD c 0
def cn (g : Nat → Nat → Int32) (c : Nat) : Nat := (g 0 c).toNatClampNeg
/-- the class's scene s is the scene g -/
def RscG (f : Nat → Nat → Int32) (s : Nat) (g : Nat → Nat → Int32) : Prop := (∀ c, c < 5 → f (s + 1) c = g 0 c ∧ g 0 c = nI (cn g c) ∧ cn g c ≤ lim c) ∧ (∀ i, i < 8 → f (txA s i + 2) 0 = 0) ∧ (∀ i, i < cn g 0 → RtxG f s g i) ∧ (∀ i, i < cn g 1 → RmtG f s g i ∧ WmtG g i) ∧ (∀ i, i < cn g 2 → RmsG f s g i ∧ WmsG g i) ∧ (∀ i, i < cn g 3 → RndG f s g i ∧ WndG g i) ∧ (∀ i, i < cn g 4 → RtkG f s g i ∧ WtkG g i) ∧ (Rcam f s g ∧ Wcam g) ∧ (Rlmp f s g ∧ Wlmp g)
theorem lim_v : lim 0 = 8 ∧ lim 1 = 16 ∧ lim 2 = 16 ∧ lim 3 = 48 ∧ lim 4 = 32 := by decide
theorem lim_48 {c : Nat} (h : c < 5) : lim c ≤ 48 := by
  rcases (show c = 0 ∨ c = 1 ∨ c = 2 ∨ c = 3 ∨ c = 4 by omega) with rfl | rfl | rfl | rfl | rfl <;> decide
/-- one thing more -/
theorem RscG_more {f f' : Nat → Nat → Int32} {s c k : Nat} {g g' : Nat → Nat → Int32} (hs : gS s) (hc : c < 5) (h : RscG f s g) (hk : cn g c = k) (hl : k < lim c)
    (hf1 : f' (s + 1) = f (s + 1)) (hfc : f' (s + 23) = f (s + 23)) (hfl : f' (s + 24) = f (s + 24)) (hft : ∀ i, i < 8 → f' (txA s i + 2) 0 = 0) (hg0 : g' 0 = g 0) (hg27 : g' 27 = g 27) (hg28 : g' 28 = g 28) (hg29 : g' 29 = g 29)
    (h0 : ∀ i, i < cn g 0 → RtxG f' s g' i) (h1 : ∀ i, i < cn g 1 → RmtG f' s g' i ∧ WmtG g' i) (h2 : ∀ i, i < cn g 2 → RmsG f' s g' i ∧ WmsG g' i) (h3 : ∀ i, i < cn g 3 → RndG f' s g' i ∧ WndG g' i) (h4 : ∀ i, i < cn g 4 → RtkG f' s g' i ∧ WtkG g' i)
    (n0 : c = 0 → RtxG f' s g' k) (n1 : c = 1 → RmtG f' s g' k ∧ WmtG g' k) (n2 : c = 2 → RmsG f' s g' k ∧ WmsG g' k) (n3 : c = 3 → RndG f' s g' k ∧ WndG g' k) (n4 : c = 4 → RtkG f' s g' k ∧ WtkG g' k) : RscG (fS f' (s + 1) (upd (f' (s + 1)) c (nI (k + 1)))) s (gI g' 0 c (nI (k + 1))) ∧ cn (gI g' 0 c (nI (k + 1))) c = k + 1 ∧ ∀ d, d ≠ c → gI g' 0 c (nI (k + 1)) 0 d = g 0 d := by
  have l48 := lim_48 hc
  have eg : ∀ d, gI g' 0 c (nI (k + 1)) 0 d = upd (g 0) c (nI (k + 1)) d := fun d => by
    show upd (g' 0) c (nI (k + 1)) d = _
    rw [hg0]
  have eo : ∀ b, b ≠ 0 → gI g' 0 c (nI (k + 1)) b = g' b := fun b hb => fS_ne hb
  have ef : ∀ b, b ≠ s + 1 → fS f' (s + 1) (upd (f' (s + 1)) c (nI (k + 1))) b = f' b := fun b hb => fS_ne hb
  have ec : cn (gI g' 0 c (nI (k + 1))) c = k + 1 := by
    unfold cn
    rw [eg, upd_at, nI_cl (by omega)]
  have ed : ∀ d, d ≠ c → cn (gI g' 0 c (nI (k + 1))) d = cn g d := fun d hd => by
    unfold cn
    rw [eg, upd_ne hd]
  have hgk : g 0 c = nI k := by rw [(h.1 c hc).2.1, hk]
  have mono : ∀ d, (g' 0 d).toInt ≤ (gI g' 0 c (nI (k + 1)) 0 d).toInt := fun d => by
    rw [eg, hg0]
    by_cases e : d = c
    · rw [e, upd_at, hgk, nI_toInt (by omega), nI_toInt (by omega)]
      omega
    · rw [upd_ne e]
      exact Int.le_refl _
  have g34 : gI g' 0 c (nI (k + 1)) 0 34 = g 0 34 := by rw [eg, upd_ne (by omega)]
  have g35 : gI g' 0 c (nI (k + 1)) 0 35 = g 0 35 := by rw [eg, upd_ne (by omega)]
  have tx : ∀ i, RtxG f' s g' i → RtxG (fS f' (s + 1) (upd (f' (s + 1)) c (nI (k + 1)))) s (gI g' 0 c (nI (k + 1))) i := fun i hh => RtxG_c (ef _ (by unfold txA; omega)) (ef _ (by unfold txA; omega)) (ef _ (by unfold txA; omega)) (by rw [eo 1 (by decide)]) (by rw [eo 2 (by decide)]) (by rw [eo 3 (by decide)]) (fun _ _ => by rw [eo 4 (by decide)]) hh
  have mt : ∀ i, RmtG f' s g' i ∧ WmtG g' i → RmtG (fS f' (s + 1) (upd (f' (s + 1)) c (nI (k + 1)))) s (gI g' 0 c (nI (k + 1))) i ∧ WmtG (gI g' 0 c (nI (k + 1))) i := fun i hh => RmtG_c (ef _ (by omega)) (fun _ _ => by rw [eo 5 (by decide)]) (by rw [eo 6 (by decide)]) (by rw [eo 7 (by decide)]) (mono 0) hh
  have ms : ∀ i, RmsG f' s g' i ∧ WmsG g' i → RmsG (fS f' (s + 1) (upd (f' (s + 1)) c (nI (k + 1)))) s (gI g' 0 c (nI (k + 1))) i ∧ WmsG (gI g' 0 c (nI (k + 1))) i := fun i hh => RmsG_c (fun e he => ef _ (by unfold msA; omega)) (by rw [eo 8 (by decide)]) (by rw [eo 9 (by decide)]) (by rw [eo 10 (by decide)]) (fun _ _ => by rw [eo 11 (by decide), eo 12 (by decide), eo 13 (by decide), eo 14 (by decide)]; exact ⟨rfl, rfl, rfl, fun _ => rfl⟩) (mono 1) hh
  have nd : ∀ i, RndG f' s g' i ∧ WndG g' i → RndG (fS f' (s + 1) (upd (f' (s + 1)) c (nI (k + 1)))) s (gI g' 0 c (nI (k + 1))) i ∧ WndG (gI g' 0 c (nI (k + 1))) i := fun i hh => RndG_c (fun _ _ => by rw [ef _ (by unfold ndA; omega)]) (ef _ (by unfold ndA; omega)) (by rw [eo 15 (by decide)]) (by rw [eo 16 (by decide)]) (by rw [eo 20 (by decide)]) (fun _ _ => by rw [eo 17 (by decide), eo 18 (by decide), eo 19 (by decide)]; exact ⟨rfl, rfl, rfl⟩) (mono 2) hh
  have tk : ∀ i, RtkG f' s g' i ∧ WtkG g' i → RtkG (fS f' (s + 1) (upd (f' (s + 1)) c (nI (k + 1)))) s (gI g' 0 c (nI (k + 1))) i ∧ WtkG (gI g' 0 c (nI (k + 1))) i := fun i hh => RtkG_c (fun e he => ef _ (by unfold tkA; omega)) (by rw [eo 21 (by decide)]) (by rw [eo 22 (by decide)]) (by rw [eo 23 (by decide)]) (by rw [eo 24 (by decide)]) (fun _ _ => by rw [eo 25 (by decide), eo 26 (by decide)]; exact ⟨rfl, fun _ => rfl⟩) (mono 3) hh
  refine ⟨⟨fun d hd => ?_, fun i hi => ?_, fun i hi => tx i ?_, fun i hi => mt i ?_, fun i hi => ms i ?_, fun i hi => nd i ?_, fun i hi => tk i ?_, ?_, ?_⟩, ec, fun d hd => by rw [eg, upd_ne hd]⟩
  · rw [fS_at, hf1, eg]
    by_cases e : d = c
    · subst e
      rw [upd_at, upd_at, ec]
      exact ⟨rfl, rfl, by omega⟩
    · rw [upd_ne e, upd_ne e, ed d e]
      exact h.1 d hd
  · rw [ef _ (by unfold txA; omega)]
    exact hft i hi
  · by_cases e : c = 0
    · subst e
      rw [ec] at hi
      by_cases ei : i = k
      · rw [ei]; exact n0 rfl
      · exact h0 i (by omega)
    · rw [ed 0 (Ne.symm e)] at hi
      exact h0 i hi
  · by_cases e : c = 1
    · subst e
      rw [ec] at hi
      by_cases ei : i = k
      · rw [ei]; exact n1 rfl
      · exact h1 i (by omega)
    · rw [ed 1 (Ne.symm e)] at hi
      exact h1 i hi
  · by_cases e : c = 2
    · subst e
      rw [ec] at hi
      by_cases ei : i = k
      · rw [ei]; exact n2 rfl
      · exact h2 i (by omega)
    · rw [ed 2 (Ne.symm e)] at hi
      exact h2 i hi
  · by_cases e : c = 3
    · subst e
      rw [ec] at hi
      by_cases ei : i = k
      · rw [ei]; exact n3 rfl
      · exact h3 i (by omega)
    · rw [ed 3 (Ne.symm e)] at hi
      exact h3 i hi
  · by_cases e : c = 4
    · subst e
      rw [ec] at hi
      by_cases ei : i = k
      · rw [ei]; exact n4 rfl
      · exact h4 i (by omega)
    · rw [ed 4 (Ne.symm e)] at hi
      exact h4 i hi
  · exact Rcam_c (by rw [ef _ (by omega), hfc]) (by rw [eo 27 (by decide), hg27]) (by rw [eo 28 (by decide), hg28]) g34 h.2.2.2.2.2.2.2.1
  · exact Rlmp_c (by rw [ef _ (by omega), hfl]) (by rw [eo 29 (by decide), hg29]) g35 h.2.2.2.2.2.2.2.2
