/-! PURE: the reference finds its order -/
section ZGO
variable {W H : Nat}
theorem e_seen16 {m : zMem} {r n : Nat} (hR : RF m.2.2) (hs : m.2.2 1285 5 = some r) (hr : gM r) (hn : n ≤ 48) (hp : parB (m.1 (r + 15)) n) : ∀ (i fuel : Nat), i < n → i + 1 < fuel → zok (L_MPainter_seen_16 (sh0 W H) fuel 1285 (nI i) m) (fun q => q.2.2.2.2 = m ∧ q.2.1 = 0 ∧ q.1 = if shn m.1 r i then 1 else 0) := by
  intro i
  induction i using Nat.strongRecOn with
  | _ i ih =>
    intro fuel hi hf
    obtain ⟨fu, rfl⟩ : ∃ fu, fuel = fu + 1 := ⟨fuel - 1, by omega⟩
    rw [L_MPainter_seen_16, if_neg (nI_pos (by omega)), zoS_h sh_1285, zob_h hs, zoS_h (sh_m0 hr), zob_h (rf_m24 hR hr), zoS_h (sh_m20 hr), nI_ix (by omega) (by decide), nI_cl (by omega)]
    by_cases p0 : m.1 (r + 15) i < 0
    · rw [shn_root p0]
      by_cases e : m.1 (r + 20) i = 0
      · rw [if_pos e, zoS_h sh_1285, zob_h hs, zoS_h (sh_m0 hr), zob_h (rf_m19 hR hr), zoS_h (sh_m15 hr), if_neg (fun q => q.elim (nI_pos (by omega)) (by omega)), zoL_e]
        obtain ⟨f2, rfl⟩ : ∃ f2, fu = f2 + 1 := ⟨fu - 1, by omega⟩
        rw [L_MPainter_seen_16, if_pos p0]
        exact zok_s ⟨rfl, rfl, by simp [e]⟩
      · rw [if_neg e]
        exact zok_s ⟨rfl, rfl, by simp [e]⟩
    · rw [shn_step hp hi p0]
      obtain ⟨q1, q2⟩ := par_nI hp hi p0
      by_cases e : m.1 (r + 20) i = 0
      · rw [if_pos e, zoS_h sh_1285, zob_h hs, zoS_h (sh_m0 hr), zob_h (rf_m19 hR hr), zoS_h (sh_m15 hr), if_neg (fun q => q.elim (nI_pos (by omega)) (by omega)), zoL_e, q1]
        refine zok_w (ih _ q2 fu (by omega) (by omega)) (fun q hq => ⟨hq.1, hq.2.1, ?_⟩)
        rw [hq.2.2, ← q1]
        simp [e]
      · rw [if_neg e]
        exact zok_s ⟨rfl, rfl, by simp [e]⟩
/-- a node that is seen: it has a mesh and no hidden node above -/
def visN (f : Nat → Nat → Int32) (r i : Nat) : Bool := decide (0 ≤ (f (r + 16) i).toInt) && shn f r i
theorem e_seen {m : zMem} {r n i : Nat} (hR : RF m.2.2) (hs : m.2.2 1285 5 = some r) (hr : gM r) (hn : n ≤ 48) (hp : parB (m.1 (r + 15)) n) (hi : i < n) : F_MPainter_seen (sh0 W H) m 1285 (nI i) = some (b32 (visN m.1 r i), m) := by
  have e0 : (0 : Int32).toInt = 0 := rfl
  unfold F_MPainter_seen visN
  rw [zoS_h sh_1285, zob_h hs, zoS_h (sh_m0 hr), zob_h (rf_m20 hR hr), zoS_h (sh_m16 hr), nI_ix (by omega) (by decide), nI_cl (by omega)]
  by_cases e : 0 ≤ (m.1 (r + 16) i).toInt
  · obtain ⟨⟨q0, q1, q2, q3, q4⟩, a1, a2, a3, a4⟩ := e_seen16 (W := W) (H := H) hR hs hr hn hp i zfuel hi (zf_lt (by omega))
    simp only at a2 a3 a4
    rw [if_pos (by rw [i32_le, e0]; exact e), zob_h a1]
    dsimp only
    subst a2 a3 a4
    cases shn q4.1 r i with
    | true => simp [e, b32]
    | false => simp [b32]
  · rw [if_neg (by rw [i32_le, e0]; exact e)]
    simp [e, b32]
theorem cn_g {g g' : Nat → Nat → Int32} {c : Nat} (h : ∀ a, a < 30 → g' a = g a) : cn g' c = cn g c := by
  unfold cn
  rw [h 0 (by decide)]
theorem sol_g {g g' : Nat → Nat → Int32} {i : Nat} (h : ∀ a, a < 30 → g' a = g a) : sol g' i = sol g i := by
  unfold sol mtN msN
  simp only [h 5 (by decide), h 8 (by decide), h 16 (by decide)]
theorem ahd_g {g g' : Nat → Nat → Int32} {ky : Nat → Int64} {a b : Nat} (h : ∀ a, a < 30 → g' a = g a) : ahd g' ky a b = ahd g ky a b := by
  unfold ahd
  rw [sol_g h, sol_g h]
theorem Wsc_g {g g' : Nat → Nat → Int32} (h : ∀ a, a < 30 → g' a = g a) (w : Wsc g) : Wsc g' := by
  obtain ⟨w1, w2, w3, w4, w5, w6⟩ := w
  have c : ∀ c, cn g' c = cn g c := fun c => cn_g h
  have z0 := h 0 (by decide)
  refine ⟨fun k hk => ?_, fun i hi => ?_, fun i hi => ?_, fun i hi => ?_, ?_, ?_⟩
  · rw [c, z0]; exact w1 k hk
  · rw [c] at hi
    unfold WmtG; rw [h 5 (by decide), h 6 (by decide), h 7 (by decide), z0]; exact w2 i hi
  · rw [c] at hi
    unfold WmsG; rw [h 8 (by decide), h 9 (by decide), h 10 (by decide), h 11 (by decide), h 12 (by decide), h 13 (by decide), h 14 (by decide), z0]; exact w3 i hi
  · rw [c] at hi
    unfold WndG; rw [h 15 (by decide), h 16 (by decide), h 17 (by decide), h 18 (by decide), h 19 (by decide), h 20 (by decide), z0]; exact w4 i hi
  · unfold Wcam; rw [h 27 (by decide), h 28 (by decide), z0]; exact w5
  · unfold Wlmp; rw [h 29 (by decide), z0]; exact w6
/-- the order as it stands in the memory -/
def ordM (l : Nat → Nat) (n : Nat) (f : Nat → Int32) : Prop := ∀ k, k < n → f k = nI (l k)
theorem e_go48 {m0 : zMem} {r nd n : Nat} {l : Nat → Nat} (hr : gM r) (hs0 : m0.2.2 1285 5 = some r) (hR0 : RF m0.2.2) (h : Wsc (fun a => m0.1 (r + a))) (hnd : nd < cn (fun a => m0.1 (r + a)) 3) (hmd : 0 ≤ (m0.1 (r + 16) nd).toInt) (hl : ∀ k, k < n → l k < cn (fun a => m0.1 (r + a)) 3 ∧ 0 ≤ (m0.1 (r + 16) (l k)).toInt) (hn : n < 48) : ∀ (p fuel : Nat) (m : zMem), p ≤ n → p < fuel → m.2 = m0.2 → (∀ a, a ≠ 1294 → m.1 a = m0.1 a) → (∀ k, k < p → m.1 1294 k = nI (l k)) → (∀ k, p < k → k ≤ n → m.1 1294 k = nI (l (k - 1))) → zok (L_MPainter_goOver_48 (sh0 W H) fuel 1285 (nI n) (nI nd) (nI p) m) (fun q => q.1 = 1285 ∧ q.2.1 = nI n ∧ q.2.2.1 = nI nd ∧ q.2.2.2.1 = nI (ip (fun k => ahd (fun a => m0.1 (r + a)) (m0.2.1 1293) nd (l k)) p) ∧ q.2.2.2.2.2 = m0.2 ∧ (∀ a, a ≠ 1294 → q.2.2.2.2.1 a = m0.1 a) ∧ (∀ k, k < ip (fun k => ahd (fun a => m0.1 (r + a)) (m0.2.1 1293) nd (l k)) p → q.2.2.2.2.1 1294 k = nI (l k)) ∧ ∀ k, ip (fun k => ahd (fun a => m0.1 (r + a)) (m0.2.1 1293) nd (l k)) p < k → k ≤ n → q.2.2.2.2.1 1294 k = nI (l (k - 1))) := by
  intro p
  induction p with
  | zero =>
    intro fuel m hp hf h2 ho h3 h4
    obtain ⟨fu, rfl⟩ : ∃ fu, fuel = fu + 1 := ⟨fuel - 1, by omega⟩
    rw [L_MPainter_goOver_48, if_pos (by decide)]
    exact zok_s ⟨rfl, rfl, rfl, rfl, h2, ho, h3, h4⟩
  | succ p ih =>
    intro fuel m hp hf h2 ho h3 h4
    obtain ⟨fu, rfl⟩ : ∃ fu, fuel = fu + 1 := ⟨fuel - 1, by omega⟩
    have N := Wsc_n h
    have hR : RF m.2.2 := by rw [h2]; exact hR0
    have hs : m.2.2 1285 5 = some r := by rw [h2]; exact hs0
    have hg : ∀ a, m.1 (r + a) = m0.1 (r + a) ∨ r + a = 1294 := fun a => by
      by_cases e : r + a = 1294
      · exact Or.inr e
      · exact Or.inl (ho _ e)
    have hgg : ∀ a, a < 30 → m.1 (r + a) = m0.1 (r + a) := fun a ha => ho _ (by rcases hr with e | e | e <;> omega)
    have sub1 : nI (p + 1) - 1 = nI p := i32_ext (by
      have e1 : (1 : Int32).toInt = 1 := rfl
      rw [i32_sub (by rw [nI_toInt (by omega), e1]; omega) (by rw [nI_toInt (by omega), e1]; omega), nI_toInt (by omega), nI_toInt (by omega), e1]
      omega)
    have add1 : nI (p + 1) + (-1) = nI p := i32_ext (by
      have e1 : (-1 : Int32).toInt = -1 := rfl
      rw [i32_add (by rw [nI_toInt (by omega), e1]; omega) (by rw [nI_toInt (by omega), e1]; omega), nI_toInt (by omega), nI_toInt (by omega), e1]
      omega)
    have hW : Wsc (fun a => m.1 (r + a)) ∧ cn (fun a => m.1 (r + a)) 3 = cn (fun a => m0.1 (r + a)) 3 ∧ ahd (fun a => m.1 (r + a)) (m.2.1 1293) nd (l p) = ahd (fun a => m0.1 (r + a)) (m0.2.1 1293) nd (l p) := ⟨Wsc_g hgg h, cn_g hgg, by rw [h2]; exact ahd_g hgg⟩
    obtain ⟨hl1, hl2⟩ := hl p (by omega)
    have ha := e_ahd (W := W) (H := H) (m := m) (a := nd) (b := l p) hR hs hr hW.1 (by rw [hW.2.1]; exact hnd) (by rw [hW.2.1]; exact hl1) (by rw [hgg 16 (by decide)]; exact hmd) (by rw [hgg 16 (by decide)]; exact hl2)
    rw [hW.2.2] at ha
    rw [ip, L_MPainter_goOver_48, if_neg (by rw [show (0 : Int32) = nI 0 from rfl, nI_leD (by omega) (by omega)]; omega), sub1, add1, zoS_h sh_1285, zob_h (rf_1285_22 hR), zoL_e, zoS_h sh_1294, nI_ix (by omega) (by decide), nI_cl (n := p) (by omega), zoS_h sh_1285, zoL_e, h3 p (by omega), zob_h ha]
    dsimp only
    by_cases e : ahd (fun a => m0.1 (r + a)) (m0.2.1 1293) nd (l p) = true
    · rw [if_pos e, if_neg (by rw [e]; decide), zoS_h sh_1285, zob_h (rf_1285_22 hR), zoS_h sh_1285, zob_h (rf_1285_22 hR), zoL_e, zoS_h sh_1294, nI_ix (by omega) (by decide), nI_cl (n := p) (by omega), zoL_e, h3 p (by omega), zoS_h sh_1294, nI_ix (by omega) (by decide), nI_cl (n := p + 1) (by omega), zoL_e]
      refine ih fu (mI m 1294 (p + 1) (nI (l p))) (by omega) (by omega) h2 (fun a ha' => by rw [mI_o ha', ho a ha']) (fun k hk => by rw [mI_v, if_pos rfl, if_neg (by omega), h3 k (by omega)]) (fun k k1 k2 => ?_)
      rw [mI_v, if_pos rfl]
      by_cases e2 : k = p + 1
      · rw [if_pos e2, e2]
        rfl
      · rw [if_neg e2, h4 k (by omega) k2]
    · rw [if_neg e, if_pos (b32_0.mpr (by simpa using e))]
      exact zok_s ⟨rfl, rfl, rfl, rfl, h2, ho, h3, h4⟩
end ZGO
