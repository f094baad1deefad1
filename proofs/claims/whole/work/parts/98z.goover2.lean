/-! PURE: the reference's order whole -/
section ZG9
variable {W H : Nat}
theorem ahd_k {g : Nat → Nat → Int32} {ky ky' : Nat → Int64} {a b : Nat} (ha : ky a = ky' a) (hb : ky b = ky' b) : ahd g ky a b = ahd g ky' a b := by
  unfold ahd
  rw [ha, hb]
/-- what the painter may write while it looks for its order -/
def goI : List Nat := [1292, 1294]
def goL : List Nat := [1286, 1287, 1288, 1289, 1290, 1291, 1293]
def go9 (r i : Nat) (m0 m : zMem) : Prop := frm goI goL m0 m ∧ (∀ k, k < (ordS (fun a => m0.1 (r + a)) (visN m0.1 r) (fun k => mW m0.1 r k 11) i).1 → m.1 1294 k = nI ((ordS (fun a => m0.1 (r + a)) (visN m0.1 r) (fun k => mW m0.1 r k 11) i).2 k)) ∧ ∀ k, k < i → visN m0.1 r k = true → m.2.1 1293 k = mW m0.1 r k 11
theorem go_r {r : Nat} {m0 m : zMem} (hr : gM r) (h : frm goI goL m0 m) : ∀ q, q < 30 → m.1 (r + q) = m0.1 (r + q) := fun q hq => h.2.1 _ (by unfold goI; simp; rcases hr with e | e | e <;> omega)
theorem Wsc_p {f : Nat → Nat → Int32} {r : Nat} (h : Wsc (fun a => f (r + a))) : parB (f (r + 15)) (cn (fun a => f (r + a)) 3) ∧ trnB f r (cn (fun a => f (r + a)) 3) ∧ ∀ c, c < 3 → -1048576 ≤ (f (r + 28) c).toInt ∧ (f (r + 28) c).toInt ≤ 1048576 := by
  refine ⟨fun i hi => ?_, fun j hj => ?_, fun c hc => ?_⟩
  · have w := h.2.2.2.1 i hi
    exact ⟨w.1, w.2.1⟩
  · have w := (h.2.2.2.1 (j / 3) (by omega)).2.2.2.2.2 (j % 3) (by omega)
    dsimp only at w
    rw [show 3 * (j / 3) + j % 3 = j by omega] at w
    exact ⟨w.2.2.1, w.2.2.2.1⟩
  · have w := h.2.2.2.2.1.1 c hc
    exact ⟨w.2.2.1, w.2.2.2⟩
theorem vis_m {f : Nat → Nat → Int32} {r i : Nat} (h : visN f r i = true) : 0 ≤ (f (r + 16) i).toInt := by
  unfold visN at h
  simp at h
  exact h.1
theorem wW_g {f g : Nat → Nat → Int32} {r : Nat} (h : ∀ q, q < 30 → f (r + q) = g (r + q)) (i k : Nat) : mW f r i k = mW g r i k := by
  unfold mW
  by_cases hk : k < 12
  · exact pM_c (fun k _ => vW_c (h 27 (by decide)) (h 28 (by decide)) k) (fun k _ => by rw [wW_c h]) hk
  · unfold pM
    rw [if_neg hk, if_neg hk]
theorem visN_g {f g : Nat → Nat → Int32} {r : Nat} (h : ∀ q, q < 30 → f (r + q) = g (r + q)) (i : Nat) : visN f r i = visN g r i := by
  unfold visN
  rw [shn_c h, h 16 (by decide)]
set_option maxHeartbeats 4000000 in
theorem e_go9 {r : Nat} {m0 : zMem} (hr : gM r) (hR0 : RF m0.2.2) (hs0 : m0.2.2 1285 5 = some r) (h : Wsc (fun a => m0.1 (r + a))) : ∀ (d i fuel : Nat) (m : zMem), i + d = cn (fun a => m0.1 (r + a)) 3 → d < fuel → go9 r i m0 m → zok (L_MPainter_goOver_9 (sh0 W H) fuel 1285 (nI (ordS (fun a => m0.1 (r + a)) (visN m0.1 r) (fun k => mW m0.1 r k 11) i).1) (nI i) m) (fun q => q.1 = 1285 ∧ q.2.1 = nI (ordS (fun a => m0.1 (r + a)) (visN m0.1 r) (fun k => mW m0.1 r k 11) (cn (fun a => m0.1 (r + a)) 3)).1 ∧ go9 r (cn (fun a => m0.1 (r + a)) 3) m0 q.2.2.2) := by
  have N := Wsc_n h
  have c3 : m0.1 r 3 = nI (cn (fun a => m0.1 (r + a)) 3) := (h.1 3 (by decide)).1
  obtain ⟨hp, ht, hx⟩ := Wsc_p h
  intro d
  induction d with
  | zero =>
    intro i fuel m hid hf hi
    obtain ⟨fu, rfl⟩ : ∃ fu, fuel = fu + 1 := ⟨fuel - 1, by omega⟩
    have hgr := go_r hr hi.1
    have hR : RF m.2.2 := by rw [hi.1.1]; exact hR0
    have e0 : m.1 r 3 = nI (cn (fun a => m0.1 (r + a)) 3) := (congrFun (hgr 0 (by decide)) 3).trans c3
    rw [L_MPainter_goOver_9, zoS_h sh_1285, zob_h (show m.2.2 1285 5 = some r by rw [hi.1.1]; exact hs0), zoS_h (sh_m0 hr), e0, if_pos (by rw [nI_leD (by omega) (by omega)]; omega)]
    obtain rfl : i = cn (fun a => m0.1 (r + a)) 3 := by omega
    exact zok_s ⟨rfl, rfl, hi⟩
  | succ d ih =>
    intro i fuel m hid hf hi
    obtain ⟨fu, rfl⟩ : ∃ fu, fuel = fu + 1 := ⟨fuel - 1, by omega⟩
    have hgr := go_r hr hi.1
    have hR : RF m.2.2 := by rw [hi.1.1]; exact hR0
    have hs : m.2.2 1285 5 = some r := by rw [hi.1.1]; exact hs0
    have e0 : m.1 r 3 = nI (cn (fun a => m0.1 (r + a)) 3) := (congrFun (hgr 0 (by decide)) 3).trans c3
    have hin : i < cn (fun a => m0.1 (r + a)) 3 := by omega
    have hpm : parB (m.1 (r + 15)) (cn (fun a => m0.1 (r + a)) 3) := by rw [hgr 15 (by decide)]; exact hp
    have hsn := e_seen (W := W) (H := H) hR hs hr (show cn (fun a => m0.1 (r + a)) 3 ≤ 48 by omega) hpm hin
    rw [visN_g hgr] at hsn
    rw [L_MPainter_goOver_9, zoS_h sh_1285, zob_h hs, zoS_h (sh_m0 hr), e0, if_neg (by rw [nI_leD (by omega) (by omega)]; omega), zoS_h sh_1285, zob_h hsn]
    dsimp only
    obtain ⟨hfr, ho, hk⟩ := hi
    have hob := ord_b (g := fun a => m0.1 (r + a)) (vis := visN m0.1 r) (ky := fun k => mW m0.1 r k 11) i
    by_cases e : visN m0.1 r i = true
    · rw [if_neg (by rw [e]; decide), zoS_h sh_1285]
      refine zok_b (e_toMatrix (W := W) (H := H) hR hs hr hin (show cn (fun a => m0.1 (r + a)) 3 ≤ 48 by omega) (fun j hj => by rw [hgr 18 (by decide)]; exact ht j hj) hpm (fun c hc => by rw [hgr 28 (by decide)]; exact hx c hc)) (fun m1 h1 => ?_)
      obtain ⟨f1, _, f3⟩ := h1
      have hR1 : RF m1.2.2 := by rw [f1.1]; exact hR
      rw [zoS_h sh_1285, zob_h (rf_1285_21 hR1), zoS_h sh_1285, zob_h (rf_1285_16 hR1), zoS_h sh_1288, if_neg (by decide), zoL_e, zoS_h sh_1293, nI_ix (by omega) (by decide), nI_cl (n := i) (by omega), zoL_e]
      have ky : m1.2.1 1288 (11 : Int32).toNatClampNeg = mW m0.1 r i 11 := by
        rw [show (11 : Int32).toNatClampNeg = 11 from rfl, f3 11 (by decide), wW_g hgr]
      rw [ky]
      have f2 : frm goI goL m0 (mL m1 1293 i (mW m0.1 r i 11)) := by
        have q1 : frm goI goL m0 m1 := ⟨f1.1.trans hfr.1, fun k hk => (f1.2.1 k (fun q => hk (by unfold goI; simp at q ⊢; omega))).trans (hfr.2.1 k hk), fun k hk => (f1.2.2 k (fun q => hk (by unfold goL; simp at q ⊢; omega))).trans (hfr.2.2 k hk)⟩
        exact ⟨q1.1, q1.2.1, fun k hk => by rw [mL_o (fun q => hk (by rw [q]; unfold goL; simp))]; exact q1.2.2 k hk⟩
      have hgr2 := go_r hr f2
      have hk2 : ∀ k, k < i + 1 → visN m0.1 r k = true → (mL m1 1293 i (mW m0.1 r i 11)).2.1 1293 k = mW m0.1 r k 11 := fun k hk' hv => by
        rw [mL_v, if_pos rfl]
        by_cases e2 : k = i
        · rw [if_pos e2, e2]
        · rw [if_neg e2, f1.2.2 1293 (by decide)]
          exact hk k (by omega) hv
      have ho2 : ∀ k, k < (ordS (fun a => m0.1 (r + a)) (visN m0.1 r) (fun k => mW m0.1 r k 11) i).1 → (mL m1 1293 i (mW m0.1 r i 11)).1 1294 k = nI ((ordS (fun a => m0.1 (r + a)) (visN m0.1 r) (fun k => mW m0.1 r k 11) i).2 k) := fun k hk' => by
        rw [mL_1, f1.2.1 1294 (by decide)]
        exact ho k hk'
      have hR2 : RF (mL m1 1293 i (mW m0.1 r i 11)).2.2 := hR1
      have hs2 : (mL m1 1293 i (mW m0.1 r i 11)).2.2 1285 5 = some r := by rw [f2.1]; exact hs0
      generalize mL m1 1293 i (mW m0.1 r i 11) = m2 at f2 hgr2 hk2 ho2 hR2 hs2
      generalize hOS : ordS (fun a => m0.1 (r + a)) (visN m0.1 r) (fun k => mW m0.1 r k 11) i = OS at ho2 hob
      have hW2 : Wsc (fun a => m2.1 (r + a)) := Wsc_g hgr2 h
      have hc2 : cn (fun a => m2.1 (r + a)) 3 = cn (fun a => m0.1 (r + a)) 3 := cn_g hgr2
      refine zok_b (e_go48 (W := W) (H := H) (m0 := m2) (nd := i) (n := OS.1) (l := OS.2) hr hs2 hR2 hW2 (by rw [hc2]; exact hin) (by rw [hgr2 16 (by decide)]; exact vis_m e) (fun k hk' => ⟨by rw [hc2]; have := (hob.2 k hk').1; omega, by rw [hgr2 16 (by decide)]; exact vis_m (hob.2 k hk').2⟩) (by omega) OS.1 zfuel m2 (Nat.le_refl _) (zf_lt (by omega)) rfl (fun _ _ => rfl) ho2 (fun k k1 k2 => by omega)) (fun q hq => ?_)
      obtain ⟨q0, q1, q2, q3, m3⟩ := q
      obtain ⟨p1, p2, p3, p4, p5, p6, p7, p8⟩ := hq
      simp only at p1 p2 p3 p4 p5 p6 p7 p8
      have hip : ip (fun k => ahd (fun a => m2.1 (r + a)) (m2.2.1 1293) i (OS.2 k)) OS.1 = ip (fun k => ahd (fun a => m0.1 (r + a)) (fun k => mW m0.1 r k 11) i (OS.2 k)) OS.1 := ip_c _ (fun k hk' => by
        rw [ahd_g hgr2]
        exact ahd_k (hk2 i (by omega) e) (hk2 _ (by have := (hob.2 k hk').1; omega) (hob.2 k hk').2))
      rw [hip] at p4 p7 p8
      have hpl := ip_le (q := fun k => ahd (fun a => m0.1 (r + a)) (fun k => mW m0.1 r k 11) i (OS.2 k)) OS.1
      have hOS2 : ordS (fun a => m0.1 (r + a)) (visN m0.1 r) (fun k => mW m0.1 r k 11) (i + 1) = (OS.1 + 1, insF OS.2 (ip (fun k => ahd (fun a => m0.1 (r + a)) (fun k => mW m0.1 r k 11) i (OS.2 k)) OS.1) i) := by
        rw [ordS, if_pos e, hOS]
      generalize ip (fun k => ahd (fun a => m0.1 (r + a)) (fun k => mW m0.1 r k 11) i (OS.2 k)) OS.1 = P at p4 p7 p8 hpl hOS2
      subst p1 p2 p3 p4
      have hR3 : RF m3.2.2 := by rw [p5]; exact hR2
      dsimp only
      rw [zoS_h sh_1285, zob_h (rf_1285_22 hR3), zoS_h sh_1294, nI_ix (by omega) (by decide), nI_cl (n := P) (by omega), zoL_e, nI_p1, nI_p1]
      have hgo := ih (i + 1) fu (mI m3 1294 P (nI i)) (by omega) (by omega) ⟨⟨by rw [mI_R, p5]; exact f2.1, fun k hk' => ?_, fun k hk' => ?_⟩, fun k hk' => ?_, fun k hk' hv => ?_⟩
      · rw [hOS2] at hgo
        exact hgo
      · rw [mI_o (fun q => hk' (by rw [q]; unfold goI; simp)), p6 k (fun q => hk' (by rw [q]; unfold goI; simp))]
        exact f2.2.1 k hk'
      · show m3.2.1 k = _
        rw [p5]
        exact f2.2.2 k hk'
      · rw [hOS2] at hk' ⊢
        have hk' : k < OS.1 + 1 := hk'
        show _ = nI (insF OS.2 P i k)
        unfold insF
        rw [mI_v, if_pos rfl]
        by_cases a : k < P
        · rw [if_neg (by omega), if_pos a, p7 k a]
        · by_cases b : k = P
          · rw [if_pos b, if_neg a, if_pos b]
          · rw [if_neg b, if_neg a, if_neg b, p8 k (by omega) (by omega)]
      · show m3.2.1 1293 k = _
        rw [p5]
        exact hk2 k hk' hv
    · rw [if_pos (b32_0.mpr (by simpa using e)), nI_p1]
      have hOS2 : ordS (fun a => m0.1 (r + a)) (visN m0.1 r) (fun k => mW m0.1 r k 11) (i + 1) = ordS (fun a => m0.1 (r + a)) (visN m0.1 r) (fun k => mW m0.1 r k 11) i := by
        rw [ordS, if_neg e]
      have hgo := ih (i + 1) fu m (by omega) (by omega) ⟨hfr, by rw [hOS2]; exact ho, fun k hk' hv => by
        by_cases e2 : k = i
        · rw [e2] at hv; exact absurd hv e
        · exact hk k (by omega) hv⟩
      rw [hOS2] at hgo
      exact hgo
end ZG9
