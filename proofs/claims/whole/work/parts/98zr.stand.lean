/-! PURE: the class stands: view, matrices, order -/
section ZST
variable {W H : Nat}
theorem Cls_c {f f' : Nat → Nat → Int32} {s : Nat} {g : Nat → Nat → Int32} (hs : gS s) (F : ∀ b, s < b → b < s + 370 → f' b = f b) (h : Cls f s g) : Cls f' s g := by
  obtain ⟨h0, h1, h3, h4, h6, h7, h8⟩ := h
  have N := Wsc_n h0
  refine ⟨h0, fun c hc => by rw [F _ (by omega) (by omega)]; exact h1 c hc, fun i hi => ?_, fun i hi => ?_, fun i hi => ?_, ?_, ?_⟩
  · obtain ⟨a1, a2, a3⟩ := h3 i hi
    have e := F (s + (4 + i)) (by omega) (by omega)
    exact ⟨fun c hc => by rw [e]; exact a1 c hc, by rw [e]; exact a2, by rw [e]; exact a3⟩
  · obtain ⟨a1, a2, a3, a4, a5, a6⟩ := h4 i hi
    have e := fun q (hq : q < 5) => F (msA s i + q) (by unfold msA; omega) (by unfold msA; omega)
    have e0 := e 0 (by decide)
    rw [Nat.add_zero] at e0
    exact ⟨by rw [e0]; exact a1, by rw [e0]; exact a2, by rw [e0]; exact a3, fun j hj => by rw [e 1 (by decide), e 2 (by decide)]; exact a4 j hj, fun j hj => by rw [e 3 (by decide)]; exact a5 j hj, fun j hj => by rw [e 4 (by decide)]; exact a6 j hj⟩
  · obtain ⟨a1, a2, a3, a4⟩ := h6 i hi
    have e0 := F (ndA s i) (by unfold ndA; omega) (by unfold ndA; omega)
    have e1 := F (ndA s i + 1) (by unfold ndA; omega) (by unfold ndA; omega)
    exact ⟨by rw [e0]; exact a1, by rw [e0]; exact a2, by rw [e0]; exact a3, fun c hc => by rw [e1]; exact a4 c hc⟩
  · have e := F (s + 23) (by omega) (by omega)
    exact ⟨fun c hc => by rw [e]; exact h7.1 c hc, by rw [e]; exact h7.2⟩
  · have e := F (s + 24) (by omega) (by omega)
    exact ⟨fun c hc => by rw [e]; exact h8.1 c hc, by rw [e]; exact h8.2⟩
/-- the sight's own cells may change -/
def sF (m0 m : zMem) : Prop := m.2 = m0.2 ∧ ∀ a, ¬ (1121 ≤ a ∧ a < 1178) → m.1 a = m0.1 a
theorem sF_s {m0 m : zMem} {s : Nat} (hs : gS s) (h : sF m0 m) : ∀ b, s ≤ b → b < s + 370 → m.1 b = m0.1 b := fun b b1 b2 => h.2 b (by rcases hs with e | e | e <;> omega)
theorem e_qu5 {m0 : zMem} {s nd n N : Nat} {l : Nat → Nat} {g : Nat → Nat → Int32} {mw : Nat → Nat → Int64} {vis : Nat → Bool} (hs : gS s) (hR0 : RF m0.2.2) (h7 : m0.2.2 1121 7 = some s) (h : Cls m0.1 s g) (hN : N ≤ 48) (hNc : N ≤ cn g 3) (hsg : sgt m0.1 mw vis N) (hnd : nd < N) (hv : vis nd = true) (hmd : 0 ≤ (g 16 nd).toInt) (hl : ∀ k, k < n → l k < nd ∧ vis (l k) = true ∧ 0 ≤ (g 16 (l k)).toInt) (hn : n < 48) : ∀ (p fuel : Nat) (m : zMem), p ≤ n → p < fuel → m.2 = m0.2 → (∀ a, a ≠ 1175 → m.1 a = m0.1 a) → (∀ k, k < p → m.1 1175 k = nI (l k)) → (∀ k, p < k → k ≤ n → m.1 1175 k = nI (l (k - 1))) → zok (L_XSight_queue_5 (sh0 W H) fuel 1121 (nI nd) (nI p) m) (fun q => q.1 = 1121 ∧ q.2.1 = nI nd ∧ q.2.2.1 = nI (ip (fun k => ahd g (fun i => mw i 11) nd (l k)) p) ∧ q.2.2.2.2 = m0.2 ∧ (∀ a, a ≠ 1175 → q.2.2.2.1 a = m0.1 a) ∧ (∀ k, k < ip (fun k => ahd g (fun i => mw i 11) nd (l k)) p → q.2.2.2.1 1175 k = nI (l k)) ∧ ∀ k, ip (fun k => ahd g (fun i => mw i 11) nd (l k)) p < k → k ≤ n → q.2.2.2.1 1175 k = nI (l (k - 1))) := by
  intro p
  induction p with
  | zero =>
    intro fuel m hp hf h2 ho h3 h4
    obtain ⟨fu, rfl⟩ : ∃ fu, fuel = fu + 1 := ⟨fuel - 1, by omega⟩
    rw [L_XSight_queue_5, if_pos (by decide)]
    exact zok_s ⟨rfl, rfl, rfl, h2, ho, h3, h4⟩
  | succ p ih =>
    intro fuel m hp hf h2 ho h3 h4
    obtain ⟨fu, rfl⟩ : ∃ fu, fuel = fu + 1 := ⟨fuel - 1, by omega⟩
    have hR : RF m.2.2 := by rw [h2]; exact hR0
    have hCm : Cls m.1 s g := Cls_c hs (fun b b1 b2 => ho b (by rcases hs with e | e | e <;> omega)) h
    have hsm : sgt m.1 mw vis N := fun i hi hv k hk => by rw [ho (1127 + i) (by omega)]; exact hsg i hi hv k hk
    have sub1 : nI (p + 1) - 1 = nI p := i32_ext (by
      have e1 : (1 : Int32).toInt = 1 := rfl
      rw [i32_sub (by rw [nI_toInt (by omega), e1]; omega) (by rw [nI_toInt (by omega), e1]; omega), nI_toInt (by omega), nI_toInt (by omega), e1]
      omega)
    have add1 : nI (p + 1) + (-1) = nI p := i32_ext (by
      have e1 : (-1 : Int32).toInt = -1 := rfl
      rw [i32_add (by rw [nI_toInt (by omega), e1]; omega) (by rw [nI_toInt (by omega), e1]; omega), nI_toInt (by omega), nI_toInt (by omega), e1]
      omega)
    obtain ⟨l1, l2, l3⟩ := hl p (by omega)
    have ha := e_gB (W := W) (H := H) (m := m) (a := nd) (b := l p) hs hR (by rw [h2]; exact h7) hCm hN hsm (by omega) (by omega) hnd (by omega) hv l2 hmd l3
    rw [gB_a l1] at ha
    rw [ip, L_XSight_queue_5, if_neg (by rw [show (0 : Int32) = nI 0 from rfl, nI_leD (by omega) (by omega)]; omega), sub1, add1, zoS_h sh_1121, zob_h (rf_1121_10 hR), zoL_e, zoS_h sh_1175, nI_ix (by omega) (by decide), nI_cl (n := p) (by omega), zoS_h sh_1121, zoL_e, h3 p (by omega), zob_h ha]
    dsimp only
    by_cases e : ahd g (fun i => mw i 11) nd (l p) = true
    · rw [if_pos e, if_neg (by rw [e]; decide), zoS_h sh_1121, zob_h (rf_1121_10 hR), zoS_h sh_1121, zob_h (rf_1121_10 hR), zoL_e, zoS_h sh_1175, nI_ix (by omega) (by decide), nI_cl (n := p) (by omega), zoL_e, h3 p (by omega), zoS_h sh_1175, nI_ix (by omega) (by decide), nI_cl (n := p + 1) (by omega), zoL_e]
      refine ih fu (mI m 1175 (p + 1) (nI (l p))) (by omega) (by omega) h2 (fun a ha' => by rw [mI_o ha', ho a ha']) (fun k hk => by rw [mI_v, if_pos rfl, if_neg (by omega), h3 k (by omega)]) (fun k k1 k2 => ?_)
      rw [mI_v, if_pos rfl]
      by_cases e2 : k = p + 1
      · rw [if_pos e2, e2]
        rfl
      · rw [if_neg e2, h4 k (by omega) k2]
    · rw [if_neg e, if_pos (b32_0.mpr (by simpa using e))]
      exact zok_s ⟨rfl, rfl, rfl, h2, ho, h3, h4⟩
theorem e_swap {m : zMem} {a b : Nat} (hR : RF m.2.2) (ha : a < 12) (hb : b < 12) : F_XSight_swapAcross (sh0 W H) m 1121 (nI a) (nI b) = some (mI (mI m 1125 a (m.1 1125 b)) 1125 b (m.1 1125 a)) := by
  have ca := nI_cl (show a < 2147483648 by omega)
  have cb := nI_cl (show b < 2147483648 by omega)
  have hR1 : RF (mI m 1125 a (m.1 1125 b)).2.2 := hR
  unfold F_XSight_swapAcross
  rw [zoS_h sh_1121, zob_h (rf_1121_8 hR), zoS_h sh_1125, nI_ix (by omega) (by decide), ca, zoL_e, zoS_h sh_1121, zob_h (rf_1121_8 hR), zoS_h sh_1121, zob_h (rf_1121_8 hR), zoS_h sh_1125, nI_ix (by omega) (by decide), cb, zoL_e, zoS_h sh_1125, if_neg (fun q => q.elim (nI_pos (by omega)) (by omega)), zoL_e, zoS_h sh_1121, zob_h (rf_1121_8 hR1), zoS_h sh_1125, if_neg (fun q => q.elim (nI_pos (by omega)) (by omega)), zoL_e]
theorem tR_rt (x y z : Int32) (k : Nat) : (tR x y z k).toInt32.toInt64 = tR x y z k := by
  have h := tR_sml x y z k
  unfold sml at h
  exact i64_rt (by omega) (by omega)
theorem bnd_rt (x : Int64) : (sp_MPainter_bound x).toInt32.toInt64 = sp_MPainter_bound x := by
  have := bound_rng x
  exact i64_rt (by omega) (by omega)
theorem vW_rt (f : Nat → Nat → Int32) (r k : Nat) : (vW f r k).toInt32.toInt64 = vW f r k := by
  unfold vW
  split
  · exact bnd_rt _
  · exact tR_rt _ _ _ _
theorem e_pv40 {m0 : zMem} {s r : Nat} {F : Nat → Nat → Int32} (hs : gS s) (hR0 : RF m0.2.2) (hc : ∀ c, c < 3 → m0.1 (s + 23) c = F (r + 27) c) (hv : ∀ k, k < 12 → k % 4 ≠ 3 → m0.1 1125 k = (tR (F (r + 28) 0) (F (r + 28) 1) (F (r + 28) 2) (4 * (k % 4) + k / 4)).toInt32) : ∀ (d i fuel : Nat) (m : zMem), i + d = 3 → d < fuel → m.2 = m0.2 → (∀ a, a ≠ 1125 → m.1 a = m0.1 a) → (∀ k, k < 12 → k % 4 ≠ 3 → m.1 1125 k = m0.1 1125 k) → (∀ k, k < 4 * i → m.1 1125 k = (vW F r k).toInt32) → zok (L_XSight_placeView_40 (sh0 W H) fuel 1121 (s + 23) (nI i) m) (fun q => q.2.2.2.2 = m0.2 ∧ (∀ a, a ≠ 1125 → q.2.2.2.1 a = m0.1 a) ∧ ∀ k, k < 12 → q.2.2.2.1 1125 k = (vW F r k).toInt32) := by
  intro d
  induction d with
  | zero =>
    intro i fuel m hi hf h2 ho h3 h4
    obtain ⟨fu, rfl⟩ : ∃ fu, fuel = fu + 1 := ⟨fuel - 1, by omega⟩
    rw [L_XSight_placeView_40, if_pos (by rw [show (3 : Int32) = nI 3 from rfl, nI_leD (by omega) (by omega)]; omega)]
    exact zok_s ⟨h2, ho, fun k hk => h4 k (by omega)⟩
  | succ d ih =>
    intro i fuel m hi hf h2 ho h3 h4
    obtain ⟨fu, rfl⟩ : ∃ fu, fuel = fu + 1 := ⟨fuel - 1, by omega⟩
    have hR : RF m.2.2 := by rw [h2]; exact hR0
    have e23 : m.1 (s + 23) = m0.1 (s + 23) := ho _ (by rcases hs with e | e | e <;> omega)
    have g3 : 4 * nI i + 3 = nI (4 * i + 3) := nI_4 i 3
    have k0 : (0 : Int32).toNatClampNeg = 0 := rfl
    have k1 : (1 : Int32).toNatClampNeg = 1 := rfl
    have k2 : (2 : Int32).toNatClampNeg = 2 := rfl
    have al := e_along (sh := sh0 W H) (mm := m) (a := 1125) (i := i) (n := 12) sh_1125 (by decide) (by omega) (m.1 (s + 23) 0).toInt64 (m.1 (s + 23) 1).toInt64 (m.1 (s + 23) 2).toInt64
    have v0 : (m.1 1125 (4 * i)).toInt64 = tR (F (r + 28) 0) (F (r + 28) 1) (F (r + 28) 2) i := by rw [h3 _ (by omega) (by omega), hv _ (by omega) (by omega), tR_rt, show 4 * (4 * i % 4) + 4 * i / 4 = i by omega]
    have v1 : (m.1 1125 (4 * i + 1)).toInt64 = tR (F (r + 28) 0) (F (r + 28) 1) (F (r + 28) 2) (4 + i) := by rw [h3 _ (by omega) (by omega), hv _ (by omega) (by omega), tR_rt, show 4 * ((4 * i + 1) % 4) + (4 * i + 1) / 4 = 4 + i by omega]
    have v2 : (m.1 1125 (4 * i + 2)).toInt64 = tR (F (r + 28) 0) (F (r + 28) 1) (F (r + 28) 2) (8 + i) := by rw [h3 _ (by omega) (by omega), hv _ (by omega) (by omega), tR_rt, show 4 * ((4 * i + 2) % 4) + (4 * i + 2) / 4 = 8 + i by omega]
    rw [v0, v1, v2, e23, hc 0 (by decide), hc 1 (by decide), hc 2 (by decide)] at al
    rw [L_XSight_placeView_40, if_neg (by rw [show (3 : Int32) = nI 3 from rfl, nI_leD (by omega) (by omega)]; omega), zoS_h sh_1121, zob_h (rf_1121_8 hR), zoS_h sh_1121, zob_h (rf_1121_8 hR), zoS_h (sh_s23 hs), if_neg (by decide), zoS_h (sh_s23 hs), if_neg (by decide), zoS_h (sh_s23 hs), if_neg (by decide), zoL_e, zoL_e, zoL_e, k0, k1, k2, e23, hc 0 (by decide), hc 1 (by decide), hc 2 (by decide), zob_h al, zoL_e, zoL_e, g3, zoS_h sh_1125, nI_ix (by omega) (by decide), nI_cl (by omega), zoL_e, nI_p1]
    refine ih (i + 1) fu _ (by omega) (by omega) h2 (fun a ha => by rw [mI_o ha]; exact ho a ha) (fun k hk hk3 => by rw [mI_v, if_pos rfl, if_neg (by omega)]; exact h3 k hk hk3) (fun k hk => ?_)
    rw [mI_v, if_pos rfl]
    by_cases e : k = 4 * i + 3
    · rw [if_pos e, e]
      unfold vW
      rw [if_pos (by omega), show (4 * i + 3) / 4 = i by omega]
      apply i32_64inj
      rw [bound_eq, bnd_rt]
      rfl
    · rw [if_neg e]
      by_cases e2 : k < 4 * i
      · exact h4 k e2
      · rw [h3 k (by omega) (by omega), hv k (by omega) (by omega)]
        unfold vW
        rw [if_neg (by omega)]
set_option maxHeartbeats 4000000 in
theorem e_pView {m : zMem} {s r : Nat} {F : Nat → Nat → Int32} (hs : gS s) (hR : RF m.2.2) (h7 : m.2.2 1121 7 = some s) (hc : ∀ c, c < 3 → m.1 (s + 23) c = F (r + 27) c ∧ m.1 (s + 23) (3 + c) = F (r + 28) c) : zok (F_XSight_placeView (sh0 W H) m 1121) (fun m' => m'.2 = m.2 ∧ (∀ a, a ≠ 1125 → m'.1 a = m.1 a) ∧ ∀ k, k < 12 → m'.1 1125 k = (vW F r k).toInt32) := by
  have ht := e_turnc (sh := sh0 W H) (mm := m) (a := s + 23) (t := 1125) (p := 3) (n := 7) (sh_s23 hs) (by decide) sh_1125 (by decide)
  unfold F_XSight_placeView
  rw [zoS_h sh_1121, zob_h h7, zoS_h (sh_s0 hs), zob_h (rf_s6 hR hs), zoS_h sh_1121, zob_h (rf_1121_8 hR), show F_XFixed_turn (sh0 W H) m (s + 23) 3 1125 = _ from ht, zob_e]
  have c0 := (hc 0 (by decide)).2
  have c1 := (hc 1 (by decide)).2
  have c2 := (hc 2 (by decide)).2
  rw [show 3 + 1 = 4 from rfl] at c1
  rw [show 3 + 2 = 5 from rfl] at c2
  rw [Nat.add_zero] at c0
  rw [show 3 + 1 = 4 from rfl, show 3 + 2 = 5 from rfl, c0, c1, c2]
  generalize hm1 : sI m 1125 (fun k => if k < 12 ∧ k % 4 ≠ 3 then (tR (F (r + 28) 0) (F (r + 28) 1) (F (r + 28) 2) k).toInt32 else m.1 1125 k) = m1
  have hR1 : RF m1.2.2 := by rw [← hm1]; exact hR
  have m1v : ∀ k, k < 12 → k % 4 ≠ 3 → m1.1 1125 k = (tR (F (r + 28) 0) (F (r + 28) 1) (F (r + 28) 2) k).toInt32 := fun k k1 k2 => by rw [← hm1, sI_at, if_pos ⟨k1, k2⟩]
  have m1o : ∀ a, a ≠ 1125 → m1.1 a = m.1 a := fun a ha => by rw [← hm1, sI_ne ha]
  have m12 : m1.2 = m.2 := by rw [← hm1]; rfl
  have s1 : F_XSight_swapAcross (sh0 W H) m1 1121 1 4 = _ := e_swap (W := W) (H := H) (m := m1) (a := 1) (b := 4) hR1 (by decide) (by decide)
  rw [zoS_h sh_1121, zob_h s1]
  generalize hm2 : mI (mI m1 1125 1 (m1.1 1125 4)) 1125 4 (m1.1 1125 1) = m2
  have hR2 : RF m2.2.2 := by rw [← hm2]; exact hR1
  have s2 : F_XSight_swapAcross (sh0 W H) m2 1121 2 8 = _ := e_swap (W := W) (H := H) (m := m2) (a := 2) (b := 8) hR2 (by decide) (by decide)
  rw [zoS_h sh_1121, zob_h s2]
  generalize hm3 : mI (mI m2 1125 2 (m2.1 1125 8)) 1125 8 (m2.1 1125 2) = m3
  have hR3 : RF m3.2.2 := by rw [← hm3]; exact hR2
  have s3 : F_XSight_swapAcross (sh0 W H) m3 1121 6 9 = _ := e_swap (W := W) (H := H) (m := m3) (a := 6) (b := 9) hR3 (by decide) (by decide)
  rw [zoS_h sh_1121, zob_h s3]
  generalize hm4 : mI (mI m3 1125 6 (m3.1 1125 9)) 1125 9 (m3.1 1125 6) = m4
  have hR4 : RF m4.2.2 := by rw [← hm4]; exact hR3
  have m42 : m4.2 = m.2 := by rw [← hm4, ← m12, ← hm3, ← hm2]; rfl
  have m4o : ∀ a, a ≠ 1125 → m4.1 a = m.1 a := fun a ha => by rw [← hm4, mI_o ha, mI_o ha, ← hm3, mI_o ha, mI_o ha, ← hm2, mI_o ha, mI_o ha, m1o a ha]
  have m4v : ∀ k, k < 12 → k % 4 ≠ 3 → m4.1 1125 k = (tR (F (r + 28) 0) (F (r + 28) 1) (F (r + 28) 2) (4 * (k % 4) + k / 4)).toInt32 := fun k k1 k2 => by
    rw [← hm4, ← hm3, ← hm2]
    rcases (show k = 0 ∨ k = 1 ∨ k = 2 ∨ k = 4 ∨ k = 5 ∨ k = 6 ∨ k = 8 ∨ k = 9 ∨ k = 10 by omega) with rfl | rfl | rfl | rfl | rfl | rfl | rfl | rfl | rfl <;> simp [mI_v] <;> rw [m1v _ (by decide) (by decide)]
  refine zok_b (show zok (L_XSight_placeView_40 (sh0 W H) zfuel 1121 (s + 23) 0 m4) _ from e_pv40 (W := W) (H := H) (F := F) (r := r) hs hR4 (fun c hc' => by rw [m4o _ (by rcases hs with e | e | e <;> omega)]; exact (hc c hc').1) m4v 3 0 zfuel m4 (by decide) (zf_lt (by decide)) rfl (fun _ _ => rfl) (fun _ _ _ => rfl) (fun k hk => by omega)) (fun q hq => zok_s ⟨hq.1.trans m42, fun a ha => (hq.2.1 a ha).trans (m4o a ha), hq.2.2⟩)
end ZST
