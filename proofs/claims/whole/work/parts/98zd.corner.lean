/-! PURE: the reference's corners -/
def lgD (Wd : Nat → Int64) (f : Nat → Nat → Int32) (r t : Nat) : Int64 := (sp_MPainter_mul (apD Wd 0 (f (r + 12) t).toInt64 (f (r + 12) (t + 1)).toInt64 (f (r + 12) (t + 2)).toInt64) (f (r + 29) 0).toInt64 + sp_MPainter_mul (apD Wd 1 (f (r + 12) t).toInt64 (f (r + 12) (t + 1)).toInt64 (f (r + 12) (t + 2)).toInt64) (f (r + 29) 1).toInt64) + sp_MPainter_mul (apD Wd 2 (f (r + 12) t).toInt64 (f (r + 12) (t + 1)).toInt64 (f (r + 12) (t + 2)).toInt64) (f (r + 29) 2).toInt64
def lgL (d amb : Int64) : Int64 := if 0 ≤ lg_cmp (amb + (if lg_cmp d 0 ≤ 0 then 0 else d)) 65536 then 65536 else amb + (if lg_cmp d 0 ≤ 0 then 0 else d)
/-- corner of point p of mesh ms -/
def crn (M Wd : Nat → Int64) (f : Nat → Nat → Int32) (r ms p : Nat) : Nat → Int64 := fun k => if k < 3 then apP M k (f (r + 11) (384 * ms + 3 * p)).toInt64 (f (r + 11) (384 * ms + 3 * p + 1)).toInt64 (f (r + 11) (384 * ms + 3 * p + 2)).toInt64 else if k = 3 then (f (r + 13) (256 * ms + 2 * p)).toInt64 else if k = 4 then (f (r + 13) (256 * ms + 2 * p + 1)).toInt64 else lgL (lgD Wd f r (384 * ms + 3 * p)) (f r 35).toInt64
section ZCR
variable {W H : Nat}
theorem nI_6 (w c : Nat) : 6 * nI w + nI c = nI (6 * w + c) := by
  rw [show (6 : Int32) = nI 6 from rfl, nI_mul]
  exact (Int32.ofNat_add _ _).symm
theorem nI_384 (a b : Nat) : 384 * nI a + 3 * nI b = nI (384 * a + 3 * b) := by
  rw [show (384 : Int32) = nI 384 from rfl, show (3 : Int32) = nI 3 from rfl, nI_mul, nI_mul]
  exact (Int32.ofNat_add _ _).symm
theorem nI_256 (a b : Nat) : 256 * nI a + 2 * nI b = nI (256 * a + 2 * b) := by
  rw [show (256 : Int32) = nI 256 from rfl, show (2 : Int32) = nI 2 from rfl, nI_mul, nI_mul]
  exact (Int32.ofNat_add _ _).symm
theorem e_tc3 {m : zMem} {r ms c p i fu : Nat} (hr : gM r) (hR : RF m.2.2) (hs : m.2.2 1285 5 = some r) (hms : ms < 16) (hc : c < 20) (hp : p < 128) (hi : i < 3) : L_MPainter_toCorner_3 (sh0 W H) (fu + 1) 1285 (nI ms) (nI c) (nI p) (nI i) m = L_MPainter_toCorner_3 (sh0 W H) fu 1285 (nI ms) (nI c) (nI p) (nI (i + 1)) (mL m 1295 (6 * c + i) (apP (m.2.1 1288) i (m.1 (r + 11) (384 * ms + 3 * p)).toInt64 (m.1 (r + 11) (384 * ms + 3 * p + 1)).toInt64 (m.1 (r + 11) (384 * ms + 3 * p + 2)).toInt64)) := by
  have ha := e_applied (W := W) (H := H) (m := m) (a := 1288) (A := r + 11) (n := 6144) (i := i) (t := 384 * ms + 3 * p) (x4 := 1) sh_1288 (sh_m11 hr) hi (by omega) (by decide)
  rw [if_neg (show ¬ ((1 : Int32) = 0) by decide)] at ha
  conv => lhs; unfold L_MPainter_toCorner_3
  rw [if_neg (by rw [show (3 : Int32) = nI 3 from rfl, nI_leD (by omega) (by omega)]; omega), zoS_h sh_1285, zob_h (rf_1285_23 hR), zoS_h sh_1285, zob_h (rf_1285_16 hR), zoS_h sh_1285, zob_h hs, zoS_h (sh_m0 hr), zob_h (rf_m15 hR hr), nI_384, zob_h ha, zoL_e, nI_6, zoS_h sh_1295, nI_ix (by omega) (by decide), nI_cl (by omega), zoL_e, nI_p1]
theorem e_tc119 {m : zMem} {r ms c p i fu : Nat} {d : Int64} (hr : gM r) (hR : RF m.2.2) (hs : m.2.2 1285 5 = some r) (hms : ms < 16) (hp : p < 128) (hi : i < 3) : L_MPainter_toCorner_119 (sh0 W H) (fu + 1) 1285 (nI ms) (nI c) (nI p) d (nI i) m = L_MPainter_toCorner_119 (sh0 W H) fu 1285 (nI ms) (nI c) (nI p) (d + sp_MPainter_mul (apD (m.2.1 1286) i (m.1 (r + 12) (384 * ms + 3 * p)).toInt64 (m.1 (r + 12) (384 * ms + 3 * p + 1)).toInt64 (m.1 (r + 12) (384 * ms + 3 * p + 2)).toInt64) (m.1 (r + 29) i).toInt64) (nI (i + 1)) m := by
  have ha := e_applied (W := W) (H := H) (m := m) (a := 1286) (A := r + 12) (n := 6144) (i := i) (t := 384 * ms + 3 * p) (x4 := 0) sh_1286 (sh_m12 hr) hi (by omega) (by decide)
  rw [if_pos rfl] at ha
  conv => lhs; unfold L_MPainter_toCorner_119
  rw [if_neg (by rw [show (3 : Int32) = nI 3 from rfl, nI_leD (by omega) (by omega)]; omega), zoS_h sh_1285, zob_h (rf_1285_14 hR), zoS_h sh_1285, zob_h hs, zoS_h (sh_m0 hr), zob_h (rf_m16 hR hr), nI_384, zob_h ha, zoS_h sh_1285, zob_h hs, zoS_h (sh_m0 hr), zob_h (rf_m33 hR hr), zoS_h (sh_m29 hr), nI_ix (by omega) (by decide), nI_cl (by omega), zoL_e, zoL_e, nI_p1]
set_option maxHeartbeats 4000000 in
theorem e_toCorner {m : zMem} {r ms c p : Nat} (hr : gM r) (hR : RF m.2.2) (hs : m.2.2 1285 5 = some r) (hms : ms < 16) (hc : c < 20) (hp : p < 128) : zok (F_MPainter_toCorner (sh0 W H) m 1285 (nI ms) (nI c) (nI p)) (fun m' => frm [] [1295] m m' ∧ (∀ k, k < 6 → m'.2.1 1295 (6 * c + k) = crn (m.2.1 1288) (m.2.1 1286) m.1 r ms p k) ∧ ∀ q, ¬ (6 * c ≤ q ∧ q < 6 * c + 6) → m'.2.1 1295 q = m.2.1 1295 q) := by
  have V : ∀ k, k < 3 → apP (m.2.1 1288) k (m.1 (r + 11) (384 * ms + 3 * p)).toInt64 (m.1 (r + 11) (384 * ms + 3 * p + 1)).toInt64 (m.1 (r + 11) (384 * ms + 3 * p + 2)).toInt64 = crn (m.2.1 1288) (m.2.1 1286) m.1 r ms p k := fun k hk => by unfold crn; rw [if_pos hk]
  have st : ∀ (m' : zMem) (i fu : Nat), i < 3 → m'.1 = m.1 → m'.2.2 = m.2.2 → (∀ a, a ≠ 1295 → m'.2.1 a = m.2.1 a) → L_MPainter_toCorner_3 (sh0 W H) (fu + 1) 1285 (nI ms) (nI c) (nI p) (nI i) m' = L_MPainter_toCorner_3 (sh0 W H) fu 1285 (nI ms) (nI c) (nI p) (nI (i + 1)) (mL m' 1295 (6 * c + i) (crn (m.2.1 1288) (m.2.1 1286) m.1 r ms p i)) := fun m' i fu hi q1 q2 q3 => by
    rw [e_tc3 (W := W) (H := H) (m := m') hr (by rw [q2]; exact hR) (by rw [q2]; exact hs) hms hc hp hi, q1, q3 1288 (by decide), V i hi]
  have m3e : Option.bind (L_MPainter_toCorner_3 (sh0 W H) zfuel 1285 (nI ms) (nI c) (nI p) (nI 0) m) some = some (1285, nI ms, nI c, nI p, nI 3, mL (mL (mL m 1295 (6 * c + 0) (crn (m.2.1 1288) (m.2.1 1286) m.1 r ms p 0)) 1295 (6 * c + 1) (crn (m.2.1 1288) (m.2.1 1286) m.1 r ms p 1)) 1295 (6 * c + 2) (crn (m.2.1 1288) (m.2.1 1286) m.1 r ms p 2)) := by
    rw [show zfuel = 999996 + 1 + 1 + 1 + 1 from nrfl rfl, st m 0 _ (by decide) rfl rfl (fun _ _ => rfl)]
    rw [st (mL m 1295 (6 * c + 0) (crn (m.2.1 1288) (m.2.1 1286) m.1 r ms p 0)) 1 _ (by decide) rfl rfl (fun a ha => mL_o ha)]
    rw [st (mL (mL m 1295 (6 * c + 0) (crn (m.2.1 1288) (m.2.1 1286) m.1 r ms p 0)) 1295 (6 * c + 1) (crn (m.2.1 1288) (m.2.1 1286) m.1 r ms p 1)) 2 _ (by decide) rfl rfl (fun a ha => by rw [mL_o ha, mL_o ha])]
    rw [L_MPainter_toCorner_3, if_pos (by decide)]
    rfl
  have m3 : L_MPainter_toCorner_3 (sh0 W H) zfuel 1285 (nI ms) (nI c) (nI p) 0 m = some (1285, nI ms, nI c, nI p, nI 3, mL (mL (mL m 1295 (6 * c + 0) (crn (m.2.1 1288) (m.2.1 1286) m.1 r ms p 0)) 1295 (6 * c + 1) (crn (m.2.1 1288) (m.2.1 1286) m.1 r ms p 1)) 1295 (6 * c + 2) (crn (m.2.1 1288) (m.2.1 1286) m.1 r ms p 2)) := by
    rw [← m3e, show (0 : Int32) = nI 0 from rfl]
    cases L_MPainter_toCorner_3 (sh0 W H) zfuel 1285 (nI ms) (nI c) (nI p) (nI 0) m <;> rfl
  generalize hD : crn (m.2.1 1288) (m.2.1 1286) m.1 r ms p = D at m3
  have d3 : D 3 = (m.1 (r + 13) (256 * ms + 2 * p)).toInt64 := by rw [← hD]; unfold crn; rw [if_neg (by decide), if_pos rfl]
  have d4 : D 4 = (m.1 (r + 13) (256 * ms + 2 * p + 1)).toInt64 := by rw [← hD]; unfold crn; rw [if_neg (by decide), if_neg (by decide), if_pos rfl]
  have d5 : D 5 = lgL (lgD (m.2.1 1286) m.1 r (384 * ms + 3 * p)) (m.1 r 35).toInt64 := by rw [← hD]; unfold crn; rw [if_neg (by decide), if_neg (by decide), if_neg (by decide)]
  have i3 : 6 * nI c + 3 = nI (6 * c + 3) := nI_6 c 3
  have i4 : 6 * nI c + 4 = nI (6 * c + 4) := nI_6 c 4
  have i5 : 6 * nI c + 5 = nI (6 * c + 5) := nI_6 c 5
  have p1 : nI (256 * ms + 2 * p) + 1 = nI (256 * ms + 2 * p + 1) := nI_p1 _
  generalize hm3 : mL (mL (mL m 1295 (6 * c + 0) (D 0)) 1295 (6 * c + 1) (D 1)) 1295 (6 * c + 2) (D 2) = mA at m3
  have fA : mA.1 = m.1 ∧ mA.2.2 = m.2.2 ∧ ∀ a, a ≠ 1295 → mA.2.1 a = m.2.1 a := by
    rw [← hm3]
    exact ⟨rfl, rfl, fun a ha => by rw [mL_o ha, mL_o ha, mL_o ha]⟩
  have hRA : RF mA.2.2 := by rw [fA.2.1]; exact hR
  have hsA : mA.2.2 1285 5 = some r := by rw [fA.2.1]; exact hs
  unfold F_MPainter_toCorner
  rw [zob_h m3]
  dsimp only
  rw [zoS_h sh_1285, zob_h (rf_1285_23 hRA), zoS_h sh_1285, zob_h hsA, zoS_h (sh_m0 hr), zob_h (rf_m17 hRA hr), zoL_e, nI_256, p1, i3, i4, zoS_h (sh_m13 hr), nI_ix (by omega) (by decide), nI_cl (n := 256 * ms + 2 * p) (by omega), zoL_e, zoL_e, zoS_h sh_1295, nI_ix (by omega) (by decide), nI_cl (n := 6 * c + 3) (by omega), zoL_e]
  rw [fA.1, ← d3]
  have hRB : RF (mL mA 1295 (6 * c + 3) (D 3)).2.2 := hRA
  have hsB : (mL mA 1295 (6 * c + 3) (D 3)).2.2 1285 5 = some r := hsA
  rw [zoS_h sh_1285, zob_h (rf_1285_23 hRB), zoS_h sh_1285, zob_h hsB, zoS_h (sh_m0 hr), zob_h (rf_m17 hRB hr), zoL_e, zoS_h (sh_m13 hr), nI_ix (by omega) (by decide), nI_cl (n := 256 * ms + 2 * p + 1) (by omega), zoL_e, zoL_e, zoS_h sh_1295, nI_ix (by omega) (by decide), nI_cl (n := 6 * c + 4) (by omega), zoL_e]
  rw [mL_1, fA.1, ← d4]
  generalize hmB : mL (mL mA 1295 (6 * c + 3) (D 3)) 1295 (6 * c + 4) (D 4) = mB
  have fB : mB.1 = m.1 ∧ mB.2.2 = m.2.2 ∧ ∀ a, a ≠ 1295 → mB.2.1 a = m.2.1 a := by
    rw [← hmB]
    exact ⟨by rw [mL_1, mL_1, fA.1], by rw [mL_R, mL_R, fA.2.1], fun a ha => by rw [mL_o ha, mL_o ha, fA.2.2 a ha]⟩
  have hRC : RF mB.2.2 := by rw [fB.2.1]; exact hR
  have hsC : mB.2.2 1285 5 = some r := by rw [fB.2.1]; exact hs
  have m5 : L_MPainter_toCorner_119 (sh0 W H) zfuel 1285 (nI ms) (nI c) (nI p) 0 0 mB = some (1285, nI ms, nI c, nI p, lgD (m.2.1 1286) m.1 r (384 * ms + 3 * p), nI 3, mB) := by
    show L_MPainter_toCorner_119 (sh0 W H) zfuel 1285 (nI ms) (nI c) (nI p) 0 (nI 0) mB = _
    rw [show zfuel = 999996 + 1 + 1 + 1 + 1 from nrfl rfl, e_tc119 hr hRC hsC hms hp (by decide), e_tc119 hr hRC hsC hms hp (by decide), e_tc119 hr hRC hsC hms hp (by decide), L_MPainter_toCorner_119, if_pos (by decide), fB.1, fB.2.2 1286 (by decide), Int64.zero_add]
    rfl
  rw [zob_h m5]
  dsimp only
  rw [i5, zoS_h sh_1285, zob_h hsC, zoS_h (sh_m0 hr), fB.1]
  have fin : zok (some (mL mB 1295 (6 * c + 5) (D 5))) (fun m' => frm [] [1295] m m' ∧ (∀ k, k < 6 → m'.2.1 1295 (6 * c + k) = D k) ∧ ∀ q, ¬ (6 * c ≤ q ∧ q < 6 * c + 6) → m'.2.1 1295 q = m.2.1 1295 q) := by
    rw [← hmB, ← hm3]
    refine zok_s ⟨⟨rfl, fun _ _ => rfl, fun k hk => ?_⟩, fun k hk => ?_, fun q hq => ?_⟩
    · simp at hk
      rw [mL_o hk, mL_o hk, mL_o hk, mL_o hk, mL_o hk, mL_o hk]
    · rcases (show k = 0 ∨ k = 1 ∨ k = 2 ∨ k = 3 ∨ k = 4 ∨ k = 5 by omega) with rfl | rfl | rfl | rfl | rfl | rfl <;> simp [mL_v]
    · rw [mL_v, if_pos rfl, if_neg (by omega), mL_v, if_pos rfl, if_neg (by omega), mL_v, if_pos rfl, if_neg (by omega), mL_v, if_pos rfl, if_neg (by omega), mL_v, if_pos rfl, if_neg (by omega), mL_v, if_pos rfl, if_neg (by omega)]
  rw [d5] at fin
  generalize lgD (m.2.1 1286) m.1 r (384 * ms + 3 * p) = d at fin ⊢
  unfold lgL at fin
  by_cases e1 : lg_cmp d 0 ≤ 0
  · rw [if_pos e1] at fin
    rw [if_pos e1, zoL_e, zoS_h sh_1285, zob_h (rf_1285_23 hRC)]
    by_cases e2 : 0 ≤ lg_cmp ((m.1 r 35).toInt64 + 0) 65536
    · rw [if_pos e2] at fin
      rw [if_pos e2, zoL_e, zoS_h sh_1295, nI_ix (by omega) (by decide), nI_cl (n := 6 * c + 5) (by omega), zoL_e]
      exact fin
    · rw [if_neg e2] at fin
      rw [if_neg e2, zoL_e, zoS_h sh_1295, nI_ix (by omega) (by decide), nI_cl (n := 6 * c + 5) (by omega), zoL_e]
      exact fin
  · rw [if_neg e1] at fin
    rw [if_neg e1, zoL_e, zoS_h sh_1285, zob_h (rf_1285_23 hRC)]
    by_cases e2 : 0 ≤ lg_cmp ((m.1 r 35).toInt64 + d) 65536
    · rw [if_pos e2] at fin
      rw [if_pos e2, zoL_e, zoS_h sh_1295, nI_ix (by omega) (by decide), nI_cl (n := 6 * c + 5) (by omega), zoL_e]
      exact fin
    · rw [if_neg e2] at fin
      rw [if_neg e2, zoL_e, zoS_h sh_1295, nI_ix (by omega) (by decide), nI_cl (n := 6 * c + 5) (by omega), zoL_e]
      exact fin
end ZCR
