/-! PURE: the reference's runs and distances -/
section ZMR
variable {W H : Nat}
theorem m_tailR {m : zMem} {P : List Int32} {bs : List Nat} {s K ov : Nat} (hR : RF m.2.2) (h : mBt P bs m) (h1 : 256 ≤ s) (h2 : s < 286) (hK : K ≤ 13) (ho : ov < 2147483648) (hB : P.length + (bs.length + 8 + K) / 8 < 8190) : zok (if 280 ≤ nI s then zoS (sh0 W H 1278) 12 (fun le18 => Option.bind (F_MPacker_highFirst (sh0 W H) m 1278 ((192 + nI s) - 280) 8) (fun p19 => zoS (sh0 W H 1278) 12 (fun le21 => Option.bind (F_MPacker_lowFirst (sh0 W H) p19 1278 (nI ov) (nI K)) (fun p22 => some p22)))) else zoS (sh0 W H 1278) 12 (fun le24 => Option.bind (F_MPacker_highFirst (sh0 W H) m 1278 (nI s - 256) 7) (fun p25 => zoS (sh0 W H 1278) 12 (fun le27 => Option.bind (F_MPacker_lowFirst (sh0 W H) p25 1278 (nI ov) (nI K)) (fun p28 => some p28))))) (fun m' => mQ m m' ∧ mBt P (bs ++ (sgB s ++ loB ov 0 K)) m') := by
  unfold sgB
  rw [if_neg (show ¬ (s < 144) by omega), if_neg (show ¬ (s < 256) by omega)]
  by_cases c : s < 280
  · rw [if_neg (by rw [show (280 : Int32) = nI 280 from rfl, nI_leD (by decide) (by omega)]; omega), if_pos c, zoS_h sh_1278, show nI s - 256 = nI (s - 256) from nI_sub (b := 256) (by omega)]
    refine zok_b (m_hi (n := 7) hR h (by omega) (by decide) (by omega)) (fun m1 h1 => ?_)
    rw [zoS_h sh_1278]
    refine zok_b (m_lo (by rw [h1.1.1]; exact hR) h1.2 ho (by omega) (by rw [List.length_append, hiB_l]; omega)) (fun m2 h2 => zok_s ⟨mQ_t h1.1 h2.1, ?_⟩)
    have := h2.2
    rw [List.append_assoc] at this
    exact this
  · rw [if_pos (by rw [show (280 : Int32) = nI 280 from rfl, nI_leD (by decide) (by omega)]; omega), if_neg c, zoS_h sh_1278, show (192 : Int32) + nI s - 280 = nI (s - 88) by rw [show (192 : Int32) = nI 192 from rfl, nI_pp, show (280 : Int32) = nI 280 from rfl, nI_sub (by omega), show 192 + s - 280 = s - 88 by omega]]
    refine zok_b (m_hi (n := 8) hR h (by omega) (by decide) (by omega)) (fun m1 h1 => ?_)
    rw [zoS_h sh_1278]
    refine zok_b (m_lo (by rw [h1.1.1]; exact hR) h1.2 ho (by omega) (by rw [List.length_append, hiB_l]; omega)) (fun m2 h2 => zok_s ⟨mQ_t h1.1 h2.1, ?_⟩)
    have := h2.2
    rw [List.append_assoc] at this
    exact this
theorem m_len {m : zMem} {P : List Int32} {bs : List Nat} {n : Nat} (hR : RF m.2.2) (h : mBt P bs m) (h3 : 3 ≤ n) (hn : n ≤ 258) (hB : P.length + (bs.length + 13) / 8 < 8190) : zok (F_MPacker_run (sh0 W H) m 1278 (nI n)) (fun m' => mQ m m' ∧ mBt P (bs ++ lnB n) m') := by
  have f1 : zfuel = 999999 + 1 := nrfl rfl
  unfold F_MPacker_run lnB
  by_cases c1 : n < 11
  · rw [if_neg (by rw [show (11 : Int32) = nI 11 from rfl, nI_leD (by decide) (by omega)]; omega), if_pos c1, show (257 : Int32) + nI n - 3 = nI (257 + n - 3) by rw [show (257 : Int32) = nI 257 from rfl, nI_pp]; exact nI_sub (b := 3) (by omega), zoL_e]
    have hl : L_MPacker_run_32 (sh0 W H) zfuel 1278 (nI n) (nI (257 + n - 3)) 0 0 11 1 m = some (1278, nI n, nI (257 + n - 3), 0, 0, 11, 1, m) := by
      rw [f1, L_MPacker_run_32, if_neg (by decide), if_pos (by rw [show (11 : Int32) = nI 11 from rfl, nI_ltD (by omega) (by decide)]; omega)]
    rw [zob_h hl]
    have := m_tailR (W := W) (H := H) (K := 0) (ov := 0) (s := 257 + n - 3) hR h (by omega) (by omega) (by decide) (by decide) (by omega)
    rw [loB, List.append_nil] at this
    exact this
  rw [if_pos (by rw [show (11 : Int32) = nI 11 from rfl, nI_leD (by decide) (by omega)]; omega), if_neg c1]
  by_cases c2 : n = 258
  · rw [if_pos c2]
    have hl : L_MPacker_run_32 (sh0 W H) zfuel 1278 (nI n) 285 0 0 11 1 m = some (1278, nI n, 285, 0, 0, 11, 1, m) := by
      rw [f1, L_MPacker_run_32, if_neg (by decide), if_neg (by rw [show (11 : Int32) = nI 11 from rfl, nI_ltD (by omega) (by decide)]; omega), if_pos (by rw [c2]; decide)]
    rw [zob_h hl]
    have := m_tailR (W := W) (H := H) (K := 0) (ov := 0) (s := 285) hR h (by decide) (by decide) (by decide) (by decide) (by omega)
    rw [loB, List.append_nil] at this
    exact this
  obtain ⟨a1, a2, a3⟩ := kL_v (n := n) (by omega) (by omega)
  obtain ⟨b1, b2, b3⟩ := lnS_b (n := n) (by omega) (by omega)
  have hl := m_run_32 (W := W) (H := H) (m := m) (o := 1278) (n := n) (s0 := 285) (by omega) (by omega) a1 a2 a3 5 1 zfuel (by decide) (by decide) (zf_lt (by decide))
  rw [if_neg (by omega), if_neg (by omega), if_neg (by omega)] at hl
  have hl' : L_MPacker_run_32 (sh0 W H) zfuel 1278 (nI n) 285 0 0 11 1 m = some (1278, nI n, nI (lnS n), nI (kL n), nI ((n - fL (kL n)) % 2 ^ kL n), nI (fL 6), nI 6, m) := hl
  rw [if_neg c2, zob_h hl']
  have lt : (n - fL (kL n)) % 2 ^ kL n ≤ n - fL (kL n) := Nat.mod_le _ _
  have := m_tailR (W := W) (H := H) (K := kL n) (ov := (n - fL (kL n)) % 2 ^ kL n) (s := lnS n) hR h (by omega) b3 (by omega) (by omega) (by omega)
  rw [loB_m _ _ (by omega)] at this
  exact this
theorem m_dis {m : zMem} {P : List Int32} {bs : List Nat} {d : Nat} (hR : RF m.2.2) (h : mBt P bs m) (h1 : 1 ≤ d) (hd : d < 7000) (hB : P.length + (bs.length + 17) / 8 < 8190) : zok (F_MPacker_distance (sh0 W H) m 1278 (nI d)) (fun m' => mQ m m' ∧ mBt P (bs ++ dsB d) m') := by
  have f1 : zfuel = 999999 + 1 := nrfl rfl
  have fin : ∀ (k K ov : Nat), k < 32 → K ≤ 12 → ov < 2147483648 → zok (Option.bind (F_MPacker_highFirst (sh0 W H) m 1278 (nI k) 5) (fun p17 => zoS (sh0 W H 1278) 12 (fun le19 => Option.bind (F_MPacker_lowFirst (sh0 W H) p17 1278 (nI ov) (nI K)) (fun p20 => some p20)))) (fun m' => mQ m m' ∧ mBt P (bs ++ (hiB k 5 ++ loB ov 0 K)) m') := fun k K ov h1 h2 h3 => by
    refine zok_b (m_hi (n := 5) hR h (by omega) (by decide) (by omega)) (fun m1 g1 => ?_)
    rw [zoS_h sh_1278]
    refine zok_b (m_lo (by rw [g1.1.1]; exact hR) g1.2 h3 (by omega) (by rw [List.length_append, hiB_l]; omega)) (fun m2 g2 => zok_s ⟨mQ_t g1.1 g2.1, ?_⟩)
    have := g2.2
    rw [List.append_assoc] at this
    exact this
  unfold F_MPacker_distance dsB
  rw [show nI d - 1 = nI (d - 1) from nI_sub (b := 1) h1, zoL_e]
  by_cases c1 : d < 5
  · have hl : L_MPacker_distance_15 (sh0 W H) zfuel 1278 (nI d) (nI (d - 1)) 0 0 5 1 m = some (1278, nI d, nI (d - 1), 0, 0, 5, 1, m) := by
      rw [f1, L_MPacker_distance_15, if_neg (by decide), if_pos (by rw [show (5 : Int32) = nI 5 from rfl, nI_ltD (by omega) (by decide)]; omega)]
    rw [zob_h hl, if_pos c1]
    dsimp only
    rw [zoS_h sh_1278]
    have := fin (d - 1) 0 0 (by omega) (by decide) (by decide)
    rw [loB, List.append_nil] at this
    exact this
  obtain ⟨a1, a2, a3⟩ := kD_v (n := d) (by omega) (by omega)
  obtain ⟨b1, b2⟩ := dsS_b (n := d) (by omega) (by omega)
  have hl := m_distance_15 (W := W) (H := H) (m := m) (o := 1278) (n := d) (s0 := nI (d - 1)) (by omega) (by omega) a1 a2 a3 13 1 zfuel (by decide) (by decide) (zf_lt (by decide))
  rw [if_neg (by omega), if_neg (by omega), if_neg (by omega)] at hl
  have hl' : L_MPacker_distance_15 (sh0 W H) zfuel 1278 (nI d) (nI (d - 1)) 0 0 5 1 m = some (1278, nI d, nI (dsS d), nI (kD d), nI ((d - fD (kD d)) % 2 ^ kD d), nI (fD 14), nI 14, m) := hl
  rw [if_neg c1, zob_h hl']
  dsimp only
  rw [zoS_h sh_1278]
  have lt : (d - fD (kD d)) % 2 ^ kD d ≤ d - fD (kD d) := Nat.mod_le _ _
  have := fin (dsS d) (kD d) ((d - fD (kD d)) % 2 ^ kD d) b2 a1.2 (by omega)
  rw [loB_m _ _ (by omega)] at this
  exact this
end ZMR
