/-! PURE: the class reads a list, whole; and a number with its name -/
theorem lst_sees {t : Nat → Int32} {n p : Nat} : (p < n ∧ t p = 93) ∨ ¬ (p < n ∧ t p = 93) := Classical.em _
theorem fin_ok {t : Nat → Int32} {n unit cnt p q : Nat} (h : fin t n unit cnt p = .ok q) : cnt ≠ 0 ∧ cnt % unit = 0 := by
  unfold fin at h
  split at h
  · split at h
    · cases h
    · omega
  · cases h
set_option maxHeartbeats 2000000 in
theorem c_numbers {W H : Nat} {mm : zMem} {n p i most unit : Nat} {lo hi grow : Int32} {gb : Bool} (h : rdS mm n p) (hi67 : i < 67) (hm : most ≤ 3072) (hu : 0 < unit) (hu2 : unit ≤ 3072) (hlo : -100000000 < lo.toInt) (hhi : hi.toInt < 100000000) (hg : grow = b32 gb) : oc (lst (mm.1 1) n i most unit lo.toInt hi.toInt gb p) (F_XReader_numbers (sh0 W H) mm 3 i (nI most) (nI unit) lo hi grow) (T_XReader_numbers (sh0 W H) mm 3 i (nI most) (nI unit) lo hi grow) (fun a r => r.1 = nI a.1 ∧ a.1 ≤ most ∧ a.1 ≠ 0 ∧ a.1 % unit = 0 ∧ rdS r.2 n a.2.2 ∧ wp (mm.1 1) n a.2.2 = a.2.2 ∧ rw4 mm r.2 ∧ ∀ j, j < a.1 → r.2.1 4 j = a.2.1 j) (rdW mm) := by
  unfold F_XReader_numbers T_XReader_numbers lst
  simp only [sh_3, zoS_e]
  refine oc_b (c_needName' h hi67 rw4_r) (fun q1 m1 hq1 => ?_)
  obtain ⟨hS1, k1, em1⟩ := hq1
  have et1 : m1.1 1 = mm.1 1 := by rw [em1]; exact rdP_o (by decide)
  have hw1 : rw4 mm m1 := by rw [em1]; exact rw4_P rw4_r
  have hx := c_need' (W := W) (H := H) hS1 91 hw1
  rw [et1] at hx
  refine oc_b hx (fun q2 m2 hq2 => ?_)
  obtain ⟨hS2, k2, em2⟩ := hq2
  have et2 : m2.1 1 = mm.1 1 := by rw [em2, rdP_o (by decide), et1]
  have hw2 : rw4 mm m2 := by rw [em2]; exact rw4_P hw1
  have h52 := hS2.2.2.1
  simp only [c_sees hS2, zob_e, et2]
  rcases lst_sees (t := mm.1 1) (n := n) (p := q2) with hc | hc
  · rw [if_pos hc, if_pos hc]
    have e1 : ∀ l, L_XReader_numbers_34 (sh0 W H) zfuel 3 (nI most) (nI unit) lo hi grow 0 l 0 m2 = some (3, nI most, nI unit, lo, hi, grow, 0, l, 0, m2) := fun l => by
      rw [zfuel_s]
      simp only [L_XReader_numbers_34, i0eq0, ↓reduceIte]
    have e2 : ∀ l, L_T_XReader_numbers_34 (sh0 W H) zfuel 3 (nI most) (nI unit) lo hi grow 0 l 0 m2 = some (1, 3, nI most, nI unit, lo, hi, grow, 0, l, 0, m2) := fun l => by
      rw [zfuel_s]
      simp only [L_T_XReader_numbers_34, i0eq0, ↓reduceIte]
    simp only [i1ne0, ↓reduceIte, e1, e2, zob_e, i0eq0, c_sees hS2, et2, sh_3, zoS_e, h52]
    rw [if_pos hc, if_neg (show ¬ (1 : Int32) = 0 by decide), if_neg (show ¬ (1 : Int32) = 0 by decide)]
    obtain ⟨m, x1, x2⟩ := c_refuse (W := W) (H := H) (mm := m2) 3 q2
    exact ⟨rfl, m, x1, rdW_E hw2 x2⟩
  · rw [if_neg hc, if_neg hc, lstGo_eq]
    simp only [i0eq0, ↓reduceIte]
    have hl := c_lp (W := W) (H := H) (n := n) (most := most) (unit := nI unit) hm hlo hhi hg most lo 0 (fun _ => 0) q2 zfuel m2 (zf_lt (by omega)) (by omega) hS2 (by rw [et2]; exact k2) hlo (fun j hj => by omega)
    rw [et2] at hl
    cases hlp : lpGo (mm.1 1) n lo.toInt hi.toInt gb most lo.toInt 0 (fun _ => 0) q2 with
    | error e =>
      rw [hlp] at hl
      obtain ⟨y1, q, y2, y3, y4⟩ := hl
      rw [nI_k0, y1, y2]
      simp only [zob_e]
      rw [if_neg (show ¬ q.1 = 1 by omega)]
      exact ⟨rfl, _, rfl, y4.1, y4.2.1, rw4_t hw2 y4.2.2⟩
    | ok a =>
      obtain ⟨due, cnt, g, p3⟩ := a
      rw [hlp] at hl
      obtain ⟨ls, m3, y1, y2, y3, y4, y5, y6, y7⟩ := hl
      simp only at y1 y2 y3 y4 y6 y7
      have hw3 := rw4_t hw2 y5
      have et3 : m3.1 1 = mm.1 1 := hw3.2 1 (by decide) (by decide)
      rw [nI_k0, y1, y2]
      simp only [zob_e, ↓reduceIte, sh_3, zoS_e]
      cases due with
      | true =>
        have hb := c_snum (W := W) (H := H) y3 (lo := -100000000) (hi := 100000000)
        rw [et3] at hb
        simp only [show (b32 true = nI 0) = False from eq_false (by decide), ↓reduceIte]
        show oc (if dg (mm.1 1) n (nst (mm.1 1) n p3) = 0 then .error (1, p3) else .error (3, p3)) _ _ _ _
        unfold snum at hb
        by_cases hz : dg (mm.1 1) n (nst (mm.1 1) n p3) = 0
        · rw [if_pos hz] at hb ⊢
          obtain ⟨x1, m, x2, x3⟩ := hb
          rw [x1]
          exact ⟨rfl, m, x2, rdW_E hw3 x3⟩
        · rw [if_neg hz] at hb ⊢
          rw [if_pos ?_] at hb
          · obtain ⟨⟨x, m⟩, x1, x2, x3, x4⟩ := hb
            rw [x1]
            simp only [zob_e, zoX_s]
            simp only at x4
            obtain ⟨m5, z1, z2⟩ := c_refuse (W := W) (H := H) (mm := m) 3 p3
            refine ⟨rfl, m5, ?_, rdW_E (show rw4 mm m by rw [x4]; exact rw4_N hw3) z2⟩
            rw [← z1, x4, rdN_6]
            rfl
          · have hdv := dv_nn (t := mm.1 1) (n := n) (p := nst (mm.1 1) n p3)
            rw [show (-100000000 : Int32).toInt = -100000000 by decide, show (100000000 : Int32).toInt = 100000000 by decide]
            unfold sval sat
            split <;> split <;> omega
      | false =>
        have hf := c_fin (W := W) (H := H) (m0 := mm) y3 hw3 hu (by omega) (show cnt < 2147483648 by omega)
        rw [et3] at hf
        simp only [show (b32 false = nI 0) = True from eq_true (by decide), ↓reduceIte]
        show oc ((fin (mm.1 1) n unit cnt p3).map (fun p2 => (cnt, g, p2))) _ _ _ _
        cases hfin : fin (mm.1 1) n unit cnt p3 with
        | error e =>
          rw [hfin] at hf
          exact hf
        | ok q =>
          rw [hfin] at hf
          obtain ⟨r, z1, z2, z3, z4, z5, z6⟩ := hf
          obtain ⟨w1, w2⟩ := fin_ok hfin
          exact ⟨r, z1, z2, y6, w1, w2, z3, z4, z5, fun j hj => by rw [z6]; exact y7 j hj⟩
