/-! PURE: the class reads a number -/
def sat (a : Int) : Int := if a < 100000000 then a else 100000000
theorem c_nn37 {W H n : Nat} {lo hi st : Int32} : ∀ (d q fuel : Nat) (v : Int32) (a : Int) (mm : zMem), q + d = n → d < fuel → mm.1 3 4 = nI n → mm.2.2 3 3 = some 1 → n ≤ 65536 → 0 ≤ a → v.toInt = sat a → ∃ V : Int32, L_XReader_needNumber_37 (sh0 W H) fuel 3 lo hi st (nI q) v mm = some (3, lo, hi, st, nI (q + dg (mm.1 1) n q), V, mm) ∧ V.toInt = sat (dv (mm.1 1) (dg (mm.1 1) n q) q a) := by
  intro d
  induction d with
  | zero =>
    intro q fuel v a mm hq hf h4 ht hn ha hv
    obtain ⟨fu, rfl⟩ : ∃ fu, fuel = fu + 1 := ⟨fuel - 1, by omega⟩
    simp (disch := first | assumption | omega) only [L_XReader_needNumber_37, ↓zoS_h sh_3, sh_3, h4, nI_leD, ↓zoL_e, ↓zob_e, ↓reduceIte, zoS_e, zob_e, nI_lt0, nI_lt00, nI_cl, nle_f, or_self, or_false, false_or]
    rw [if_pos (by omega), dg_end (by omega)]
    exact ⟨v, rfl, hv⟩
  | succ d ih =>
    intro q fuel v a mm hq hf h4 ht hn ha hv
    obtain ⟨fu, rfl⟩ : ∃ fu, fuel = fu + 1 := ⟨fuel - 1, by omega⟩
    have hnq : ¬ n ≤ q := by omega
    simp (disch := first | assumption | omega) only [L_XReader_needNumber_37, ↓zoS_h sh_3, sh_3, ↓zoS_h sh_1, sh_1, h4, ht, nI_leD, hnq, nI_1, ↓zoL_e, ↓zob_e, ↓reduceIte, zoS_e, zob_e, nI_lt0, nI_lt00, nI_cl, nle_f, or_self, or_false, false_or]
    by_cases c1 : mm.1 1 q < 48
    · rw [if_pos c1, dg_no (by unfold isD; simp [Int32.not_le.mpr c1])]
      exact ⟨v, rfl, hv⟩
    · rw [if_neg c1]
      by_cases c2 : 57 < mm.1 1 q
      · rw [if_pos c2, dg_no (by unfold isD; simp [Int32.not_le.mpr c2])]
        exact ⟨v, rfl, hv⟩
      · rw [if_neg c2]
        have hD : isD (mm.1 1 q) = true := by
          unfold isD
          simp [Int32.not_lt.mp c1, Int32.not_lt.mp c2]
        obtain ⟨r1, r2⟩ := isD_rng hD
        have hv2 : 0 ≤ v.toInt ∧ v.toInt ≤ 100000000 := by
          rw [hv]
          unfold sat
          split <;> omega
        have e1 : (10 * v).toInt = 10 * v.toInt := by
          rw [i32_mul] <;> rw [show (10 : Int32).toInt = 10 by decide] <;> omega
        have e2 : (10 * v + mm.1 1 q).toInt = 10 * v.toInt + (mm.1 1 q).toInt := by
          rw [i32_add] <;> rw [e1] <;> omega
        have e3 : (10 * v + mm.1 1 q - 48).toInt = 10 * v.toInt + (mm.1 1 q).toInt - 48 := by
          rw [i32_sub] <;> rw [e2, show (48 : Int32).toInt = 48 by decide] <;> omega
        have e4 : (zx_min 100000000 (10 * v + mm.1 1 q - 48)).toInt = sat (10 * a + ((mm.1 1 q).toInt - 48)) := by
          have cB : (100000000 : Int32).toInt = 100000000 := by decide
          unfold zx_min
          by_cases hc : 10 * v + mm.1 1 q - 48 < 100000000
          · rw [if_pos hc, e3]
            have := i32_lt.mp hc
            rw [e3, cB] at this
            unfold sat at hv ⊢
            split at hv <;> split <;> omega
          · rw [if_neg hc, cB]
            have : ¬ (10 * v.toInt + (mm.1 1 q).toInt - 48 < 100000000) := fun h => hc (i32_lt.mpr (by rw [e3, cB]; exact h))
            unfold sat at hv ⊢
            split at hv <;> split <;> omega
        obtain ⟨V, a1, a2⟩ := ih (q + 1) fu (zx_min 100000000 (10 * v + mm.1 1 q - 48)) (10 * a + ((mm.1 1 q).toInt - 48)) mm (by omega) (by omega) h4 ht hn (by omega) e4
        refine ⟨V, ?_, ?_⟩
        · rw [a1, dg_yes (by omega) hD, show q + 1 + dg (mm.1 1) n (q + 1) = q + (dg (mm.1 1) n (q + 1) + 1) by omega]
        · rw [a2, dg_yes (by omega) hD]
          rfl
theorem c_nnT {sh : zSh} : ∀ (fuel v0 : Nat) (v1 v2 v3 v4 v5 : Int32) (mm : zMem), L_T_XReader_needNumber_37 sh fuel v0 v1 v2 v3 v4 v5 mm = L_XReader_needNumber_37 sh fuel v0 v1 v2 v3 v4 v5 mm := by
  intro fuel
  induction fuel with
  | zero => intros; rfl
  | succ fu ih =>
    intro v0 v1 v2 v3 v4 v5 mm
    simp only [L_T_XReader_needNumber_37, L_XReader_needNumber_37, ih]
/-- the reader's place is another, and the number that it read stood at p -/
def rdN (mm : zMem) (p q : Nat) : zMem := sI mm 3 (upd (upd (mm.1 3) 6 (nI p)) 5 (nI q))
theorem rdN_S {mm : zMem} {n p q a : Nat} (h : rdS mm n a) (hq : q ≤ n) : rdS (rdN mm p q) n q := by
  obtain ⟨hR, h4, h5, ht, hn, hp, hz⟩ := h
  refine ⟨hR, ?_, ?_, ht, hn, hq, ?_⟩
  · show (sI mm 3 _).1 3 4 = _
    rw [sI_at]
    exact h4
  · show (sI mm 3 _).1 3 5 = _
    rw [sI_at]
    rfl
  · show (sI mm 3 (upd (upd (mm.1 3) 6 (nI p)) 5 (nI q))).1 3 0 = 0 ∧ (sI mm 3 (upd (upd (mm.1 3) 6 (nI p)) 5 (nI q))).1 3 1 = 0
    rw [sI_at]
    exact hz
theorem rdN_o {mm : zMem} {p q k : Nat} (h : k ≠ 3) : (rdN mm p q).1 k = mm.1 k := sI_ne h
theorem rdN_P (mm : zMem) (p q a : Nat) : rdP (rdN mm p q) a = rdN mm p a := by
  unfold rdP rdN
  rw [sI_sI, sI_at]
  refine sI_to (fun j => ?_)
  unfold upd
  by_cases h : j = 5
  · rw [if_pos h, if_pos h]
  · rw [if_neg h, if_neg h, if_neg h]
theorem rdN_6 (mm : zMem) (p q : Nat) : (rdN mm p q).1 3 6 = nI p := by
  unfold rdN
  rw [sI_at]
  rfl
theorem rdN_0 {mm : zMem} {n p : Nat} (h : rdS mm n p) : mI mm 3 6 (nI p) = rdN mm p p := by
  unfold rdN
  rw [mI_sI]
  refine sI_to (fun j => ?_)
  unfold upd
  by_cases e : j = 5
  · rw [if_neg (by omega), if_pos e, e, h.2.2.1]
  · rw [if_neg e]
theorem nI_sub {a b : Nat} (h : b ≤ a) : nI a - nI b = nI (a - b) := by
  obtain ⟨c, rfl⟩ : ∃ c, a = b + c := ⟨a - b, by omega⟩
  rw [← nI_add, show b + c - b = c by omega, Int32.add_comm, Int32.add_sub_cancel]
/-- the value as the class counts it -/
def sval (t : Nat → Int32) (n p : Nat) : Int := if p < n ∧ t p = 45 then -sat (dv t (dg t n (nst t n p)) (nst t n p) 0) else sat (dv t (dg t n (nst t n p)) (nst t n p) 0)
def snum (t : Nat → Int32) (n : Nat) (lo hi : Int) (p : Nat) : Except (Nat × Nat) (Int × Nat) := if dg t n (nst t n p) = 0 then .error (1, p) else if lo ≤ sval t n p ∧ sval t n p ≤ hi then .ok (sval t n p, wp t n (nst t n p + dg t n (nst t n p))) else .error (2, p)
theorem dv_nn {t : Nat → Int32} {n p : Nat} : 0 ≤ dv t (dg t n p) p 0 := dv_ge (dg t n p) p 0 (Int.le_refl _) (Nat.le_refl _)
theorem rdE_P {mm m : zMem} {p q k a : Nat} (h : rdE (rdN mm p q) k a m) : rdE mm k a m := ⟨h.1, h.2.1, h.2.2.1, fun b hb => (h.2.2.2 b hb).trans (rdN_o hb)⟩
theorem c_snum {W H : Nat} {mm : zMem} {n p : Nat} (h : rdS mm n p) {lo hi : Int32} : oc (snum (mm.1 1) n lo.toInt hi.toInt p) (F_XReader_needNumber (sh0 W H) mm 3 lo hi) (T_XReader_needNumber (sh0 W H) mm 3 lo hi) (fun a r => r.1.toInt = a.1 ∧ a.2 ≤ n ∧ r.2 = rdN mm p a.2) (rdE mm) := by
  have h5 := h.2.2.1
  have hn := h.2.2.2.2.1
  have hp := h.2.2.2.2.2.1
  have hS := rdN_S (p := p) h hp
  have hS5 : (rdN mm p p).1 3 5 = nI p := hS.2.2.1
  have hf : zfuel = 1000000 := rfl
  have z0 : (0 : Int32).toInt = sat 0 := by decide
  unfold F_XReader_needNumber T_XReader_needNumber snum
  simp only [sh_3, zoS_e, zoL_e, h5, rdN_0 h, c_sees hS, zob_e, c_nnT, hS5, nI_1, rdN_o (show 1 ≠ 3 by decide)]
  by_cases hm : p < n ∧ mm.1 1 p = 45
  · have hst : nst (mm.1 1) n p = p + 1 := if_pos hm
    obtain ⟨V, e1, e2⟩ := c_nn37 (W := W) (H := H) (n := n) (lo := lo) (hi := hi) (st := nI (p + 1)) (n - (p + 1)) (p + 1) zfuel 0 0 (rdN mm p p) (by omega) (by omega) hS.2.1 hS.2.2.2.1 hn (Int.le_refl _) z0
    rw [rdN_o (show 1 ≠ 3 by decide)] at e1 e2
    have hd := dg_2 (t := mm.1 1) (n := n) (p := p + 1) (by omega)
    have hdv := dv_nn (t := mm.1 1) (n := n) (p := p + 1)
    have hsv : sval (mm.1 1) n p = -V.toInt := by
      unfold sval
      rw [if_pos hm, hst, e2]
    have hV : 0 ≤ V.toInt ∧ V.toInt ≤ 100000000 := by
      rw [e2]
      unfold sat
      split <;> omega
    have hneg : (-V).toInt = sval (mm.1 1) n p := by rw [i32_neg (by omega), hsv]
    rw [if_pos hm, if_neg (show ¬ (1 : Int32) = 0 by decide), if_neg (show ¬ (1 : Int32) = 0 by decide), e1]
    simp only [zob_e, sh_3, zoS_e, hst]
    by_cases hz : dg (mm.1 1) n (p + 1) = 0
    · rw [if_pos hz, hz, Nat.add_zero, if_pos rfl, if_pos rfl, hS5]
      obtain ⟨m, g1, g2⟩ := c_refuse (W := W) (H := H) (mm := rdN mm p p) 1 p
      exact ⟨rfl, m, g1, rdE_P g2⟩
    · have hne : ¬ nI (p + 1 + dg (mm.1 1) n (p + 1)) = nI (p + 1) := by
        rw [nI_eqD (by omega) (by omega)]
        omega
      rw [if_neg hz, if_neg hne, if_neg hne]
      simp only [c_sees hS, zob_e, rdN_o (show 1 ≠ 3 by decide)]
      rw [if_pos hm, if_neg (show ¬ (1 : Int32) = 0 by decide), if_neg (show ¬ (1 : Int32) = 0 by decide)]
      simp only [hS5, nI_sub (show p ≤ p + 1 + dg (mm.1 1) n (p + 1) by omega), c_step hS (show p + (p + 1 + dg (mm.1 1) n (p + 1) - p) ≤ n by omega), zob_e, rdN_o (show 1 ≠ 3 by decide), rdN_P, rdN_6]
      rw [show p + (p + 1 + dg (mm.1 1) n (p + 1) - p) = p + 1 + dg (mm.1 1) n (p + 1) by omega]
      by_cases hlo : -V < lo
      · have : ¬ (lo.toInt ≤ sval (mm.1 1) n p ∧ sval (mm.1 1) n p ≤ hi.toInt) := by
          have := i32_lt.mp hlo
          rw [hneg] at this
          omega
        rw [if_neg this, if_pos hlo, if_pos hlo]
        obtain ⟨m, g1, g2⟩ := c_refuse (W := W) (H := H) (mm := rdN mm p (wp (mm.1 1) n (p + 1 + dg (mm.1 1) n (p + 1)))) 2 p
        exact ⟨rfl, m, g1, rdE_P g2⟩
      · rw [if_neg hlo, if_neg hlo]
        by_cases hhi : -V ≤ hi
        · have : lo.toInt ≤ sval (mm.1 1) n p ∧ sval (mm.1 1) n p ≤ hi.toInt := by
            have a := i32_le.mp hhi
            have b := i32_le.mp (Int32.not_lt.mp hlo)
            rw [hneg] at a b
            exact ⟨b, a⟩
          rw [if_pos this, if_pos hhi]
          exact ⟨_, rfl, hneg, wp_2 (by omega), rfl⟩
        · have : ¬ (lo.toInt ≤ sval (mm.1 1) n p ∧ sval (mm.1 1) n p ≤ hi.toInt) := fun q => hhi (i32_le.mpr (by rw [hneg]; exact q.2))
          rw [if_neg this, if_neg hhi, if_neg hhi]
          obtain ⟨m, g1, g2⟩ := c_refuse (W := W) (H := H) (mm := rdN mm p (wp (mm.1 1) n (p + 1 + dg (mm.1 1) n (p + 1)))) 2 p
          exact ⟨rfl, m, g1, rdE_P g2⟩
  · have hst : nst (mm.1 1) n p = p := if_neg hm
    obtain ⟨V, e1, e2⟩ := c_nn37 (W := W) (H := H) (n := n) (lo := lo) (hi := hi) (st := nI p) (n - p) p zfuel 0 0 (rdN mm p p) (by omega) (by omega) hS.2.1 hS.2.2.2.1 hn (Int.le_refl _) z0
    rw [rdN_o (show 1 ≠ 3 by decide)] at e1 e2
    have hd := dg_2 (t := mm.1 1) (n := n) (p := p) (by omega)
    have hsv : V.toInt = sval (mm.1 1) n p := by
      unfold sval
      rw [if_neg hm, hst, e2]
    rw [if_neg hm, if_pos rfl, if_pos rfl, e1]
    simp only [zob_e, sh_3, zoS_e, hst]
    by_cases hz : dg (mm.1 1) n p = 0
    · rw [if_pos hz, hz, Nat.add_zero, if_pos rfl, if_pos rfl, hS5]
      obtain ⟨m, g1, g2⟩ := c_refuse (W := W) (H := H) (mm := rdN mm p p) 1 p
      exact ⟨rfl, m, g1, rdE_P g2⟩
    · have hne : ¬ nI (p + dg (mm.1 1) n p) = nI p := by
        rw [nI_eqD (by omega) (by omega)]
        omega
      rw [if_neg hz, if_neg hne, if_neg hne]
      simp only [c_sees hS, zob_e, rdN_o (show 1 ≠ 3 by decide)]
      rw [if_neg hm, if_pos rfl, if_pos rfl]
      simp only [hS5, nI_sub (show p ≤ p + dg (mm.1 1) n p by omega), c_step hS (show p + (p + dg (mm.1 1) n p - p) ≤ n by omega), zob_e, rdN_o (show 1 ≠ 3 by decide), rdN_P, rdN_6]
      rw [show p + (p + dg (mm.1 1) n p - p) = p + dg (mm.1 1) n p by omega]
      by_cases hlo : V < lo
      · have : ¬ (lo.toInt ≤ sval (mm.1 1) n p ∧ sval (mm.1 1) n p ≤ hi.toInt) := by
          have := i32_lt.mp hlo
          rw [hsv] at this
          omega
        rw [if_neg this, if_pos hlo, if_pos hlo]
        obtain ⟨m, g1, g2⟩ := c_refuse (W := W) (H := H) (mm := rdN mm p (wp (mm.1 1) n (p + dg (mm.1 1) n p))) 2 p
        exact ⟨rfl, m, g1, rdE_P g2⟩
      · rw [if_neg hlo, if_neg hlo]
        by_cases hhi : V ≤ hi
        · have : lo.toInt ≤ sval (mm.1 1) n p ∧ sval (mm.1 1) n p ≤ hi.toInt := by
            have a := i32_le.mp hhi
            have b := i32_le.mp (Int32.not_lt.mp hlo)
            rw [hsv] at a b
            exact ⟨b, a⟩
          rw [if_pos this, if_pos hhi]
          exact ⟨_, rfl, hsv, wp_2 (by omega), rfl⟩
        · have : ¬ (lo.toInt ≤ sval (mm.1 1) n p ∧ sval (mm.1 1) n p ≤ hi.toInt) := fun q => hhi (i32_le.mpr (by rw [hsv]; exact q.2))
          rw [if_neg this, if_neg hhi, if_neg hhi]
          obtain ⟨m, g1, g2⟩ := c_refuse (W := W) (H := H) (mm := rdN mm p (wp (mm.1 1) n (p + dg (mm.1 1) n p))) 2 p
          exact ⟨rfl, m, g1, rdE_P g2⟩
/-- within what things can have, the class's value is the text's -/
theorem snum_eq {t : Nat → Int32} {n : Nat} {lo hi : Int} {p : Nat} (h1 : -100000000 < lo) (h2 : hi < 100000000) : snum t n lo hi p = num t n lo hi p := by
  unfold snum num
  have hdv := dv_nn (t := t) (n := n) (p := nst t n p)
  have e : (lo ≤ sval t n p ∧ sval t n p ≤ hi) ↔ (lo ≤ nval t n p ∧ nval t n p ≤ hi) := by
    unfold sval nval sat
    split <;> split <;> omega
  by_cases hz : dg t n (nst t n p) = 0
  · rw [if_pos hz, if_pos hz]
  · rw [if_neg hz, if_neg hz]
    by_cases hc : lo ≤ nval t n p ∧ nval t n p ≤ hi
    · have hv : sval t n p = nval t n p := by
        have := e.mpr hc
        revert hc this
        unfold sval nval sat
        split <;> split <;> omega
      rw [if_pos hc, if_pos (e.mpr hc), hv]
    · rw [if_neg hc, if_neg (fun q => hc (e.mp q))]
