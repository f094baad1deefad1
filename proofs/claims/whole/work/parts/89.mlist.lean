/-! PURE: the reference reads a number with its name, a list -/
def oV {α : Type} (s : Except (Nat × Nat) α) (F : Option (Int32 × zMem)) (P : α → Int32 × zMem → Prop) (E : Nat → Nat → zMem → Prop) : Prop := match s with
  | .ok a => zok F (P a)
  | .error e => zok F (fun r => E e.1 e.2 r.2)
theorem oV_k {α γ : Type} {s : Except (Nat × Nat) α} {F : Option (Int32 × zMem)} {P : α → Int32 × zMem → Prop} {E : Nat → Nat → zMem → Prop} {s' : α → Except (Nat × Nat) γ} {K : Int32 × zMem → Option zMem} {P' : γ → zMem → Prop} (h : oV s F P E) (k : ∀ a r, s = .ok a → P a r → oR (s' a) (K r) P' E) (ke : ∀ a b r, E a b r.2 → zok (K r) (E a b)) : oR (s.bind s') (Option.bind F K) P' E := by
  cases s with
  | error e => exact zok_b h (fun r hr => ke _ _ r hr)
  | ok a =>
    obtain ⟨r, h1, h2⟩ := h
    rw [h1]
    exact k a r rfl h2
section ZML
variable {W H : Nat} {mm m : zMem} {n p : Nat} {g : Nat → Nat → Int32}
theorem mS_G {q : Nat} {G : Nat → Int32} (h : mS mm n p g m) (hq : q ≤ n) (h2 : G 2 = m.1 1277 2) (h3 : G 3 = nI q) (h4 : G 4 = m.1 1277 4) (h5 : G 5 = m.1 1277 5) : mS mm n (wp (mm.1 1186) n q) g (sI m 1277 G) := by
  obtain ⟨⟨q0, h0, hq0⟩, h6, h7, h8, h9, h10⟩ := h
  refine ⟨⟨q, ⟨h0.1, by rw [sI_at, h2]; exact h0.2.1, by rw [sI_at]; exact h3, h0.2.2.2.1, hq, by rw [sI_ne (by decide)]; exact h0.2.2.2.2.2⟩, rfl⟩, by rw [sI_at, h4]; exact h6, by rw [sI_at, h5]; exact h7, h8, fun b hb => ?_, fun b h11 h12 => ?_⟩
  · rw [sI_ne (by omega)]
    exact h9 b hb
  · rw [sI_ne h11]
    exact h10 b h11 h12
theorem nst_le {t : Nat → Int32} (hp : p ≤ n) : nst t n p ≤ n := by
  unfold nst
  split <;> omega
/-- the number that stands at p is taken -/
theorem m_took (h : mS mm n p g m) : zok (F_MReader_takeNumber (sh0 W H) (mP m p) 1277) (fun m' => mS mm n (wp (mm.1 1186) n (nst (mm.1 1186) n p + dg (mm.1 1186) n (nst (mm.1 1186) n p))) g m' ∧ m'.1 1277 6 = nI p ∧ m'.1 1277 9 = m.1 1277 9 ∧ ((m'.1 1277 8 = 0 ∧ ¬ (-2147483648 ≤ nval (mm.1 1186) n p ∧ nval (mm.1 1186) n p ≤ 2147483647)) ∨ (m'.1 1277 8 = 1 ∧ (m'.1 1277 7).toInt = nval (mm.1 1186) n p))) := by
  have ht := mS_t h
  have htk := mS_tok h
  have hmp := mS_Pp h
  obtain ⟨q, hq, e⟩ := h.1
  have hS := mP_S hq htk.2
  refine zok_w (m_take hS) (fun m' hm => ?_)
  rw [mP_o (by decide), ht] at hm
  obtain ⟨G, e1, e2, e3, e4, e5⟩ := hm
  have hx := mS_G hmp (G := G) (dg_2 (nst_le htk.2)) (e4 2 (by decide) (by decide) (by decide) (by decide)) e2 (e4 4 (by decide) (by decide) (by decide) (by decide)) (e4 5 (by decide) (by decide) (by decide) (by decide))
  rw [← e1] at hx
  have e6 : m'.1 1277 = G := by rw [e1, sI_at]
  rw [e6]
  refine ⟨hx, e3, ?_, e5⟩
  rw [e4 9 (by decide) (by decide) (by decide) (by decide)]
  show (sI m 1277 _).1 1277 9 = _
  rw [sI_at]
  rfl
theorem m_singleE {k q i : Nat} {lo hi : Int32} (h : mE mm k q m) : F_MReader_single (sh0 W H) m 1277 i lo hi = some (0, m) := by
  unfold F_MReader_single
  simp only [sh_1277, zoS_e, m_nameE h, zob_e, mE_w h, ↓reduceIte]
theorem m_single (h : mS mm n p g m) {i i' : Nat} (hi' : i' < 67) (hz : ztxb i' = ztxb i) {lo hi : Int32} {l u : Int} (hl : lo.toInt = l) (hu : hi.toInt = u) : oV (nnum (mm.1 1186) n i l u p) (F_MReader_single (sh0 W H) m 1277 i' lo hi) (fun a r => r.1 = oI a.1 ∧ r.1.toInt = a.1 ∧ l ≤ a.1 ∧ a.1 ≤ u ∧ r.2.1 1277 6 = nI a.2.1 ∧ r.2.1 1277 9 = m.1 1277 9 ∧ mS mm n a.2.2 g r.2) (mE mm) := by
  have hx := m_name (W := W) (H := H) h hi' hz
  unfold F_MReader_single nnum
  simp only [sh_1277, zoS_e]
  cases hnm : nam (mm.1 1186) n i p with
  | error e =>
    rw [hnm] at hx
    refine zok_b hx (fun m1 h1 => ?_)
    simp only [mE_w h1, ↓reduceIte]
    exact zok_s h1
  | ok p1 =>
    rw [hnm] at hx
    show oV ((num (mm.1 1186) n l u p1).map (fun a => (a.1, p1, a.2))) _ _ _
    obtain ⟨m1, x1, h1, h1'⟩ := hx
    rw [x1]
    have h14 := h1.2.1
    have h13 : (mP m1 p1).1 1277 3 = nI p1 := by
      show (sI m1 1277 _).1 1277 3 = _
      rw [sI_at]
      rfl
    simp only [zob_e, h14, ↓reduceIte, m_numberNext h1, h13]
    unfold num
    by_cases hd : dg (mm.1 1186) n (nst (mm.1 1186) n p1) = 0
    · rw [if_pos hd]
      simp only [hd, ↓reduceIte]
      exact zok_b (m_fail (k := 1) (q := p1) (mS_Pp h1) (by decide)) (fun m' hm => zok_s hm)
    · rw [if_neg hd]
      simp only [hd, ↓reduceIte, i1ne0]
      obtain ⟨m2, y1, y2, y3, y4, y5⟩ := m_took (W := W) (H := H) h1
      rw [y1]
      simp only [zob_e, y3]
      have bad : ¬ (l ≤ nval (mm.1 1186) n p1 ∧ nval (mm.1 1186) n p1 ≤ u) → oV (.error (2, p1) : Except (Nat × Nat) (Int × Nat × Nat)) (Option.bind (F_MReader_fail (sh0 W H) m2 1277 2 (nI p1)) (fun p21 => some (p21.1 1277 7, p21))) (fun a r => r.1 = oI a.1 ∧ r.1.toInt = a.1 ∧ l ≤ a.1 ∧ a.1 ≤ u ∧ r.2.1 1277 6 = nI a.2.1 ∧ r.2.1 1277 9 = m.1 1277 9 ∧ mS mm n a.2.2 g r.2) (mE mm) := fun _ => zok_b (m_fail (k := 2) (q := p1) y2 (by decide)) (fun m' hm => zok_s hm)
      have l1 : -2147483648 ≤ lo.toInt := lo.le_toInt
      have l2 : hi.toInt < 2147483648 := hi.toInt_lt
      rcases y5 with ⟨y6, y7⟩ | ⟨y6, y7⟩
      · have hb : ¬ (l ≤ nval (mm.1 1186) n p1 ∧ nval (mm.1 1186) n p1 ≤ u) := by omega
        simp only [y6, ↓reduceIte]
        rw [if_neg hb]
        exact bad hb
      · simp only [y6, i1ne0, ↓reduceIte]
        by_cases c1 : m2.1 1277 7 < lo
        · have hb : ¬ (l ≤ nval (mm.1 1186) n p1 ∧ nval (mm.1 1186) n p1 ≤ u) := by
            have := i32_lt.mp c1
            omega
          simp only [c1, ↓reduceIte]
          rw [if_neg hb]
          exact bad hb
        · simp only [c1, ↓reduceIte]
          have n1 : ¬ (m2.1 1277 7).toInt < lo.toInt := fun z => c1 (i32_lt.mpr z)
          by_cases c2 : m2.1 1277 7 ≤ hi
          · have hb : l ≤ nval (mm.1 1186) n p1 ∧ nval (mm.1 1186) n p1 ≤ u := by
              have := i32_le.mp c2
              omega
            simp only [c2, ↓reduceIte]
            rw [if_pos hb]
            exact zok_s ⟨(oI_eq y7).symm, y7, hb.1, hb.2, y3, by rw [y4, h1' 9 (by decide)], y2⟩
          · have hb : ¬ (l ≤ nval (mm.1 1186) n p1 ∧ nval (mm.1 1186) n p1 ≤ u) := fun z => c2 (i32_le.mpr (by omega))
            simp only [c2, ↓reduceIte]
            rw [if_neg hb]
            exact bad hb
/-- the reference's loop over a list -/
def lrGo (t : Nat → Int32) (n : Nat) (lo hi : Int) (grow : Bool) : Nat → Int → Nat → (Nat → Int32) → Nat → Except (Nat × Nat) (Nat × (Nat → Int32) × Nat)
  | 0, _, _, _, p => if dg t n (nst t n p) = 0 then .error (1, p) else .error (3, p)
  | rem + 1, least, cnt, g, p => match num t n least hi p with
    | .error e => .error e
    | .ok (v, p1) => if p1 < n ∧ t p1 = 44 then lrGo t n lo hi grow rem (if grow then v + 1 else lo) (cnt + 1) (upd g cnt (Int32.ofInt v)) (wp t n (p1 + 1)) else .ok (cnt + 1, upd g cnt (Int32.ofInt v), p1)
theorem lrGo_eq {t : Nat → Int32} {unit : Nat} {lo hi : Int} {grow : Bool} : ∀ (rem : Nat) (least : Int) (cnt : Nat) (g : Nat → Int32) (p : Nat), lstGo t n unit lo hi grow rem least cnt g p = (lrGo t n lo hi grow rem least cnt g p).bind (fun a => (fin t n unit a.1 a.2.2).map (fun p2 => (a.1, a.2.1, p2))) := by
  intro rem
  induction rem with
  | zero =>
    intro least cnt g p
    simp only [lstGo, lrGo]
    split <;> rfl
  | succ rem ih =>
    intro least cnt g p
    simp only [lstGo, lrGo]
    cases num t n least hi p with
    | error e => rfl
    | ok a =>
      obtain ⟨v, p1⟩ := a
      by_cases hc : p1 < n ∧ t p1 = 44
      · simp only [if_pos hc]
        exact ih _ _ _ _
      · simp only [if_neg hc]
        rfl
theorem gV_0 {a fr : Nat} {v : Nat → Int32} : gV g a fr 0 v = g := by
  funext b
  unfold gV
  by_cases e : b = a
  · subst e
    rw [fS_at]
    funext k
    exact if_neg (by omega)
  · exact fS_ne e
theorem gV_step {a fr cnt : Nat} {v : Nat → Int32} {x : Int32} : gI (gV g a fr cnt v) a (fr + cnt) x = gV g a fr (cnt + 1) (upd v cnt x) := by
  funext b
  unfold gI gV
  by_cases e : b = a
  · subst e
    rw [fS_at, fS_at, fS_at]
    funext k
    unfold va_cpy
    by_cases ek : k = fr + cnt
    · subst ek
      rw [upd_at, if_pos (by omega), show 0 + (fr + cnt - fr) = cnt by omega, upd_at]
    · rw [upd_ne ek]
      by_cases h2 : fr ≤ k ∧ k < fr + cnt
      · rw [if_pos h2, if_pos (by omega), upd_ne (by omega)]
      · rw [if_neg h2, if_neg (by omega)]
  · rw [fS_ne e, fS_ne e, fS_ne e]
end ZML
