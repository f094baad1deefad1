/-! PURE: the class's reader, its small steps -/
def rdS (mm : zMem) (n p : Nat) : Prop := RF mm.2.2 ∧ mm.1 3 4 = nI n ∧ mm.1 3 5 = nI p ∧ mm.2.2 3 3 = some 1 ∧ n ≤ 65536 ∧ p ≤ n ∧ mm.1 3 0 = 0 ∧ mm.1 3 1 = 0
theorem ite_c {α : Type} {c d : Prop} {_ : Decidable c} {_ : Decidable d} {x y : α} (h : c ↔ d) : (if c then x else y) = (if d then x else y) := by
  by_cases e : c
  · rw [if_pos e, if_pos (h.mp e)]
  · rw [if_neg e, if_neg (fun q => e (h.mpr q))]
theorem c_sees {W H : Nat} {mm : zMem} {n p : Nat} (h : rdS mm n p) (c : Int32) : F_XReader_sees (sh0 W H) mm 3 c = some (if p < n ∧ mm.1 1 p = c then 1 else 0, mm) := by
  obtain ⟨hR, h4, h5, ht, hn, hp, hz⟩ := h
  unfold F_XReader_sees
  simp (disch := first | assumption | omega) only [↓zoS_h sh_3, sh_3, ↓zoS_h sh_1, sh_1, h4, h5, ht, nI_leD, ↓zoL_e, ↓zob_e, ↓reduceIte, zoS_e, zob_e, nI_lt0, nI_lt00, nI_cl, nle_f, or_self, or_false, false_or]
  by_cases hq : n ≤ p
  · rw [if_pos hq, if_neg (by omega)]
  · rw [if_neg hq]
    by_cases hc : mm.1 1 p = c
    · rw [if_pos hc, if_pos ⟨by omega, hc⟩]
    · rw [if_neg hc, if_neg (fun q => hc q.2)]
/-- the reader's place alone is another -/
theorem i1ne0 : ((1 : Int32) = 0) = False := eq_false (by decide)
theorem i0eq0 : ((0 : Int32) = 0) = True := eq_true rfl
def rdP (mm : zMem) (p : Nat) : zMem := sI mm 3 (upd (mm.1 3) 5 (nI p))
theorem rdP_P (mm : zMem) (p q : Nat) : rdP (rdP mm p) q = rdP mm q := by
  unfold rdP
  rw [sI_sI, sI_at]
  refine sI_to (fun j => ?_)
  unfold upd
  by_cases h : j = 5
  · rw [if_pos h, if_pos h]
  · rw [if_neg h, if_neg h, if_neg h]
theorem rdP_S {mm : zMem} {n p q : Nat} (h : rdS mm n p) (hq : q ≤ n) : rdS (rdP mm q) n q := by
  obtain ⟨hR, h4, h5, ht, hn, hp, hz⟩ := h
  refine ⟨hR, ?_, ?_, ht, hn, hq, ?_⟩
  · show (sI mm 3 (upd (mm.1 3) 5 (nI q))).1 3 4 = _
    rw [sI_at]
    exact h4
  · show (sI mm 3 (upd (mm.1 3) 5 (nI q))).1 3 5 = _
    rw [sI_at]
    rfl
  · show (sI mm 3 (upd (mm.1 3) 5 (nI q))).1 3 0 = 0 ∧ (sI mm 3 (upd (mm.1 3) 5 (nI q))).1 3 1 = 0
    rw [sI_at]
    exact hz
theorem rdP_o {mm : zMem} {p k : Nat} (h : k ≠ 3) : (rdP mm p).1 k = mm.1 k := sI_ne h
theorem rdP_id {mm : zMem} {n p : Nat} (h : rdS mm n p) : rdP mm p = mm := by
  unfold rdP
  rw [sI_to (h := mm.1 3) (fun j => ?_), sI_id]
  unfold upd
  by_cases e : j = 5
  · rw [if_pos e, e, h.2.2.1]
  · rw [if_neg e]
theorem c_step_10 {W H n : Nat} : ∀ (d p fuel : Nat) (mm : zMem), p + d = n → d < fuel → rdS mm n p → L_XReader_step_10 (sh0 W H) fuel 3 mm = some (3, rdP mm (wp (mm.1 1) n p)) := by
  intro d
  induction d with
  | zero =>
    intro p fuel mm hpd hf h
    obtain ⟨fu, rfl⟩ : ∃ fu, fuel = fu + 1 := ⟨fuel - 1, by omega⟩
    have hid := rdP_id h
    obtain ⟨hR, h4, h5, ht, hn, hp, hz⟩ := h
    simp (disch := first | assumption | omega) only [L_XReader_step_10, ↓zoS_h sh_3, sh_3, ↓zoS_h sh_1, sh_1, h4, h5, ht, nI_leD, ↓zoL_e, ↓zob_e, ↓reduceIte, zoS_e, zob_e, nI_lt0, nI_lt00, nI_cl, nle_f, or_self, or_false, false_or]
    rw [if_pos (by omega), wp_end (by omega), hid]
  | succ d ih =>
    intro p fuel mm hpd hf h
    obtain ⟨fu, rfl⟩ : ∃ fu, fuel = fu + 1 := ⟨fuel - 1, by omega⟩
    have hid := rdP_id h
    have hnext : isW (mm.1 1 p) = true → L_XReader_step_10 (sh0 W H) fu 3 (rdP mm (p + 1)) = some (3, rdP mm (wp (mm.1 1) n p)) := by
      intro hw
      rw [ih (p + 1) fu (rdP mm (p + 1)) (by omega) (by omega) (rdP_S h (by omega)), rdP_P, rdP_o (by decide), wp_sp (by omega) hw]
    obtain ⟨hR, h4, h5, ht, hn, hp, hz⟩ := h
    have hnp : ¬ n ≤ p := by omega
    simp (disch := first | assumption | omega) only [L_XReader_step_10, ↓zoS_h sh_3, sh_3, ↓zoS_h sh_1, sh_1, h4, h5, ht, nI_leD, hnp, nI_1, mI_sI, ↓zoL_e, ↓zob_e, ↓reduceIte, zoS_e, zob_e, nI_lt0, nI_lt00, nI_cl, nle_f, or_self, or_false, false_or]
    by_cases a1 : mm.1 1 p = 32
    · rw [if_pos a1]
      exact hnext (by simp [isW, a1])
    · rw [if_neg a1]
      by_cases a2 : mm.1 1 p = 10
      · rw [if_pos a2]
        exact hnext (by simp [isW, a2])
      · rw [if_neg a2]
        by_cases a3 : mm.1 1 p = 13
        · rw [if_pos a3]
          exact hnext (by simp [isW, a3])
        · rw [if_neg a3]
          by_cases a4 : mm.1 1 p = 9
          · rw [if_pos a4]
            exact hnext (by simp [isW, a4])
          · rw [if_neg a4, wp_no (by simp [isW, a1, a2, a3, a4]), hid]
theorem c_step {W H : Nat} {mm : zMem} {n p k : Nat} (h : rdS mm n p) (hk : p + k ≤ n) : F_XReader_step (sh0 W H) mm 3 (nI k) = some (rdP mm (wp (mm.1 1) n (p + k))) := by
  have h5 := h.2.2.1
  have hS := rdP_S h hk
  have hn := h.2.2.2.2.1
  unfold F_XReader_step
  simp only [sh_3, zoS_e, zoL_e, h5, nI_add, mI_sI]
  show Option.bind (L_XReader_step_10 (sh0 W H) zfuel 3 (rdP mm (p + k))) _ = _
  rw [c_step_10 (n - (p + k)) (p + k) zfuel _ (by omega) (zf_lt (by omega)) hS, rdP_P, rdP_o (by decide)]
  rfl
/-- the class either goes on or throws, as the text says -/
def oc {α β : Type} (s : Except (Nat × Nat) α) (F : Option β) (T : Option zMem) (P : α → β → Prop) (E : Nat → Nat → zMem → Prop) : Prop := match s with
  | .ok a => ∃ r, F = some r ∧ P a r
  | .error e => F = none ∧ ∃ m, T = some m ∧ E e.1 e.2 m
theorem zoX_s {α β : Type} {x : α} {A : Option β} {K : α → Option β} : zoX (some x) A K = K x := nrfl rfl
theorem zoX_n {α β : Type} {A : Option β} {K : α → Option β} : zoX none A K = A := nrfl rfl
theorem oc_b {α β γ δ : Type} {s : Except (Nat × Nat) α} {F : Option β} {T : Option zMem} {P : α → β → Prop} {E : Nat → Nat → zMem → Prop} {s' : α → Except (Nat × Nat) γ} {KF : β → Option δ} {KT : β → Option zMem} {P' : γ → δ → Prop} (h : oc s F T P E) (k : ∀ a r, P a r → oc (s' a) (KF r) (KT r) P' E) : oc (s.bind s') (Option.bind F KF) (zoX F T KT) P' E := by
  cases s with
  | error e =>
    obtain ⟨h1, m, h2, h3⟩ := h
    rw [h1]
    exact ⟨rfl, m, h2, h3⟩
  | ok a =>
    obtain ⟨r, h1, h2⟩ := h
    rw [h1]
    exact k a r h2
theorem oc_bs {α δ : Type} {s' : Except (Nat × Nat) α} {β : Type} {F : Option β} {r : β} {T : Option zMem} {KF : β → Option δ} {KT : β → Option zMem} {P' : α → δ → Prop} {E : Nat → Nat → zMem → Prop} (h : F = some r) (k : oc s' (KF r) (KT r) P' E) : oc s' (Option.bind F KF) (Option.bind F KT) P' E := by
  rw [h]
  exact k
/-- what throwing leaves behind -/
def rdE (mm : zMem) (k q : Nat) (m : zMem) : Prop := m.1 3 0 = nI k ∧ m.1 3 1 = nI q ∧ m.2 = mm.2 ∧ ∀ a, a ≠ 3 → m.1 a = mm.1 a
theorem c_refuse {W H : Nat} {mm : zMem} (k q : Nat) : ∃ m, T_XReader_refuse (sh0 W H) mm 3 (nI k) (nI q) = some m ∧ rdE mm k q m := by
  unfold T_XReader_refuse
  simp only [sh_3, zoS_e, zoL_e, mI_sI, sI_sI, sI_at]
  refine ⟨_, rfl, ?_, ?_, rfl, fun a ha => sI_ne ha⟩
  · rw [sI_at]
    rfl
  · rw [sI_at]
    rfl
theorem c_need {W H : Nat} {mm : zMem} {n p : Nat} (h : rdS mm n p) (c : Int32) : oc (sgn (mm.1 1) n c p) (F_XReader_need (sh0 W H) mm 3 c) (T_XReader_need (sh0 W H) mm 3 c) (fun q m => q ≤ n ∧ m = rdP mm q) (rdE mm) := by
  have h5 := h.2.2.1
  unfold F_XReader_need T_XReader_need sgn
  simp only [sh_3, zoS_e, c_sees h, zob_e]
  by_cases hc : p < n ∧ mm.1 1 p = c
  · rw [if_pos hc, if_pos hc, if_neg (by decide), if_neg (by decide), nI_k1, c_step h (by omega)]
    exact ⟨_, rfl, wp_2 (by omega), rfl⟩
  · rw [if_neg hc, if_neg hc, if_pos rfl, if_pos rfl, h5]
    exact ⟨rfl, c_refuse 1 p⟩
theorem ztx_small (i : Nat) : (ztxb i).length < 100 := by
  by_cases h : i < 67
  · exact ztx_sml i h
  · have e : ztxb i = [] := by
      unfold ztxb
      exact getD_big (Nat.le_trans (show ztxB.length ≤ 67 by decide) (by omega))
    rw [e]
    decide
theorem c_seesWord_49 {W H : Nat} {mm : zMem} {n p i : Nat} (h : rdS mm n p) (hi : i < 67) (hl : p + (ztxb i).length + 1 < n) : ∀ (d j fuel : Nat), j + d = (ztxb i).length → d < fuel → ∃ q : Nat × Int32 × Nat × Nat × Int32 × zMem, L_XReader_seesWord_49 (sh0 W H) fuel 3 i (nI j) mm = some q ∧ q.2.2.2.2.2 = mm ∧ (q.1 = 1 ∨ q.1 = 0 ∧ q.2.1 = 0) ∧ (q.1 = 1 ↔ ∀ k, j ≤ k → k < (ztxb i).length → mm.1 1 (p + 1 + k) = ztxc i k) := by
  obtain ⟨hR, h4, h5, ht, hn, hp, hz⟩ := h
  have hs := ztx_small i
  intro d
  induction d with
  | zero =>
    intro j fuel hj hf
    obtain ⟨fu, rfl⟩ : ∃ fu, fuel = fu + 1 := ⟨fuel - 1, by omega⟩
    obtain rfl : j = (ztxb i).length := by omega
    simp only [L_XReader_seesWord_49]
    rw [if_pos hi, if_pos (show ztxn i ≤ nI (ztxb i).length from Int32.le_refl _)]
    exact ⟨_, rfl, rfl, Or.inl rfl, fun _ k h1 h2 => by omega, fun _ => rfl⟩
  | succ d ih =>
    intro j fuel hj hf
    obtain ⟨fu, rfl⟩ : ∃ fu, fuel = fu + 1 := ⟨fuel - 1, by omega⟩
    have hlt : ¬ ztxn i ≤ nI j := by
      show ¬ nI (ztxb i).length ≤ nI j
      rw [nI_leD (by omega) (by omega)]
      omega
    have hc : i < 67 ∧ ¬ nI j < 0 ∧ nI j < ztxn i := ⟨hi, nI_pos (by omega), Int32.not_le.mp hlt⟩
    simp (disch := first | assumption | omega) only [L_XReader_seesWord_49, hi, hlt, hc, ↓zoS_h sh_3, sh_3, ↓zoS_h sh_1, sh_1, h5, ht, nI_1, nI_add, ↓zoL_e, ↓zob_e, ↓reduceIte, zoS_e, zob_e, nI_lt0, nI_lt00, nI_cl, nle_f, or_self, or_false, false_or]
    by_cases e : mm.1 1 (p + 1 + j) = ztxc i j
    · rw [if_pos (by simp [hc, hi]), if_pos e]
      obtain ⟨q, a1, a2, a3, a4⟩ := ih (j + 1) fu (by omega) (by omega)
      refine ⟨q, a1, a2, a3, fun hq k h1 h2 => ?_, fun hq => a4.mpr (fun k h1 h2 => hq k (by omega) h2)⟩
      by_cases ek : k = j
      · rw [ek]
        exact e
      · exact a4.mp hq k (by omega) h2
    · rw [if_pos (by simp [hc, hi]), if_neg e]
      exact ⟨_, rfl, rfl, Or.inr ⟨rfl, rfl⟩, fun hq => absurd (show (0 : Nat) = 1 from hq) (by decide), fun hq => absurd (hq j (Nat.le_refl _) (by omega)) e⟩
theorem c_seesWord {W H : Nat} {mm : zMem} {n p i : Nat} (h : rdS mm n p) (hi : i < 67) : F_XReader_seesWord (sh0 W H) mm 3 i = some (if wrd (mm.1 1) n i p then 1 else 0, mm) := by
  have hs := ztx_small i
  have h0 := h
  obtain ⟨hR, h4, h5, ht, hn, hp, hz⟩ := h
  have ez : ztxn i = nI (ztxb i).length := rfl
  unfold F_XReader_seesWord wrd
  simp (disch := first | assumption | omega) only [↓zoS_h sh_3, sh_3, ↓zoS_h sh_1, sh_1, h4, h5, ht, hi, ez, nI_add, nI_1, nI_leD, ↓zoL_e, ↓zob_e, ↓reduceIte, zoS_e, zob_e, nI_lt0, nI_lt00, nI_cl, nle_f, or_self, or_false, false_or]
  by_cases hl : p + (ztxb i).length + 1 < n
  · rw [if_neg (by omega), decide_eq_true hl]
    by_cases a1 : mm.1 1 p = 34
    · rw [if_pos a1, decide_eq_true a1]
      by_cases a2 : mm.1 1 (p + (ztxb i).length + 1) = 34
      · rw [if_pos a2, decide_eq_true a2]
        obtain ⟨q, b1, b2, b3, b4⟩ := c_seesWord_49 (W := W) (H := H) h0 hi hl (ztxb i).length 0 zfuel (by omega) (zf_lt (by omega))
        rw [nI_k0, b1, zob_e, b2]
        rcases b3 with c1 | ⟨c1, c2⟩
        · rw [if_pos c1, if_pos]
          simp only [Bool.true_and, List.all_eq_true, List.mem_range, decide_eq_true_eq]
          exact fun k hk => b4.mp c1 k (by omega) hk
        · rw [if_neg (show ¬ q.1 = 1 by omega), if_neg, c2]
          · rfl
          intro hk
          simp only [Bool.true_and, List.all_eq_true, List.mem_range, decide_eq_true_eq] at hk
          have := b4.mpr (fun k _ h2 => hk k h2)
          omega
      · rw [if_neg a2, decide_eq_false a2]
        rfl
    · rw [if_neg a1, decide_eq_false a1]
      rfl
  · rw [if_pos (by omega), decide_eq_false hl]
    rfl
theorem wrd_lt {t : Nat → Int32} {n i p : Nat} (h : wrd t n i p = true) : p + (ztxb i).length + 1 < n := by
  unfold wrd at h
  simp only [Bool.and_eq_true, decide_eq_true_eq] at h
  exact h.1
theorem c_needName {W H : Nat} {mm : zMem} {n p i : Nat} (h : rdS mm n p) (hi : i < 67) : oc (nam (mm.1 1) n i p) (F_XReader_needName (sh0 W H) mm 3 i) (T_XReader_needName (sh0 W H) mm 3 i) (fun q m => q ≤ n ∧ m = rdP mm q) (rdE mm) := by
  have hs := ztx_small i
  have h5 := h.2.2.1
  unfold F_XReader_needName T_XReader_needName nam
  simp only [sh_3, zoS_e, c_seesWord h hi, zob_e]
  by_cases hw : wrd (mm.1 1) n i p = true
  · have hl := wrd_lt hw
    have hp2 : p + ((ztxb i).length + 2) ≤ n := by omega
    have ez : ztxn i + 2 = nI ((ztxb i).length + 2) := by
      show nI (ztxb i).length + 2 = _
      rw [nI_k2, nI_add]
    have hS := rdP_S h (wp_2 (t := mm.1 1) hp2)
    have hS5 := hS.2.2.1
    simp only [hw, hi, i1ne0, ↓reduceIte, ez, c_step h hp2]
    simp only [zob_e, c_sees hS, rdP_o (show 1 ≠ 3 by decide)]
    unfold sgn
    rw [show p + (ztxb i).length + 2 = p + ((ztxb i).length + 2) by omega]
    by_cases hc : wp (mm.1 1) n (p + ((ztxb i).length + 2)) < n ∧ mm.1 1 (wp (mm.1 1) n (p + ((ztxb i).length + 2))) = 58
    · rw [if_pos hc, if_pos hc, if_neg (by decide), if_neg (by decide), nI_k1, c_step hS (by omega)]
      refine ⟨_, rfl, wp_2 (by omega), ?_⟩
      rw [rdP_P, rdP_o (by decide)]
    · rw [if_neg hc, if_neg hc, if_pos rfl, if_pos rfl, hS5]
      obtain ⟨m, e1, e2, e3, e4, e5⟩ := c_refuse (W := W) (H := H) (mm := rdP mm (wp (mm.1 1) n (p + ((ztxb i).length + 2)))) 1 (wp (mm.1 1) n (p + ((ztxb i).length + 2)))
      exact ⟨rfl, m, e1, e2, e3, e4, fun a ha => (e5 a ha).trans (rdP_o ha)⟩
  · rw [if_neg hw, if_neg hw, if_pos rfl, if_pos rfl, h5]
    exact ⟨rfl, c_refuse 1 p⟩
