/-! PURE: the reference reads a list of things -/
theorem sMat_0 {t : Nat → Int32} {n k p : Nat} {g : Nat → Nat → Int32} {a : (Nat → Nat → Int32) × Nat} (h : sMat t n k g p = .ok a) : a.1 0 = g 0 := by
  unfold sMat at h
  obtain ⟨b0, _, h⟩ := bind_ok h
  obtain ⟨b1, _, h⟩ := bind_ok h
  obtain ⟨b2, _, h⟩ := bind_ok h
  obtain ⟨b3, _, h⟩ := bind_ok h
  obtain ⟨b4, _, h⟩ := bind_ok h
  cases h
  rfl
theorem sMesh_0 {t : Nat → Int32} {n k p : Nat} {g : Nat → Nat → Int32} {a : (Nat → Nat → Int32) × Nat} (h : sMesh t n k g p = .ok a) : a.1 0 = g 0 := by
  unfold sMesh at h
  obtain ⟨b0, _, h⟩ := bind_ok h
  obtain ⟨b1, _, h⟩ := bind_ok h
  obtain ⟨b2, _, h⟩ := bind_ok h
  obtain ⟨b3, _, h⟩ := bind_ok h
  obtain ⟨b4, _, h⟩ := bind_ok h
  obtain ⟨b5, _, h⟩ := bind_ok h
  obtain ⟨b6, _, h⟩ := bind_ok h
  obtain ⟨b7, _, h⟩ := bind_ok h
  obtain ⟨b8, _, h⟩ := bind_ok h
  cases h
  rfl
theorem sNode_0 {t : Nat → Int32} {n k p : Nat} {g : Nat → Nat → Int32} {a : (Nat → Nat → Int32) × Nat} (h : sNode t n k g p = .ok a) : a.1 0 = g 0 := by
  unfold sNode at h
  obtain ⟨b0, _, h⟩ := bind_ok h
  obtain ⟨b1, _, h⟩ := bind_ok h
  obtain ⟨b2, _, h⟩ := bind_ok h
  obtain ⟨b3, _, h⟩ := bind_ok h
  obtain ⟨b4, _, h⟩ := bind_ok h
  obtain ⟨b5, _, h⟩ := bind_ok h
  obtain ⟨b6, _, h⟩ := bind_ok h
  obtain ⟨b7, _, h⟩ := bind_ok h
  obtain ⟨b8, _, h⟩ := bind_ok h
  cases h
  rfl
theorem sTrack_0 {t : Nat → Int32} {n k p : Nat} {g : Nat → Nat → Int32} {a : (Nat → Nat → Int32) × Nat} (h : sTrack t n k g p = .ok a) : a.1 0 = g 0 := by
  unfold sTrack at h
  obtain ⟨b0, _, h⟩ := bind_ok h
  obtain ⟨b1, _, h⟩ := bind_ok h
  obtain ⟨b2, _, h⟩ := bind_ok h
  obtain ⟨b3, _, h⟩ := bind_ok h
  obtain ⟨b4, _, h⟩ := bind_ok h
  obtain ⟨b5, _, h⟩ := bind_ok h
  obtain ⟨b6, _, h⟩ := bind_ok h
  obtain ⟨b7, _, h⟩ := bind_ok h
  obtain ⟨b8, _, h⟩ := bind_ok h
  cases h
  rfl
theorem sTex_0 {t : Nat → Int32} {n k p : Nat} {g : Nat → Nat → Int32} {a : (Nat → Nat → Int32) × Nat} (h : sTex t n k g p = .ok a) : a.1 0 = g 0 := by
  unfold sTex at h
  obtain ⟨b0, _, h⟩ := bind_ok h
  split at h
  · cases h
  · obtain ⟨b1, _, h⟩ := bind_ok h
    obtain ⟨b2, _, h⟩ := bind_ok h
    obtain ⟨b3, _, h⟩ := bind_ok h
    obtain ⟨b4, _, h⟩ := bind_ok h
    obtain ⟨b5, _, h⟩ := bind_ok h
    obtain ⟨b6, _, h⟩ := bind_ok h
    cases h
    rfl
def sOne (t : Nat → Int32) (n c k : Nat) (g : Nat → Nat → Int32) (p : Nat) : Except (Nat × Nat) ((Nat → Nat → Int32) × Nat) := (sgn t n 123 p).bind fun p1 => (sThing t n c k g p1).bind fun a => (sgn t n 125 a.2).bind fun p3 => .ok (gI a.1 0 c (nI (k + 1)), p3)
theorem thLp_s {t : Nat → Int32} {n c rem k p : Nat} {g : Nat → Nat → Int32} : thLp t n c (rem + 1) k g p = (sOne t n c k g p).bind fun a => if a.2 < n ∧ t a.2 = 44 then thLp t n c rem (k + 1) a.1 (wp t n (a.2 + 1)) else .ok (false, k + 1, a.1, a.2) := by
  cases h1 : sgn t n 123 p with
  | error e => simp only [thLp, sOne, h1, Except.bind]
  | ok p1 =>
    cases h2 : sThing t n c k g p1 with
    | error e => simp only [thLp, sOne, h1, Except.bind, h2]
    | ok a => cases h3 : sgn t n 125 a.2 <;> simp only [thLp, sOne, h1, h2, h3, Except.bind]
/-- the counts of a scene -/
def gC (g : Nat → Nat → Int32) : Prop := ∀ j, j < 5 → ∃ v, v ≤ lim j ∧ g 0 j = nI v
theorem gC_up {g g' : Nat → Nat → Int32} {c k : Nat} (h : gC g) (hk : k ≤ lim c) (e : g' 0 = upd (g 0) c (nI k)) : gC g' := by
  intro j hj
  rw [e]
  by_cases q : j = c
  · subst q
    exact ⟨k, hk, upd_at⟩
  · obtain ⟨v, h1, h2⟩ := h j hj
    exact ⟨v, h1, by rw [upd_ne q, h2]⟩
section ZMV
variable {W H : Nat} {mm : zMem} {n : Nat}
theorem m_bad {p : Nat} {g : Nat → Nat → Int32} {m : zMem} {x y : Int32} (h : mS mm n p g m) (hx : ¬ (p < n ∧ mm.1 1186 p = 123)) : zok (F_MReader_thing (sh0 W H) m 1277 x y) (mE mm 1 p) := by
  have hs : sgn (mm.1 1186) n 123 p = .error (1, p) := if_neg hx
  have hq := m_sign (W := W) (H := H) h (c := 123) (by decide) (by decide)
  rw [hs] at hq
  unfold F_MReader_thing
  simp only [sh_1277, zoS_e]
  refine zok_b hq (fun m1 h1 => ?_)
  simp only [mE_w h1, ↓reduceIte]
  exact zok_s h1
set_option maxHeartbeats 4000000 in
theorem m_thing {p : Nat} {g : Nat → Nat → Int32} {m : zMem} (h : mS mm n p g m) {c k : Nat} (hc : c < 5) (hk : k < lim c) (hg : gC g) : oR (sOne (mm.1 1186) n c k g p) (F_MReader_thing (sh0 W H) m 1277 (nI c) (nI k)) (fun a m' => mS mm n a.2 a.1 m' ∧ a.1 0 = upd (g 0) c (nI (k + 1))) (mE mm) := by
  have hM : gM 1217 := Or.inr (Or.inl rfl)
  have lv := lim_v
  unfold F_MReader_thing sOne
  simp only [sh_1277, zoS_e]
  refine oR_k (m_sign h (by decide) (by decide)) (fun p1 m1 _ h1 => ?_) (fun a b r hE => ?_)
  rotate_left
  · simp only [mE_w hE, ↓reduceIte]
    exact zok_s hE
  have hw1 := h1.1.2.1
  simp only [hw1, ↓reduceIte]
  rcases (show c = 0 ∨ c = 1 ∨ c = 2 ∨ c = 3 ∨ c = 4 by omega) with rfl | rfl | rfl | rfl | rfl
  · have sT : ∀ q, sThing (mm.1 1186) n 0 k g q = sTex (mm.1 1186) n k g q := fun q => rfl
    simp only [sT, show (nI 0 = (0 : Int32)) = True from eq_true rfl, ↓reduceIte]
    refine oR_k (m_tex h1.1 (by omega)) (fun a m2 e2 h2 => ?_) (fun a b r hE => ?_)
    rotate_left
    · simp only [m_signE hE, zob_e, mE_w hE, ↓reduceIte]
      exact zok_s hE
    refine oR_k (m_sign h2 (by decide) (by decide)) (fun p3 m3 _ h3 => ?_) (fun a b r hE => ?_)
    rotate_left
    · simp only [mE_w hE, ↓reduceIte]
      exact zok_s hE
    have hw3 := h3.1.2.1
    have hR3 := mS_R h3.1
    simp only [hw3, ↓reduceIte, rf_1277_1 hR3, zob_e, zoL_e, nI_1, sh_m0 hM, zoS_e]
    have hl := mS_p (a := 0) (j := 0) (v := nI (k + 1)) h3.1 (by decide)
    refine zok_s ⟨hl, ?_⟩
    show upd (a.1 0) 0 _ = _
    rw [sTex_0 e2]
  · have sT : ∀ q, sThing (mm.1 1186) n 1 k g q = sMat (mm.1 1186) n k g q := fun q => rfl
    obtain ⟨v, hv1, hv2⟩ := hg 0 (by decide)
    simp only [sT, show (nI 1 = (0 : Int32)) = False from eq_false (by decide), show (nI 1 = (1 : Int32)) = True from eq_true rfl, ↓reduceIte]
    refine oR_k (m_mat h1.1 (by omega) (by omega) hv2) (fun a m2 e2 h2 => ?_) (fun a b r hE => ?_)
    rotate_left
    · simp only [m_signE hE, zob_e, mE_w hE, ↓reduceIte]
      exact zok_s hE
    refine oR_k (m_sign h2 (by decide) (by decide)) (fun p3 m3 _ h3 => ?_) (fun a b r hE => ?_)
    rotate_left
    · simp only [mE_w hE, ↓reduceIte]
      exact zok_s hE
    have hw3 := h3.1.2.1
    have hR3 := mS_R h3.1
    simp only [hw3, ↓reduceIte, rf_1277_1 hR3, zob_e, zoL_e, nI_1, sh_m0 hM, zoS_e]
    have hl := mS_p (a := 0) (j := 1) (v := nI (k + 1)) h3.1 (by decide)
    refine zok_s ⟨hl, ?_⟩
    show upd (a.1 0) 1 _ = _
    rw [sMat_0 e2]
  · have sT : ∀ q, sThing (mm.1 1186) n 2 k g q = sMesh (mm.1 1186) n k g q := fun q => rfl
    obtain ⟨v, hv1, hv2⟩ := hg 1 (by decide)
    simp only [sT, show (nI 2 = (0 : Int32)) = False from eq_false (by decide), show (nI 2 = (1 : Int32)) = False from eq_false (by decide), show (nI 2 = (2 : Int32)) = True from eq_true rfl, ↓reduceIte]
    refine oR_k (m_mesh h1.1 (by omega) (by omega) hv2) (fun a m2 e2 h2 => ?_) (fun a b r hE => ?_)
    rotate_left
    · simp only [m_signE hE, zob_e, mE_w hE, ↓reduceIte]
      exact zok_s hE
    refine oR_k (m_sign h2 (by decide) (by decide)) (fun p3 m3 _ h3 => ?_) (fun a b r hE => ?_)
    rotate_left
    · simp only [mE_w hE, ↓reduceIte]
      exact zok_s hE
    have hw3 := h3.1.2.1
    have hR3 := mS_R h3.1
    simp only [hw3, ↓reduceIte, rf_1277_1 hR3, zob_e, zoL_e, nI_1, sh_m0 hM, zoS_e]
    have hl := mS_p (a := 0) (j := 2) (v := nI (k + 1)) h3.1 (by decide)
    refine zok_s ⟨hl, ?_⟩
    show upd (a.1 0) 2 _ = _
    rw [sMesh_0 e2]
  · have sT : ∀ q, sThing (mm.1 1186) n 3 k g q = sNode (mm.1 1186) n k g q := fun q => rfl
    obtain ⟨v, hv1, hv2⟩ := hg 2 (by decide)
    simp only [sT, show (nI 3 = (0 : Int32)) = False from eq_false (by decide), show (nI 3 = (1 : Int32)) = False from eq_false (by decide), show (nI 3 = (2 : Int32)) = False from eq_false (by decide), show (nI 3 = (3 : Int32)) = True from eq_true rfl, ↓reduceIte]
    refine oR_k (m_node h1.1 (by omega) (by omega) hv2) (fun a m2 e2 h2 => ?_) (fun a b r hE => ?_)
    rotate_left
    · simp only [m_signE hE, zob_e, mE_w hE, ↓reduceIte]
      exact zok_s hE
    refine oR_k (m_sign h2 (by decide) (by decide)) (fun p3 m3 _ h3 => ?_) (fun a b r hE => ?_)
    rotate_left
    · simp only [mE_w hE, ↓reduceIte]
      exact zok_s hE
    have hw3 := h3.1.2.1
    have hR3 := mS_R h3.1
    simp only [hw3, ↓reduceIte, rf_1277_1 hR3, zob_e, zoL_e, nI_1, sh_m0 hM, zoS_e]
    have hl := mS_p (a := 0) (j := 3) (v := nI (k + 1)) h3.1 (by decide)
    refine zok_s ⟨hl, ?_⟩
    show upd (a.1 0) 3 _ = _
    rw [sNode_0 e2]
  · have sT : ∀ q, sThing (mm.1 1186) n 4 k g q = sTrack (mm.1 1186) n k g q := fun q => rfl
    obtain ⟨v, hv1, hv2⟩ := hg 3 (by decide)
    simp only [sT, show (nI 4 = (0 : Int32)) = False from eq_false (by decide), show (nI 4 = (1 : Int32)) = False from eq_false (by decide), show (nI 4 = (2 : Int32)) = False from eq_false (by decide), show (nI 4 = (3 : Int32)) = False from eq_false (by decide), show (nI 4 = (4 : Int32)) = True from eq_true rfl, ↓reduceIte]
    refine oR_k (m_track h1.1 (by omega) (by omega) hv2) (fun a m2 e2 h2 => ?_) (fun a b r hE => ?_)
    rotate_left
    · simp only [m_signE hE, zob_e, mE_w hE, ↓reduceIte]
      exact zok_s hE
    refine oR_k (m_sign h2 (by decide) (by decide)) (fun p3 m3 _ h3 => ?_) (fun a b r hE => ?_)
    rotate_left
    · simp only [mE_w hE, ↓reduceIte]
      exact zok_s hE
    have hw3 := h3.1.2.1
    have hR3 := mS_R h3.1
    simp only [hw3, ↓reduceIte, rf_1277_1 hR3, zob_e, zoL_e, nI_1, sh_m0 hM, zoS_e]
    have hl := mS_p (a := 0) (j := 4) (v := nI (k + 1)) h3.1 (by decide)
    refine zok_s ⟨hl, ?_⟩
    show upd (a.1 0) 4 _ = _
    rw [sTrack_0 e2]
def oT (mm : zMem) (n : Nat) (s : Except (Nat × Nat) ((Nat → Nat → Int32) × Nat)) (F : Option (Nat × Int32 × Int32 × Int32 × Int32 × zMem)) : Prop := match s with
  | .ok a => zok F (fun q => q.1 = 1277 ∧ mS mm n a.2 a.1 q.2.2.2.2.2 ∧ gC a.1)
  | .error e => zok F (fun q => q.1 = 1277 ∧ mE mm e.1 e.2 q.2.2.2.2.2)
theorem oT_b {s : Except (Nat × Nat) ((Nat → Nat → Int32) × Nat)} {F : Option zMem} {K : zMem → Option (Nat × Int32 × Int32 × Int32 × Int32 × zMem)} {Q : zMem → Prop} (h : zok F Q) (k : ∀ m, Q m → oT mm n s (K m)) : oT mm n s (Option.bind F K) := by
  cases s with
  | error e => exact zok_b h k
  | ok a => exact zok_b h k
def thTl (t : Nat → Int32) (n : Nat) (a : Bool × Nat × (Nat → Nat → Int32) × Nat) : Except (Nat × Nat) ((Nat → Nat → Int32) × Nat) := if a.1 then .error (if a.2.2.2 < n ∧ t a.2.2.2 = 123 then 3 else 1, a.2.2.2) else .ok (a.2.2.1, a.2.2.2)
theorem mP_3 {m : zMem} {q : Nat} : (mP m q).1 1277 3 = nI q := by
  show (sI m 1277 _).1 1277 3 = _
  rw [sI_at]
  rfl
set_option maxHeartbeats 4000000 in
theorem m_thLp {c : Nat} (hc : c < 5) : ∀ (rem k : Nat) (g : Nat → Nat → Int32) (p fuel : Nat) (m : zMem), rem + 1 < fuel → k + rem = lim c → mS mm n p g m → gC g → oT mm n ((thLp (mm.1 1186) n c rem k g p).bind (thTl (mm.1 1186) n)) (L_MReader_things_31 (sh0 W H) fuel 1277 (nI c) (nI (lim c)) (nI k) 1 m) := by
  have l48 := lim_48 hc
  have stopE : ∀ (fu k q : Nat) (x : Int32) (m2 : zMem), 0 < fu → mE mm k q m2 → zok (L_MReader_things_31 (sh0 W H) fu 1277 (nI c) (nI (lim c)) x 0 m2) (fun z => z.1 = 1277 ∧ mE mm k q z.2.2.2.2.2) := by
    intro fu k q x m2 hf he
    obtain ⟨fu, rfl⟩ : ∃ q, fu = q + 1 := ⟨fu - 1, by omega⟩
    simp only [L_MReader_things_31, i0eq0, ↓reduceIte]
    exact zok_s ⟨rfl, he⟩
  intro rem
  induction rem with
  | zero =>
    intro k g p fuel m hf hk h hg
    obtain ⟨fu, rfl⟩ : ∃ fu, fuel = fu + 1 := ⟨fuel - 1, by omega⟩
    obtain rfl : k = lim c := by omega
    have h4 := h.2.1
    have b1 := bb_eq (t := mm.1 1186) (n := n) (k := p) (mS_b h) (c := 123) (by decide) (by decide)
    simp only [L_MReader_things_31, i1ne0, sh_1277, zoS_e, h4, ↓reduceIte, m_next' h, zob_e, mP_3, b1]
    show oT mm n (.error (if p < n ∧ mm.1 1186 p = 123 then 3 else 1, p)) _
    by_cases hx : p < n ∧ mm.1 1186 p = 123
    · rw [if_pos hx, if_pos hx]
      refine zok_b (m_fail (k := 3) (q := p) (mS_Pp h) (by decide)) (fun m1 h1 => ?_)
      simp only [mE_w h1, ↓reduceIte]
      exact stopE fu 3 p _ m1 (by omega) h1
    · rw [if_neg hx, if_neg hx]
      refine zok_b (m_bad (mS_Pp h) hx) (fun m1 h1 => ?_)
      simp only [mE_w h1, ↓reduceIte]
      exact stopE fu 1 p _ m1 (by omega) h1
  | succ rem ih =>
    intro k g p fuel m hf hk h hg
    obtain ⟨fu, rfl⟩ : ∃ fu, fuel = fu + 1 := ⟨fuel - 1, by omega⟩
    have h4 := h.2.1
    have hkn : (nI k = nI (lim c)) = False := eq_false (by rw [nI_eqD (by omega) (by omega)]; omega)
    rw [thLp_s]
    simp only [L_MReader_things_31, i1ne0, sh_1277, zoS_e, h4, ↓reduceIte, m_next' h, zob_e, hkn, ite_self]
    have hq := m_thing (W := W) (H := H) (mS_Pp h) hc (k := k) (by omega) hg
    cases hs : sOne (mm.1 1186) n c k g p with
    | error e =>
      rw [hs] at hq
      refine zok_b hq (fun m1 h1 => ?_)
      simp only [mE_w h1, ↓reduceIte]
      exact stopE fu _ _ _ m1 (by omega) h1
    | ok a =>
      rw [hs] at hq
      show oT mm n (Except.bind (if a.2 < n ∧ mm.1 1186 a.2 = 44 then _ else _) _) _
      refine oT_b hq (fun m1 h1 => ?_)
      obtain ⟨h1, e0⟩ := h1
      have hg1 : gC a.1 := gC_up hg (show k + 1 ≤ lim c by omega) e0
      have h14 := h1.2.1
      have b2 := bb_eq (t := mm.1 1186) (n := n) (k := a.2) (mS_b h1) (c := 44) (by decide) (by decide)
      simp only [h14, ↓reduceIte, m_next' h1, zob_e, b2, mP_3, zoL_e, nI_1]
      by_cases hcm : a.2 < n ∧ mm.1 1186 a.2 = 44
      · rw [if_pos hcm, if_pos hcm]
        have hMP := mS_P (mS_Pp h1) (q := a.2 + 1) (by omega)
        exact ih (k + 1) a.1 _ fu (mI (mP m1 a.2) 1277 3 (nI (a.2 + 1))) (by omega) (by omega) (by rw [mI_sI]; exact hMP) hg1
      · rw [if_neg hcm, if_neg hcm]
        obtain ⟨fu, rfl⟩ : ∃ q, fu = q + 1 := ⟨fu - 1, by omega⟩
        simp only [L_MReader_things_31, i0eq0, ↓reduceIte]
        exact zok_s ⟨rfl, mS_Pp h1, hg1⟩
theorem sThings_b {t : Nat → Int32} {n c p : Nat} {g : Nat → Nat → Int32} : sThings t n c g p = (sgn t n 91 p).bind fun p1 => (if p1 < n ∧ t p1 = 93 then .ok (g, p1) else (thLp t n c (lim c) 0 g p1).bind (thTl t n)).bind fun a => (sgn t n 93 a.2).bind fun q => .ok (a.1, q) := by
  unfold sThings
  congr 1
  funext p1
  by_cases hx : p1 < n ∧ t p1 = 93
  · rw [if_pos hx, if_pos hx]
    show Except.map _ _ = Except.bind (sgn t n 93 p1) _
    cases sgn t n 93 p1 <;> rfl
  · rw [if_neg hx, if_neg hx]
    cases thLp t n c (lim c) 0 g p1 with
    | error e => rfl
    | ok a =>
      obtain ⟨a0, a1, a2, a3⟩ := a
      cases a0 with
      | true => rfl
      | false =>
        show Except.map _ (sgn t n 93 a3) = Except.bind (sgn t n 93 a3) _
        cases sgn t n 93 a3 <;> rfl
set_option maxHeartbeats 4000000 in
theorem m_things {p : Nat} {g : Nat → Nat → Int32} {m : zMem} (h : mS mm n p g m) {c : Nat} (hc : c < 5) (hg : gC g) : oR (sThings (mm.1 1186) n c g p) (F_MReader_things (sh0 W H) m 1277 (nI c) (nI (lim c))) (fun a m' => mS mm n a.2 a.1 m' ∧ gC a.1) (mE mm) := by
  have l48 := lim_48 hc
  have stop : ∀ (m2 : zMem), L_MReader_things_31 (sh0 W H) zfuel 1277 (nI c) (nI (lim c)) 0 0 m2 = some (1277, nI c, nI (lim c), 0, 0, m2) := by
    intro m2
    rw [zfuel_s]
    simp only [L_MReader_things_31, i0eq0, ↓reduceIte]
  rw [sThings_b]
  unfold F_MReader_things
  simp only [sh_1277, zoS_e]
  refine oR_k (m_sign h (by decide) (by decide)) (fun p1 m1 _ h1 => ?_) (fun a b r hE => ?_)
  rotate_left
  · simp only [mE_w hE, ↓reduceIte, stop, zob_e, sh_1277, zoS_e, m_signE hE]
    exact zok_s hE
  have hw1 := h1.1.2.1
  have b1 := bb_eq (t := mm.1 1186) (n := n) (k := p1) (mS_b h1.1) (c := 93) (by decide) (by decide)
  simp only [hw1, ↓reduceIte, m_next' h1.1, zob_e, b1]
  by_cases hx : p1 < n ∧ mm.1 1186 p1 = 93
  · rw [if_pos hx, if_pos hx]
    simp only [stop, zob_e, sh_1277, zoS_e]
    show oR (Except.bind (sgn (mm.1 1186) n 93 p1) _) _ _ _
    refine oR_k (m_sign (mS_Pp h1.1) (by decide) (by decide)) (fun p2 m2 _ h2 => ?_) (fun a b r hE => zok_s hE)
    exact zok_s ⟨h2.1, hg⟩
  · rw [if_neg hx, if_neg hx]
    have hq := m_thLp (W := W) (H := H) hc (lim c) 0 g p1 zfuel (mP m1 p1) (zf_lt (by omega)) (by omega) (mS_Pp h1.1) hg
    rw [← nI_k0] at hq
    cases hs : (thLp (mm.1 1186) n c (lim c) 0 g p1).bind (thTl (mm.1 1186) n) with
    | error e =>
      rw [hs] at hq
      refine zok_b hq (fun q hq => ?_)
      rw [hq.1]
      simp only [sh_1277, zoS_e, m_signE hq.2, zob_e]
      exact zok_s hq.2
    | ok a =>
      rw [hs] at hq
      obtain ⟨q, e, q1, q2, q3⟩ := hq
      rw [e]
      simp only [zob_e]
      rw [q1]
      simp only [sh_1277, zoS_e]
      show oR (Except.bind (sgn (mm.1 1186) n 93 a.2) _) _ _ _
      refine oR_k (m_sign q2 (by decide) (by decide)) (fun p2 m2 _ h2 => ?_) (fun a b r hE => zok_s hE)
      exact zok_s ⟨h2.1, q3⟩
end ZMV
