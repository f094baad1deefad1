/-! PURE: the class reads a whole text: its parts in order -/
theorem RscG_vw {f f' : Nat → Nat → Int32} {s : Nat} {g g' : Nat → Nat → Int32} (h : RscG f s g) (F : ∀ b, s ≤ b → b ≠ s + 23 → b ≠ s + 24 → f' b = f b) (G : ∀ b, b ≠ 0 → b ≠ 27 → b ≠ 28 → b ≠ 29 → g' b = g b) (G0 : ∀ c, c ≠ 34 → c ≠ 35 → g' 0 c = g 0 c) (hc : Rcam f' s g' ∧ Wcam g') (hl : Rlmp f' s g' ∧ Wlmp g') : RscG f' s g' := by
  obtain ⟨R1, R2, R3, R4, R5, R6, R7, R8, R9⟩ := h
  have ec : ∀ c, c < 5 → cn g' c = cn g c := fun c hc => by
    unfold cn
    rw [G0 c (by omega) (by omega)]
  have mono : ∀ d, d < 5 → (g 0 d).toInt ≤ (g' 0 d).toInt := fun d hd => by rw [G0 d (by omega) (by omega)]; exact Int.le_refl _
  refine ⟨fun c hc => ?_, fun i hi => ?_, fun i hi => ?_, fun i hi => ?_, fun i hi => ?_, fun i hi => ?_, fun i hi => ?_, hc, hl⟩
  · rw [F _ (by omega) (by omega) (by omega), G0 c (by omega) (by omega), ec c hc]
    exact R1 c hc
  · rw [F _ (by unfold txA; omega) (by unfold txA; omega) (by unfold txA; omega)]
    exact R2 i hi
  · rw [ec 0 (by decide)] at hi
    exact RtxG_c (F _ (by unfold txA; omega) (by unfold txA; omega) (by unfold txA; omega)) (F _ (by unfold txA; omega) (by unfold txA; omega) (by unfold txA; omega)) (F _ (by unfold txA; omega) (by unfold txA; omega) (by unfold txA; omega)) (congrFun (G 1 (by decide) (by decide) (by decide) (by decide)) _) (congrFun (G 2 (by decide) (by decide) (by decide) (by decide)) _) (congrFun (G 3 (by decide) (by decide) (by decide) (by decide)) _) (fun _ _ => congrFun (G 4 (by decide) (by decide) (by decide) (by decide)) _) (R3 i hi)
  · rw [ec 1 (by decide)] at hi
    have := (R1 1 (by decide)).2.2
    have := lim_v
    exact RmtG_c (F _ (by omega) (by omega) (by omega)) (fun _ _ => congrFun (G 5 (by decide) (by decide) (by decide) (by decide)) _) (congrFun (G 6 (by decide) (by decide) (by decide) (by decide)) _) (congrFun (G 7 (by decide) (by decide) (by decide) (by decide)) _) (mono 0 (by decide)) (R4 i hi)
  · rw [ec 2 (by decide)] at hi
    exact RmsG_c (fun e he => F _ (by unfold msA; omega) (by unfold msA; omega) (by unfold msA; omega)) (congrFun (G 8 (by decide) (by decide) (by decide) (by decide)) _) (congrFun (G 9 (by decide) (by decide) (by decide) (by decide)) _) (congrFun (G 10 (by decide) (by decide) (by decide) (by decide)) _) (fun _ _ => ⟨congrFun (G 11 (by decide) (by decide) (by decide) (by decide)) _, congrFun (G 12 (by decide) (by decide) (by decide) (by decide)) _, congrFun (G 14 (by decide) (by decide) (by decide) (by decide)) _, fun _ => congrFun (G 13 (by decide) (by decide) (by decide) (by decide)) _⟩) (mono 1 (by decide)) (R5 i hi)
  · rw [ec 3 (by decide)] at hi
    exact RndG_c (fun _ _ => congrFun (F _ (by unfold ndA; omega) (by unfold ndA; omega) (by unfold ndA; omega)) _) (F _ (by unfold ndA; omega) (by unfold ndA; omega) (by unfold ndA; omega)) (congrFun (G 15 (by decide) (by decide) (by decide) (by decide)) _) (congrFun (G 16 (by decide) (by decide) (by decide) (by decide)) _) (congrFun (G 20 (by decide) (by decide) (by decide) (by decide)) _) (fun _ _ => ⟨congrFun (G 17 (by decide) (by decide) (by decide) (by decide)) _, congrFun (G 18 (by decide) (by decide) (by decide) (by decide)) _, congrFun (G 19 (by decide) (by decide) (by decide) (by decide)) _⟩) (mono 2 (by decide)) (R6 i hi)
  · rw [ec 4 (by decide)] at hi
    exact RtkG_c (fun e he => F _ (by unfold tkA; omega) (by unfold tkA; omega) (by unfold tkA; omega)) (congrFun (G 21 (by decide) (by decide) (by decide) (by decide)) _) (congrFun (G 22 (by decide) (by decide) (by decide) (by decide)) _) (congrFun (G 23 (by decide) (by decide) (by decide) (by decide)) _) (congrFun (G 24 (by decide) (by decide) (by decide) (by decide)) _) (fun _ _ => ⟨congrFun (G 26 (by decide) (by decide) (by decide) (by decide)) _, fun _ => congrFun (G 25 (by decide) (by decide) (by decide) (by decide)) _⟩) (mono 3 (by decide)) (R7 i hi)
theorem RscG_ext {f f' : Nat → Nat → Int32} {s : Nat} {g : Nat → Nat → Int32} (F : ∀ b, s ≤ b → f' b = f b) (h : RscG f s g) : RscG f' s g := RscG_vw h (fun b hb _ _ => F b hb) (fun _ _ _ _ _ => rfl) (fun _ _ _ => rfl) (Rcam_c (F _ (by omega)) rfl rfl rfl h.2.2.2.2.2.2.2.1) (Rlmp_c (F _ (by omega)) rfl rfl h.2.2.2.2.2.2.2.2)
def sPart (t : Nat → Int32) (n c : Nat) (g : Nat → Nat → Int32) (p : Nat) : Except (Nat × Nat) ((Nat → Nat → Int32) × Nat) := if c = 5 then sCamera t n g p else if c = 6 then sLight t n g p else sThings t n c g p
def pLp (t : Nat → Int32) (n : Nat) : Nat → Nat → (Nat → Nat → Int32) → Nat → Except (Nat × Nat) (Bool × (Nat → Nat → Int32) × Nat)
  | 0, _, g, p => .ok (true, g, p)
  | rem + 1, part, g, p => if wrd t n (3 + part) p then (nam t n (3 + part) p).bind fun p1 => (sPart t n part g p1).bind fun a => if part < 6 ∧ (a.2 < n ∧ t a.2 = 44) then pLp t n rem (part + 1) a.1 (wp t n (a.2 + 1)) else .ok (false, a.1, a.2) else pLp t n rem (part + 1) g p
def ocM {α : Type} (s : Except (Nat × Nat) α) (L : Option (Nat × Int32 × Int32 × zMem)) (LT : Option (Nat × Nat × Int32 × Int32 × zMem)) (P : α → Nat × Int32 × Int32 × zMem → Prop) (E : Nat → Nat → zMem → Prop) : Prop := match s with
  | .ok a => ∃ q, L = some q ∧ LT = some (1, q) ∧ P a q
  | .error e => L = none ∧ ∃ q, LT = some q ∧ q.1 = 0 ∧ E e.1 e.2 q.2.2.2.2
theorem ocM_k {α β γ : Type} {s : Except (Nat × Nat) α} {F : Option β} {T : Option zMem} {P : α → β → Prop} {E : Nat → Nat → zMem → Prop} {s' : α → Except (Nat × Nat) γ} {KF : β → Option (Nat × Int32 × Int32 × zMem)} {KT : β → Option (Nat × Nat × Int32 × Int32 × zMem)} {P' : γ → Nat × Int32 × Int32 × zMem → Prop} (h : oc s F T P E) (k : ∀ a r, s = .ok a → P a r → ocM (s' a) (KF r) (KT r) P' E) : ocM (s.bind s') (Option.bind F KF) (zoX F (Option.bind T (fun mq => some (0, (0 : Nat), (0 : Int32), (0 : Int32), mq))) KT) P' E := by
  cases s with
  | error e =>
    obtain ⟨h1, m, h2, h3⟩ := h
    rw [h1, h2]
    exact ⟨rfl, _, rfl, rfl, h3⟩
  | ok a =>
    obtain ⟨r, h1, h2⟩ := h
    rw [h1]
    exact k a r rfl h2
theorem e_wordOf {sh : zSh} {m : zMem} {c : Nat} (hc : c < 7) : F_XReader_wordOf sh m (nI c) = some (3 + c, m) := by
  rcases (show c = 0 ∨ c = 1 ∨ c = 2 ∨ c = 3 ∨ c = 4 ∨ c = 5 ∨ c = 6 by omega) with rfl | rfl | rfl | rfl | rfl | rfl | rfl <;> rfl
section ZRP
variable {W H : Nat} {mm : zMem} {s n : Nat}
theorem q_name {q i : Nat} {m : zMem} {f : Nat → Nat → Int32} (h : rdQ mm s n q f m) (hi67 : i < 67) : oc (nam (mm.1 1) n i q) (F_XReader_needName (sh0 W H) m 3 i) (T_XReader_needName (sh0 W H) m 3 i) (fun q' m' => rdQ mm s n q' f m') (rdZ mm s) := by
  have hx := c_needName' (W := W) (H := H) (m0 := m) (rdQ_S h) hi67 rw4_r
  rw [rdQ_t h] at hx
  cases hs : nam (mm.1 1) n i q with
  | error e =>
    rw [hs] at hx
    obtain ⟨x1, m', x2, x3⟩ := hx
    exact ⟨x1, m', x2, rdZ_w h x3⟩
  | ok p1 =>
    rw [hs] at hx
    obtain ⟨m', x1, x2, x3, x4⟩ := hx
    exact ⟨m', x1, rdQ_w h x2 x3 (by rw [x4]; exact rw4_P rw4_r)⟩
/-- a part, whichever it is -/
theorem q_part {c q : Nat} (hc : c < 7) {m : zMem} {f g : Nat → Nat → Int32} (h : rdQ mm s n q f m) (hR : RscG f s g) (hcn : c < 5 → cn g c = 0) : oc (sPart (mm.1 1) n c g q) (if nI c = 5 then F_XReader_readCamera (sh0 W H) m 3 else if nI c = 6 then F_XReader_readLight (sh0 W H) m 3 else F_XReader_readThings (sh0 W H) m 3 (nI c)) (if nI c = 5 then T_XReader_readCamera (sh0 W H) m 3 else if nI c = 6 then T_XReader_readLight (sh0 W H) m 3 else T_XReader_readThings (sh0 W H) m 3 (nI c)) (fun a m' => ∃ f', rdQ mm s n a.2 f' m' ∧ RscG f' s a.1 ∧ ∀ d, d < 5 → d ≠ c → a.1 0 d = g 0 d) (rdZ mm s) := by
  unfold sPart
  by_cases h5 : c = 5
  · subst h5
    rw [if_pos rfl, if_pos (by decide), if_pos (by decide)]
    have hx := q_camera (W := W) (H := H) h g
    cases hsp : sCamera (mm.1 1) n g q with
    | error e => rw [hsp] at hx; exact hx
    | ok a =>
      rw [hsp] at hx
      obtain ⟨m', x1, f', x2, x3, x4, x5, x6, x7⟩ := hx
      exact ⟨m', x1, f', x2, RscG_vw hR (fun b _ h1 _ => x3 b h1) (fun b h0 h1 h2 _ => x6 b h0 h1 h2) (fun c hc _ => x7 c hc) ⟨x4, x5⟩ (Rlmp_c (x3 _ (by omega)) (x6 29 (by decide) (by decide) (by decide)) (x7 35 (by decide)) hR.2.2.2.2.2.2.2.2), fun d hd _ => x7 d (by omega)⟩
  · rw [if_neg h5]
    have k5 : ¬ nI c = 5 := by rw [nI_k5, nI_eqD (by omega) (by decide)]; exact h5
    rw [if_neg k5, if_neg k5]
    by_cases h6 : c = 6
    · subst h6
      rw [if_pos rfl, if_pos (by decide), if_pos (by decide)]
      have hx := q_light (W := W) (H := H) h g
      cases hsp : sLight (mm.1 1) n g q with
      | error e => rw [hsp] at hx; exact hx
      | ok a =>
        rw [hsp] at hx
        obtain ⟨m', x1, f', x2, x3, x4, x5, x6, x7⟩ := hx
        exact ⟨m', x1, f', x2, RscG_vw hR (fun b _ _ h1 => x3 b h1) (fun b h0 _ _ h3 => x6 b h0 h3) (fun c _ hc => x7 c hc) (Rcam_c (x3 _ (by omega)) (x6 27 (by decide) (by decide)) (x6 28 (by decide) (by decide)) (x7 34 (by decide)) hR.2.2.2.2.2.2.2.1) ⟨x4, x5⟩, fun d hd _ => x7 d (by omega)⟩
    · rw [if_neg h6]
      have k6 : ¬ nI c = 6 := by rw [nI_k6, nI_eqD (by omega) (by decide)]; exact h6
      rw [if_neg k6, if_neg k6]
      have hx := q_things (W := W) (H := H) (c := c) (by omega) h hR (hcn (by omega))
      cases hsp : sThings (mm.1 1) n c g q with
      | error e => rw [hsp] at hx; exact hx
      | ok a =>
        rw [hsp] at hx
        obtain ⟨m', x1, f', x2, x3, x4⟩ := hx
        exact ⟨m', x1, f', x2, x3, fun d _ hd => x4 d hd⟩
set_option maxHeartbeats 4000000 in
theorem q_pLp : ∀ (rem part : Nat) (g : Nat → Nat → Int32) (p fuel : Nat) (m : zMem) (f : Nat → Nat → Int32), rem < fuel → part + rem = 7 → rdQ mm s n p f m → RscG f s g → (∀ c, c < 5 → part ≤ c → cn g c = 0) → ocM (pLp (mm.1 1) n rem part g p) (L_XReader_read_67 (sh0 W H) fuel 3 1 (nI part) m) (L_T_XReader_read_67 (sh0 W H) fuel 3 1 (nI part) m) (fun a q => q.1 = 3 ∧ q.2.1 = b32 a.1 ∧ ∃ f', rdQ mm s n a.2.2 f' q.2.2.2 ∧ RscG f' s a.2.1) (rdZ mm s) := by
  intro rem
  induction rem with
  | zero =>
    intro part g p fuel m f hf hp h hR hc
    obtain ⟨fu, rfl⟩ : ∃ fu, fuel = fu + 1 := ⟨fuel - 1, by omega⟩
    obtain rfl : part = 7 := by omega
    have c1 : ((6 : Int32) < nI 7) = True := eq_true (by decide)
    simp only [pLp, L_XReader_read_67, L_T_XReader_read_67, c1, ↓reduceIte]
    exact ⟨_, rfl, rfl, rfl, rfl, f, h, hR⟩
  | succ rem ih =>
    intro part g p fuel m f hf hp h hR hc
    obtain ⟨fu, rfl⟩ : ∃ fu, fuel = fu + 1 := ⟨fuel - 1, by omega⟩
    have c1 : ((6 : Int32) < nI part) = False := eq_false (by rw [nI_k6, nI_ltD (by decide) (by omega)]; omega)
    have ht := rdQ_t h
    have hsw := c_seesWord (W := W) (H := H) (rdQ_S h) (i := 3 + part) (by omega)
    rw [ht] at hsw
    simp only [pLp, L_XReader_read_67, L_T_XReader_read_67, c1, i1ne0, ↓reduceIte, e_wordOf (show part < 7 by omega), zob_e, sh_3, zoS_e, hsw, nI_1]
    by_cases hw : wrd (mm.1 1) n (3 + part) p = true
    · simp only [hw, i1ne0, ↓reduceIte, e_wordOf (show part < 7 by omega), zob_e, sh_3, zoS_e]
      refine ocM_k (q_name h (by omega)) (fun p1 m1 _ h1 => ?_)
      have hx := q_part (W := W) (H := H) (c := part) (by omega) h1 hR (fun h5 => hc part h5 (Nat.le_refl _))
      have tail : ∀ (a : (Nat → Nat → Int32) × Nat) (m2 : zMem), (∃ f', rdQ mm s n a.2 f' m2 ∧ RscG f' s a.1 ∧ ∀ d, d < 5 → d ≠ part → a.1 0 d = g 0 d) → ocM (if part < 6 ∧ (a.2 < n ∧ mm.1 1 a.2 = 44) then pLp (mm.1 1) n rem (part + 1) a.1 (wp (mm.1 1) n (a.2 + 1)) else .ok (false, a.1, a.2)) (if 6 ≤ nI part then L_XReader_read_67 (sh0 W H) fu 3 0 (nI (part + 1)) m2 else Option.bind (F_XReader_takes (sh0 W H) m2 3 44) (fun p54 => (if p54.1 = 0 then L_XReader_read_67 (sh0 W H) fu 3 0 (nI (part + 1)) p54.2 else L_XReader_read_67 (sh0 W H) fu 3 1 (nI (part + 1)) p54.2))) (if 6 ≤ nI part then L_T_XReader_read_67 (sh0 W H) fu 3 0 (nI (part + 1)) m2 else Option.bind (F_XReader_takes (sh0 W H) m2 3 44) (fun p54 => (if p54.1 = 0 then L_T_XReader_read_67 (sh0 W H) fu 3 0 (nI (part + 1)) p54.2 else L_T_XReader_read_67 (sh0 W H) fu 3 1 (nI (part + 1)) p54.2))) (fun a q => q.1 = 3 ∧ q.2.1 = b32 a.1 ∧ ∃ f', rdQ mm s n a.2.2 f' q.2.2.2 ∧ RscG f' s a.2.1) (rdZ mm s) := by
        intro a m2 hm
        obtain ⟨f2, h2, hR2, hd2⟩ := hm
        have ht2 := rdQ_t h2
        have htk := c_takes (W := W) (H := H) (rdQ_S h2) (by rw [ht2]; exact h2.1.2.1) 44
        rw [ht2] at htk
        have stop : ∀ m3 : zMem, rdQ mm s n a.2 f2 m3 → ocM (.ok (false, a.1, a.2) : Except (Nat × Nat) (Bool × (Nat → Nat → Int32) × Nat)) (L_XReader_read_67 (sh0 W H) fu 3 0 (nI (part + 1)) m3) (L_T_XReader_read_67 (sh0 W H) fu 3 0 (nI (part + 1)) m3) (fun a q => q.1 = 3 ∧ q.2.1 = b32 a.1 ∧ ∃ f', rdQ mm s n a.2.2 f' q.2.2.2 ∧ RscG f' s a.2.1) (rdZ mm s) := by
          intro m3 h3
          obtain ⟨fu, rfl⟩ : ∃ q, fu = q + 1 := ⟨fu - 1, by omega⟩
          simp only [L_XReader_read_67, L_T_XReader_read_67, i0eq0, ↓reduceIte, ite_self]
          exact ⟨_, rfl, rfl, rfl, rfl, f2, h3, hR2⟩
        by_cases h6 : part < 6
        · have k6 : ¬ 6 ≤ nI part := by rw [nI_k6, nI_leD (by decide) (by omega)]; omega
          rw [if_neg k6, if_neg k6, htk]
          by_cases hcm : a.2 < n ∧ mm.1 1 a.2 = 44
          · rw [if_pos ⟨h6, hcm⟩]
            simp only [if_pos hcm, zob_e, i1ne0, ↓reduceIte]
            have hS3 := rdP_S (rdQ_S h2) (wp_2 (t := mm.1 1) (show a.2 + 1 ≤ n by omega))
            have h3 := rdQ_w h2 (m' := rdP m2 (wp (mm.1 1) n (a.2 + 1))) hS3 (wp_id (by omega)) (rw4_P rw4_r)
            exact ih (part + 1) a.1 _ fu _ f2 (by omega) (by omega) h3 hR2 (fun c hc5 hpc => by
              have := hc c hc5 (by omega)
              unfold cn at this ⊢
              rw [hd2 c hc5 (by omega)]
              exact this)
          · rw [if_neg (fun q => hcm q.2)]
            simp only [if_neg hcm, zob_e, i0eq0, ↓reduceIte]
            exact stop m2 h2
        · have k6 : 6 ≤ nI part := by rw [nI_k6, nI_leD (by decide) (by omega)]; omega
          rw [if_pos k6, if_pos k6, if_neg (fun q => h6 q.1)]
          exact stop m2 h2
      by_cases h5 : nI part = 5
      · simp only [h5, ↓reduceIte] at hx tail ⊢
        exact ocM_k hx (fun a m2 _ hm => tail a m2 hm)
      · simp only [h5, ↓reduceIte] at hx ⊢
        by_cases h6 : nI part = 6
        · simp only [h6, ↓reduceIte] at hx tail ⊢
          exact ocM_k hx (fun a m2 _ hm => tail a m2 hm)
        · simp only [h6, ↓reduceIte] at hx ⊢
          exact ocM_k hx (fun a m2 _ hm => tail a m2 hm)
    · have hw' : wrd (mm.1 1) n (3 + part) p = false := by simpa using hw
      simp only [hw', i0eq0, ↓reduceIte, Bool.false_eq_true]
      exact ih (part + 1) g p fu m f (by omega) (by omega) h hR (fun c h5 hpc => hc c h5 (by omega))
end ZRP
