/-! PURE: the class's read -/
def rdTl (t : Nat → Int32) (n : Nat) (g : Nat → Nat → Int32) (p : Nat) : Except (Nat × Nat) (Nat → Nat → Int32) := (sgn t n 125 p).bind fun q => if q < n then .error (1, q) else .ok g
def sRead (t : Nat → Int32) (n : Nat) (g : Nat → Nat → Int32) : Except (Nat × Nat) (Nat → Nat → Int32) := (sgn t n 123 (wp t n 0)).bind fun p1 => if p1 < n ∧ t p1 = 125 then rdTl t n g p1 else (pLp t n 7 0 g p1).bind fun a => if a.1 then .error (1, a.2.2) else rdTl t n a.2.1 a.2.2
/-- a scene with nothing in it -/
def gClr (g : Nat → Nat → Int32) : Prop := (∀ c, c < 5 → g 0 c = 0) ∧ (∀ c, c < 3 → g 27 c = 0 ∧ g 28 c = 0) ∧ g 0 34 = 32 ∧ g 29 0 = 0 ∧ g 29 1 = 0 ∧ g 29 2 = -65536 ∧ g 0 35 = 16384
section ZRE
variable {W H : Nat} {mm : zMem} {s n : Nat}
/-- the end of a text -/
theorem q_tail {q : Nat} {m : zMem} {f g : Nat → Nat → Int32} (h : rdQ mm s n q f m) (hR : RscG f s g) : oc (rdTl (mm.1 1) n g q)
    (Option.bind (F_XReader_need (sh0 W H) m 3 125) (fun p96 => (if (p96.1 3 4) ≤ (p96.1 3 5) then some p96 else none)))
    (zoX (F_XReader_need (sh0 W H) m 3 125) (T_XReader_need (sh0 W H) m 3 125) (fun p100 => (if (p100.1 3 4) ≤ (p100.1 3 5) then none else T_XReader_refuse (sh0 W H) p100 3 1 (p100.1 3 5))))
    (fun g' m' => ∃ f' q', rdQ mm s n q' f' m' ∧ RscG f' s g') (rdZ mm s) := by
  refine oc_k (q_need h 125) (fun p1 m1 _ h1 => ?_)
  have hS := rdQ_S h1
  have hn := hS.2.2.2.2.1
  have hp := hS.2.2.2.2.2.1
  simp only [hS.2.1, hS.2.2.1]
  by_cases hq : p1 < n
  · rw [if_pos hq, if_neg (by rw [nI_leD (by omega) (by omega)]; omega), if_neg (by rw [nI_leD (by omega) (by omega)]; omega)]
    obtain ⟨m5, g1, g2⟩ := c_refuse (W := W) (H := H) (mm := m1) 1 p1
    exact ⟨rfl, m5, g1, rdZ_e h1 g2⟩
  · rw [if_neg hq, if_pos (by rw [nI_leD (by omega) (by omega)]; omega)]
    exact ⟨m1, rfl, f, p1, h1, hR⟩
set_option maxHeartbeats 4000000 in
theorem q_read0 {q : Nat} {m : zMem} {f g : Nat → Nat → Int32} (h : rdQ mm s n q f m) (hR : RscG f s g) (hc0 : ∀ c, c < 5 → cn g c = 0) : oc ((sgn (mm.1 1) n 123 q).bind fun p1 => if p1 < n ∧ mm.1 1 p1 = 125 then rdTl (mm.1 1) n g p1 else (pLp (mm.1 1) n 7 0 g p1).bind fun a => if a.1 then .error (1, a.2.2) else rdTl (mm.1 1) n a.2.1 a.2.2)
    (Option.bind (F_XReader_need (sh0 W H) m 3 123) (fun p30 => Option.bind (F_XReader_sees (sh0 W H) p30 3 125) (fun p33 => (if p33.1 = 0 then Option.bind (L_XReader_read_67 (sh0 W H) zfuel 3 1 0 p33.2) (fun q92 => (if q92.2.1 = 0 then zoS (sh0 W H q92.1) 7 (fun _ => Option.bind (F_XReader_need (sh0 W H) q92.2.2.2 q92.1 125) (fun p96 => zoS (sh0 W H q92.1) 7 (fun _ => zoS (sh0 W H q92.1) 7 (fun _ => (if (p96.1 q92.1 4) ≤ (p96.1 q92.1 5) then some p96 else zoS (sh0 W H q92.1) 7 (fun _ => zoS (sh0 W H q92.1) 7 (fun _ => none))))))) else zoS (sh0 W H q92.1) 7 (fun _ => zoS (sh0 W H q92.1) 7 (fun _ => none)))) else Option.bind (L_XReader_read_67 (sh0 W H) zfuel 3 0 0 p33.2) (fun q72 => (if q72.2.1 = 0 then zoS (sh0 W H q72.1) 7 (fun _ => Option.bind (F_XReader_need (sh0 W H) q72.2.2.2 q72.1 125) (fun p76 => zoS (sh0 W H q72.1) 7 (fun _ => zoS (sh0 W H q72.1) 7 (fun _ => (if (p76.1 q72.1 4) ≤ (p76.1 q72.1 5) then some p76 else zoS (sh0 W H q72.1) 7 (fun _ => zoS (sh0 W H q72.1) 7 (fun _ => none))))))) else zoS (sh0 W H q72.1) 7 (fun _ => zoS (sh0 W H q72.1) 7 (fun _ => none))))))))
    (zoX (F_XReader_need (sh0 W H) m 3 123) (T_XReader_need (sh0 W H) m 3 123) (fun p30 => Option.bind (F_XReader_sees (sh0 W H) p30 3 125) (fun p33 => (if p33.1 = 0 then Option.bind (L_T_XReader_read_67 (sh0 W H) zfuel 3 1 0 p33.2) (fun q96 => (if q96.1 = 1 then (if q96.2.2.1 = 0 then zoS (sh0 W H q96.2.1) 7 (fun _ => zoX (F_XReader_need (sh0 W H) q96.2.2.2.2 q96.2.1 125) (T_XReader_need (sh0 W H) q96.2.2.2.2 q96.2.1 125) (fun p100 => zoS (sh0 W H q96.2.1) 7 (fun _ => zoS (sh0 W H q96.2.1) 7 (fun _ => (if (p100.1 q96.2.1 4) ≤ (p100.1 q96.2.1 5) then none else zoS (sh0 W H q96.2.1) 7 (fun _ => zoS (sh0 W H q96.2.1) 7 (fun _ => T_XReader_refuse (sh0 W H) p100 q96.2.1 1 (p100.1 q96.2.1 5)))))))) else zoS (sh0 W H q96.2.1) 7 (fun _ => zoS (sh0 W H q96.2.1) 7 (fun _ => T_XReader_refuse (sh0 W H) q96.2.2.2.2 q96.2.1 1 (q96.2.2.2.2.1 q96.2.1 5)))) else some q96.2.2.2.2)) else Option.bind (L_T_XReader_read_67 (sh0 W H) zfuel 3 0 0 p33.2) (fun q76 => (if q76.1 = 1 then (if q76.2.2.1 = 0 then zoS (sh0 W H q76.2.1) 7 (fun _ => zoX (F_XReader_need (sh0 W H) q76.2.2.2.2 q76.2.1 125) (T_XReader_need (sh0 W H) q76.2.2.2.2 q76.2.1 125) (fun p80 => zoS (sh0 W H q76.2.1) 7 (fun _ => zoS (sh0 W H q76.2.1) 7 (fun _ => (if (p80.1 q76.2.1 4) ≤ (p80.1 q76.2.1 5) then none else zoS (sh0 W H q76.2.1) 7 (fun _ => zoS (sh0 W H q76.2.1) 7 (fun _ => T_XReader_refuse (sh0 W H) p80 q76.2.1 1 (p80.1 q76.2.1 5)))))))) else zoS (sh0 W H q76.2.1) 7 (fun _ => zoS (sh0 W H q76.2.1) 7 (fun _ => T_XReader_refuse (sh0 W H) q76.2.2.2.2 q76.2.1 1 (q76.2.2.2.2.1 q76.2.1 5)))) else some q76.2.2.2.2))))))
    (fun g' m' => ∃ f' q', rdQ mm s n q' f' m' ∧ RscG f' s g') (rdZ mm s) := by
  refine oc_k (q_need h 123) (fun p1 m1 _ h1 => ?_)
  have ht1 := rdQ_t h1
  have hsees := c_sees (W := W) (H := H) (rdQ_S h1) 125
  rw [ht1] at hsees
  rw [hsees]
  simp only [zob_e]
  by_cases hb : p1 < n ∧ mm.1 1 p1 = 125
  · simp only [if_pos hb, i1ne0, ↓reduceIte]
    have e1 : L_XReader_read_67 (sh0 W H) zfuel 3 0 0 m1 = some (3, 0, 0, m1) := by
      rw [zfuel_s]
      simp only [L_XReader_read_67, i0eq0, ↓reduceIte, ite_self]
    have e2 : L_T_XReader_read_67 (sh0 W H) zfuel 3 0 0 m1 = some (1, 3, 0, 0, m1) := by
      rw [zfuel_s]
      simp only [L_T_XReader_read_67, i0eq0, ↓reduceIte, ite_self]
    rw [e1, e2]
    simp only [zob_e, i0eq0, ↓reduceIte, sh_3, zoS_e]
    exact q_tail h1 hR
  · simp only [if_neg hb, i0eq0, ↓reduceIte]
    have hl := q_pLp (W := W) (H := H) (mm := mm) (n := n) 7 0 g p1 zfuel m1 f (zf_lt (by decide)) (by decide) h1 hR (fun c h5 _ => hc0 c h5)
    cases hth : pLp (mm.1 1) n 7 0 g p1 with
    | error e =>
      rw [hth] at hl
      obtain ⟨y1, q, y2, y3, y4⟩ := hl
      rw [nI_k0, y1, y2]
      simp only [zob_e]
      rw [if_neg (show ¬ q.1 = 1 by omega)]
      exact ⟨rfl, _, rfl, y4⟩
    | ok a =>
      obtain ⟨due, g2, p2⟩ := a
      rw [hth] at hl
      obtain ⟨⟨z0, z1, z2, m2⟩, y1, y2, y3, y4, f2, y5, y6⟩ := hl
      simp only at y3 y4 y5 y6
      subst y3
      rw [nI_k0, y1, y2]
      simp only [zob_e, ↓reduceIte, sh_3, zoS_e]
      rw [← nI_k0, y4]
      show oc (if due = true then _ else _) _ _ _ _
      have h52 := (rdQ_S y5).2.2.1
      cases due with
      | false =>
        simp only [show (b32 false = 0) = True from eq_true rfl, ↓reduceIte, Bool.false_eq_true]
        exact q_tail y5 y6
      | true =>
        simp only [show (b32 true = 0) = False from eq_false (by decide), ↓reduceIte, h52]
        obtain ⟨m5, g1, g2'⟩ := c_refuse (W := W) (H := H) (mm := m2) 1 p2
        exact ⟨rfl, m5, g1, rdZ_e y5 g2'⟩
/-- the reader's own cell and references when a text is begun -/
def rdB (mm : zMem) (s n : Nat) : zMem := mI (mI (mI (mR (mI (mR mm 3 3 (some 1)) 3 4 (nI n)) 3 7 (some s)) 3 5 0) 3 0 0) 3 1 0
theorem rdB_R {mm : zMem} {s n : Nat} (h : RF mm.2.2) : RF (rdB mm s n).2.2 := by
  show RF (mR (mI (mR mm 3 3 (some 1)) 3 4 (nI n)) 3 7 (some s)).2.2
  exact RF_u (m := mI (mR mm 3 3 (some 1)) 3 4 (nI n)) (RF_u h (by unfold rMut; omega)) (by unfold rMut; omega)
theorem rdB_3 {mm : zMem} {s n : Nat} : (rdB mm s n).2.2 3 3 = some 1 ∧ (rdB mm s n).2.2 3 7 = some s := by
  constructor
  · show (mR (mI (mR mm 3 3 (some 1)) 3 4 (nI n)) 3 7 (some s)).2.2 3 3 = some 1
    rw [mR_ne (by decide), mI_R]
    exact mR_e
  · show (mR (mI (mR mm 3 3 (some 1)) 3 4 (nI n)) 3 7 (some s)).2.2 3 7 = some s
    exact mR_e
theorem rdB_o {mm : zMem} {s n a : Nat} (h : a ≠ 3) : (rdB mm s n).1 a = mm.1 a := by
  unfold rdB
  rw [mI_sI, sI_ne h, mI_sI, sI_ne h, mI_sI, sI_ne h]
  show (mI (mR mm 3 3 (some 1)) 3 4 (nI n)).1 a = _
  rw [mI_sI, sI_ne h]
  rfl
theorem rdB_c {mm : zMem} {s n : Nat} : (rdB mm s n).1 3 4 = nI n ∧ (rdB mm s n).1 3 5 = 0 ∧ (rdB mm s n).1 3 0 = 0 ∧ (rdB mm s n).1 3 1 = 0 := by
  unfold rdB
  refine ⟨?_, ?_, ?_, ?_⟩ <;> simp [mI, mR, upd]
set_option maxHeartbeats 4000000 in
theorem q_read (hR : RF mm.2.2) (hs : gS s) (hn : n ≤ 65536) (hst : ∀ i, i < 8 → mm.1 (txA s i + 2) 0 = 0) {g : Nat → Nat → Int32} (hg : gClr g) : oc (sRead (mm.1 1) n g) (F_XReader_read (sh0 W H) mm 3 1 (nI n) s) (T_XReader_read (sh0 W H) mm 3 1 (nI n) s) (fun g' m' => m'.1 3 0 = 0 ∧ m'.1 3 1 = 0 ∧ RscG m'.1 s g' ∧ m'.1 s 8 = 0 ∧ m'.1 s 9 = 0 ∧ m'.2 = (rdB mm s n).2 ∧ ∀ a, a ≠ 3 → a ≠ 4 → ¬ (s ≤ a ∧ a < s + 370) → m'.1 a = mm.1 a) (fun k q m => m.1 3 0 = nI k ∧ m.1 3 1 = nI q ∧ m.2 = (rdB mm s n).2 ∧ (∀ a, a ≠ 3 → a ≠ 4 → ¬ (s ≤ a ∧ a < s + 370) → m.1 a = mm.1 a) ∧ ∀ i, i < 8 → m.1 (txA s i + 2) 0 = 0) := by
  have hRB := rdB_R (s := s) (n := n) hR
  have h37 := (rdB_3 (mm := mm) (s := s) (n := n)).2
  have hs3 : ∀ e, e < 370 → s + e ≠ 3 ∧ s + e ≠ 4 ∧ s + e ≠ 1 := fun e he => by rcases hs with h | h | h <;> omega
  have hs00 : s ≠ 3 := by rcases hs with h | h | h <;> omega
  have hs01 : s ≠ 4 := by rcases hs with h | h | h <;> omega
  obtain ⟨b1, b2, b3, b4⟩ := rdB_c (mm := mm) (s := s) (n := n)
  unfold F_XReader_read T_XReader_read
  simp only [sh_3, zoS_e, zoL_e]
  show oc _ (Option.bind ((rdB mm s n).2.2 3 7) (fun a21 => zoS (sh0 W H a21) 8 (fun _ => Option.bind (F_XScene_clear (sh0 W H) (rdB mm s n) a21) _))) (Option.bind ((rdB mm s n).2.2 3 7) (fun a21 => zoS (sh0 W H a21) 8 (fun _ => Option.bind (F_XScene_clear (sh0 W H) (rdB mm s n) a21) _))) _ _
  rw [h37]
  simp only [zob_e, sh_s0 hs, zoS_e]
  obtain ⟨m1, c0, c1, c2, c3, c4, c5, c6, c7, c8, c9, c10, c11, c12⟩ := e_clear (W := W) (H := H) hs hRB
  rw [c0]
  simp only [zob_e]
  have e3 : m1.1 3 = (rdB mm s n).1 3 := c2 3 (Ne.symm hs00) (Ne.symm (hs3 1 (by decide)).1) (Ne.symm (hs3 23 (by decide)).1) (Ne.symm (hs3 24 (by decide)).1)
  have e1 : m1.1 1 = mm.1 1 := by
    rw [c2 1 (by rcases hs with h | h | h <;> omega) (Ne.symm (hs3 1 (by decide)).2.2) (Ne.symm (hs3 23 (by decide)).2.2) (Ne.symm (hs3 24 (by decide)).2.2), rdB_o (by decide)]
  have hS1 : rdS m1 n 0 := ⟨by rw [c1]; exact hRB, by rw [e3]; exact b1, by rw [e3]; exact b2, by rw [c1]; exact rdB_3.1, hn, by omega, by rw [e3]; exact b3, by rw [e3]; exact b4⟩
  have hstep := c_step (W := W) (H := H) hS1 (k := 0) (by omega)
  rw [e1, Nat.zero_add] at hstep
  rw [show (0 : Int32) = nI 0 from rfl, hstep]
  simp only [zob_e, ← nI_k0]
  have hq : rdQ (sI (rdB mm s n) s (m1.1 s)) s n (wp (mm.1 1) n 0) m1.1 (rdP m1 (wp (mm.1 1) n 0)) := by
    refine ⟨⟨rdP_S hS1 (wp_2 (by omega)), ?_, c1, fun a h3 _ => rdP_o h3⟩, hs, ⟨h37, fun i hi => ?_⟩, fun a ha => ?_⟩
    · rw [sI_ne (by rcases hs with h | h | h <;> omega), rdB_o (by decide)]
      exact wp_id (by omega)
    · rw [c2 _ (by unfold txA; omega) (by unfold txA; omega) (by unfold txA; omega) (by unfold txA; omega), rdB_o (by rcases hs with h | h | h <;> (unfold txA; omega)), hst i hi]
    · by_cases e : a = s
      · rw [e, sI_at]
      · rw [sI_ne e, c2 a e (by omega) (by omega) (by omega)]
  have et : (sI (rdB mm s n) s (m1.1 s)).1 1 = mm.1 1 := by rw [sI_ne (by rcases hs with h | h | h <;> omega), rdB_o (by decide)]
  obtain ⟨g1, g2, g3, g4, g5, g6, g7⟩ := hg
  have z0 : cn g 0 = 0 ∧ cn g 1 = 0 ∧ cn g 2 = 0 ∧ cn g 3 = 0 ∧ cn g 4 = 0 := by
    unfold cn
    rw [g1 0 (by decide), g1 1 (by decide), g1 2 (by decide), g1 3 (by decide), g1 4 (by decide)]
    decide
  have zc : ∀ c, c < 5 → cn g c = 0 := fun c hc => by
    unfold cn
    rw [g1 c hc]
    rfl
  have hsc : RscG m1.1 s g := by
    refine ⟨fun c hc => ⟨by rw [c3 c hc, g1 c hc], by rw [zc c hc, g1 c hc]; rfl, by rw [zc c hc]; omega⟩, fun i hi => ?_, fun i hi => by rw [z0.1] at hi; omega, fun i hi => by rw [z0.2.1] at hi; omega, fun i hi => by rw [z0.2.2.1] at hi; omega, fun i hi => by rw [z0.2.2.2.1] at hi; omega, fun i hi => by rw [z0.2.2.2.2] at hi; omega, ⟨⟨fun c hc => ?_, by rw [c5, g3]⟩, ⟨fun c hc => ?_, ?_⟩⟩, ⟨⟨fun c hc => ?_, by rw [c9, g7]⟩, ⟨fun c hc => ?_, ?_⟩⟩⟩
    · rw [c2 _ (by unfold txA; omega) (by unfold txA; omega) (by unfold txA; omega) (by unfold txA; omega), rdB_o (by rcases hs with h | h | h <;> (unfold txA; omega)), hst i hi]
    · rw [c4 c (by omega), c4 (3 + c) (by omega), (g2 c hc).1, (g2 c hc).2]
      exact ⟨rfl, rfl⟩
    · rw [(g2 c hc).1, (g2 c hc).2]
      decide
    · rw [g3]
      decide
    · rcases lt3 hc with rfl | rfl | rfl
      · rw [c6, g4]
      · rw [c7, g5]
      · rw [c8, g6]
    · rcases lt3 hc with rfl | rfl | rfl
      · rw [g4]; decide
      · rw [g5]; decide
      · rw [g6]; decide
    · rw [g7]
      decide
  have hx := q_read0 (W := W) (H := H) hq hsc zc
  rw [et] at hx
  have fr : ∀ m' : zMem, (∀ a, a ≠ 3 → a ≠ 4 → ¬ (s ≤ a ∧ a < s + 370) → m'.1 a = (sI (rdB mm s n) s (m1.1 s)).1 a) → ∀ a, a ≠ 3 → a ≠ 4 → ¬ (s ≤ a ∧ a < s + 370) → m'.1 a = mm.1 a := fun m' h a h3 h4 ha => by
    rw [h a h3 h4 ha, sI_ne (by omega), rdB_o h3]
  show oc (sRead (mm.1 1) n g) _ _ _ _
  cases hsr : sRead (mm.1 1) n g with
  | error e =>
    unfold sRead at hsr
    rw [hsr] at hx
    obtain ⟨x1, m5, x2, x3, x4, x5, x6, x7⟩ := hx
    exact ⟨x1, m5, x2, x3, x4, x5, fr m5 x6, x7⟩
  | ok g' =>
    unfold sRead at hsr
    rw [hsr] at hx
    obtain ⟨m5, x1, f5, q5, x2, x3⟩ := hx
    have hS5 := rdQ_S x2
    refine ⟨m5, x1, hS5.2.2.2.2.2.2.1, hS5.2.2.2.2.2.2.2, RscG_ext (fun b hb => rdQ_f x2 (by rcases hs with h | h | h <;> omega) (by rcases hs with h | h | h <;> omega)) x3, ?_, ?_, x2.1.2.2.1, fun a h3 h4 ha => ?_⟩
    · rw [rdQ_f x2 hs00 hs01, x2.2.2.2 s (by omega), sI_at, c10]
    · rw [rdQ_f x2 hs00 hs01, x2.2.2.2 s (by omega), sI_at, c11]
    · rw [rdQ_f x2 h3 h4, x2.2.2.2 a (by omega), sI_ne (by omega), rdB_o h3]
end ZRE
