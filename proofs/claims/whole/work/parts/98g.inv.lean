/-! PURE: a scene of the class and one of the reference, levels and all -/
def RtxN (f : Nat → Nat → Int32) (s : Nat) (g : Nat → Nat → Int32) (i : Nat) : Prop := ∃ e, e ≤ 5 ∧ g 1 i = nI (sd e 0) ∧ f (txA s i) 0 = g 1 i ∧ f (txA s i) 1 = g 2 i ∧ f (txA s i) 2 = g 3 i ∧ f (txA s i) 3 = nI e ∧ (∀ l, l ≤ e → f (txA s i + 2) l = nI (st e l)) ∧ (∃ L : Nat → Nat → Nat, ∀ l, l ≤ e → (∀ k, k < 3 * (sd e l * sd e l) → L l k < 256 ∧ g 4 (4095 * i + 3 * st e l + k) = nI (L l k)) ∧ ∀ q, q < sd e l * sd e l → f (txA s i + 1) (st e l + q) = pk (L l (3 * q)) (L l (3 * q + 1)) (L l (3 * q + 2))) ∧ 0 ≤ (g 2 i).toInt ∧ (g 2 i).toInt ≤ 2 ∧ (g 3 i = 0 ∨ g 3 i = 1)
/-- what no call but a load changes -/
def RscT (f : Nat → Nat → Int32) (s : Nat) (g : Nat → Nat → Int32) : Prop := (∀ c, c < 5 → f (s + 1) c = g 0 c ∧ g 0 c = nI (cn g c) ∧ cn g c ≤ lim c) ∧ (∀ i, i < cn g 0 → RtxN f s g i) ∧ (∀ i, i < cn g 1 → RmtG f s g i ∧ WmtG g i) ∧ (∀ i, i < cn g 2 → RmsG f s g i ∧ WmsG g i) ∧ (∀ i, i < cn g 4 → RtkG f s g i ∧ WtkG g i)
def RscN (f : Nat → Nat → Int32) (s : Nat) (g : Nat → Nat → Int32) : Prop := ∀ i, i < cn g 3 → RndG f s g i ∧ WndG g i
def Rsc (f : Nat → Nat → Int32) (s : Nat) (g : Nat → Nat → Int32) : Prop := RscT f s g ∧ RscN f s g ∧ (Rcam f s g ∧ Wcam g) ∧ (Rlmp f s g ∧ Wlmp g)
theorem lv_top : ∀ e : Fin 6, ∀ l : Fin 6, l.val ≤ e.val → st e l + sd e l * sd e l ≤ 1365 := by decide +kernel
theorem RtxN_c {f f' : Nat → Nat → Int32} {s i : Nat} {g g' : Nat → Nat → Int32} (h0 : f' (txA s i) = f (txA s i)) (h1 : f' (txA s i + 1) = f (txA s i + 1)) (h2 : f' (txA s i + 2) = f (txA s i + 2)) (k1 : g' 1 i = g 1 i) (k2 : g' 2 i = g 2 i) (k3 : g' 3 i = g 3 i) (k4 : ∀ c, c < 4095 → g' 4 (4095 * i + c) = g 4 (4095 * i + c)) (h : RtxN f s g i) : RtxN f' s g' i := by
  obtain ⟨e, he, a1, a2, a3, a4, a5, a6, ⟨L, aL⟩, a7, a8, a9⟩ := h
  refine ⟨e, he, by rw [k1, a1], by rw [h0, k1, a2], by rw [h0, k2, a3], by rw [h0, k3, a4], by rw [h0, a5], fun l hl => by rw [h2, a6 l hl], ⟨L, fun l hl => ⟨fun k hk => ?_, fun q hq => ?_⟩⟩, by rw [k2]; exact a7, by rw [k2]; exact a8, by rw [k3]; exact a9⟩
  · have ht := lv_top ⟨e, by omega⟩ ⟨l, by omega⟩ hl
    simp only at ht
    rw [Nat.add_assoc, k4 _ (by omega), ← Nat.add_assoc]
    exact (aL l hl).1 k hk
  · rw [h1]
    exact (aL l hl).2 q hq
/-- the rows of a scene that a load alone changes -/
def gT (g g' : Nat → Nat → Int32) : Prop := (∀ c, c < 5 → g' 0 c = g 0 c) ∧ ∀ j, (1 ≤ j ∧ j < 15 ∨ 21 ≤ j ∧ j < 27) → ∀ q, q < rl j → g' j q = g j q
theorem rl_v : rl 1 = 8 ∧ rl 2 = 8 ∧ rl 3 = 8 ∧ rl 4 = 32760 ∧ rl 5 = 64 ∧ rl 6 = 16 ∧ rl 7 = 16 ∧ rl 8 = 16 ∧ rl 9 = 16 ∧ rl 10 = 16 ∧ rl 11 = 6144 ∧ rl 12 = 6144 ∧ rl 13 = 4096 ∧ rl 14 = 6144 := by decide
theorem rl_w : rl 15 = 48 ∧ rl 16 = 48 ∧ rl 17 = 144 ∧ rl 18 = 144 ∧ rl 19 = 144 ∧ rl 20 = 48 ∧ rl 21 = 32 ∧ rl 22 = 32 ∧ rl 23 = 32 ∧ rl 24 = 32 ∧ rl 25 = 1024 ∧ rl 26 = 3072 ∧ rl 27 = 3 ∧ rl 28 = 3 ∧ rl 29 = 3 := by decide
/-- the cells of a class's scene that a load alone changes -/
def fT (s : Nat) (f f' : Nat → Nat → Int32) : Prop := ∀ b, (b = s + 1 ∨ s + 4 ≤ b ∧ b < s + 20 ∨ s + 26 ≤ b ∧ b < s + 130 ∨ s + 274 ≤ b ∧ b < s + 370) → f' b = f b
theorem gT_cn {g g' : Nat → Nat → Int32} (G : gT g g') {c : Nat} (hc : c < 5) : cn g' c = cn g c := by
  unfold cn
  rw [G.1 c hc]
theorem RscT_c {f f' : Nat → Nat → Int32} {s : Nat} {g g' : Nat → Nat → Int32} (F : fT s f f') (G : gT g g') (h : RscT f s g) : RscT f' s g' := by
  obtain ⟨r1, r2, r3, r4, r5, r6, r7, r8, r9, r10, r11, r12, r13, r14⟩ := rl_v
  obtain ⟨_, _, _, _, _, _, r21, r22, r23, r24, r25, r26, _⟩ := rl_w
  obtain ⟨h1, h2, h3, h4, h5⟩ := h
  have l := lim_v
  have c0 := (h1 0 (by decide)).2.2
  have c1 := (h1 1 (by decide)).2.2
  have c2 := (h1 2 (by decide)).2.2
  have c4 := (h1 4 (by decide)).2.2
  rw [l.1] at c0
  rw [l.2.1] at c1
  rw [l.2.2.1] at c2
  rw [l.2.2.2.2] at c4
  refine ⟨fun c hc => ?_, fun i hi => ?_, fun i hi => ?_, fun i hi => ?_, fun i hi => ?_⟩
  · rw [F _ (Or.inl rfl), G.1 c hc, gT_cn G hc]
    exact h1 c hc
  · rw [gT_cn G (by decide)] at hi
    exact RtxN_c (F _ (by unfold txA; omega)) (F _ (by unfold txA; omega)) (F _ (by unfold txA; omega)) (G.2 1 (by omega) _ (by omega)) (G.2 2 (by omega) _ (by omega)) (G.2 3 (by omega) _ (by omega)) (fun c hc => G.2 4 (by omega) _ (by omega)) (h2 i hi)
  · rw [gT_cn G (by decide)] at hi
    exact RmtG_c (F _ (by omega)) (fun c hc => G.2 5 (by omega) _ (by omega)) (G.2 6 (by omega) _ (by omega)) (G.2 7 (by omega) _ (by omega)) (by rw [G.1 0 (by decide)]; omega) (h3 i hi)
  · rw [gT_cn G (by decide)] at hi
    exact RmsG_c (fun e he => F _ (by unfold msA; omega)) (G.2 8 (by omega) _ (by omega)) (G.2 9 (by omega) _ (by omega)) (G.2 10 (by omega) _ (by omega)) (fun c hc => ⟨G.2 11 (by omega) _ (by omega), G.2 12 (by omega) _ (by omega), G.2 14 (by omega) _ (by omega), fun hd => G.2 13 (by omega) _ (by omega)⟩) (by rw [G.1 1 (by decide)]; omega) (h4 i hi)
  · rw [gT_cn G (by decide)] at hi
    exact RtkG_c (fun e he => F _ (by unfold tkA; omega)) (G.2 21 (by omega) _ (by omega)) (G.2 22 (by omega) _ (by omega)) (G.2 23 (by omega) _ (by omega)) (G.2 24 (by omega) _ (by omega)) (fun c hc => ⟨G.2 26 (by omega) _ (by omega), fun hd => G.2 25 (by omega) _ (by omega)⟩) (by rw [G.1 3 (by decide)]; omega) (h5 i hi)
/-- a camera's and a lamp's rows -/
theorem Rcam_d {f f' : Nat → Nat → Int32} {s : Nat} {g g' : Nat → Nat → Int32} (h0 : f' (s + 23) = f (s + 23)) (k27 : ∀ c, c < 3 → g' 27 c = g 27 c ∧ g' 28 c = g 28 c) (k34 : g' 0 34 = g 0 34) (h : Rcam f s g ∧ Wcam g) : Rcam f' s g' ∧ Wcam g' := by
  obtain ⟨⟨a1, a2⟩, b1, b2, b3⟩ := h
  exact ⟨⟨fun c hc => by rw [h0, (k27 c hc).1, (k27 c hc).2]; exact a1 c hc, by rw [h0, k34]; exact a2⟩, fun c hc => by rw [(k27 c hc).1, (k27 c hc).2]; exact b1 c hc, by rw [k34]; exact b2, by rw [k34]; exact b3⟩
theorem Rlmp_d {f f' : Nat → Nat → Int32} {s : Nat} {g g' : Nat → Nat → Int32} (h0 : f' (s + 24) = f (s + 24)) (k29 : ∀ c, c < 3 → g' 29 c = g 29 c) (k35 : g' 0 35 = g 0 35) (h : Rlmp f s g ∧ Wlmp g) : Rlmp f' s g' ∧ Wlmp g' := by
  obtain ⟨⟨a1, a2⟩, b1, b2, b3⟩ := h
  exact ⟨⟨fun c hc => by rw [h0, k29 c hc]; exact a1 c hc, by rw [h0, k35]; exact a2⟩, fun c hc => by rw [k29 c hc]; exact b1 c hc, by rw [k35]; exact b2, by rw [k35]; exact b3⟩
theorem RscN_c {f f' : Nat → Nat → Int32} {s : Nat} {g g' : Nat → Nat → Int32} (h48 : cn g 3 ≤ 48) (F : ∀ i, i < 48 → (∀ c, c < 3 → f' (ndA s i) c = f (ndA s i) c) ∧ f' (ndA s i + 1) = f (ndA s i + 1)) (c2 : g' 0 2 = g 0 2) (c3 : g' 0 3 = g 0 3) (G : ∀ j, 15 ≤ j → j < 21 → ∀ q, q < rl j → g' j q = g j q) (h : RscN f s g) : RscN f' s g' := by
  obtain ⟨r15, r16, r17, r18, r19, r20, _⟩ := rl_w
  intro i hi
  rw [show cn g' 3 = cn g 3 by unfold cn; rw [c3]] at hi
  exact RndG_c (F i (by omega)).1 (F i (by omega)).2 (G 15 (by omega) (by omega) _ (by omega)) (G 16 (by omega) (by omega) _ (by omega)) (G 20 (by omega) (by omega) _ (by omega)) (fun c hc => ⟨G 17 (by omega) (by omega) _ (by omega), G 18 (by omega) (by omega) _ (by omega), G 19 (by omega) (by omega) _ (by omega)⟩) (by rw [c2]; omega) (h i hi)
/-- all of a scene -/
theorem Rsc_c {f f' : Nat → Nat → Int32} {s : Nat} {g g' : Nat → Nat → Int32} (F : ∀ b, s < b → b < s + 370 → f' b = f b) (G0 : ∀ c, (c < 5 ∨ c = 34 ∨ c = 35) → g' 0 c = g 0 c) (G : ∀ j, 1 ≤ j → j < 30 → ∀ q, q < rl j → g' j q = g j q) (h : Rsc f s g) : Rsc f' s g' := by
  obtain ⟨_, _, _, _, _, _, _, _, _, _, _, _, r27, r28, r29⟩ := rl_w
  obtain ⟨h1, h2, h3, h4⟩ := h
  have c3 := (h1.1 3 (by decide)).2.2
  rw [lim_v.2.2.2.1] at c3
  exact ⟨RscT_c (fun b hb => F b (by omega) (by omega)) ⟨fun c hc => G0 c (by omega), fun j hj q hq => G j (by omega) (by omega) q hq⟩ h1, RscN_c c3 (fun i hi => ⟨fun c _ => by rw [F _ (by unfold ndA; omega) (by unfold ndA; omega)], F _ (by unfold ndA; omega) (by unfold ndA; omega)⟩) (G0 2 (by omega)) (G0 3 (by omega)) (fun j j1 j2 q hq => G j (by omega) (by omega) q hq) h2, Rcam_d (F _ (by omega) (by omega)) (fun c hc => ⟨G 27 (by omega) (by omega) _ (by omega), G 28 (by omega) (by omega) _ (by omega)⟩) (G0 34 (by omega)) h3, Rlmp_d (F _ (by omega) (by omega)) (fun c hc => G 29 (by omega) (by omega) _ (by omega)) (G0 35 (by omega)) h4⟩
/-- from the texts' scene to the one with levels -/
theorem Rsc_of {f : Nat → Nat → Int32} {s : Nat} {g g4 gN : Nat → Nat → Int32} {E : Nat → Nat} (h : RscG f s g) (hE : ∀ t, t < cn g 0 → E t ≤ 5 ∧ g 1 t = nI (sd (E t) 0)) (k4 : ∀ a, a < 30 → a ≠ 4 → g4 a = g a) (k5 : ∀ t, t < cn g 0 → ∀ j, j ≤ E t → ∀ k, k < 3 * (sd (E t) j * sd (E t) j) → g4 4 (4095 * t + 3 * st (E t) j + k) = nI (lvN (fun k => (g 4 (4095 * t + k)).toNatClampNeg) (E t) j k)) (G0 : ∀ c, (c < 5 ∨ c = 34 ∨ c = 35) → gN 0 c = g4 0 c) (G : ∀ j, 1 ≤ j → j < 30 → j ≠ 20 → ∀ q, q < rl j → gN j q = g4 j q) (G20 : ∀ q, q < 48 → gN 20 q = vp_nar .boolean (g4 20 q)) : Rsc f s gN := by
  obtain ⟨r1, r2, r3, r4, _⟩ := rl_v
  obtain ⟨_, _, _, _, _, r20, _⟩ := rl_w
  obtain ⟨h1, h2, h3, h4, h5, h6, h7, h8, h9⟩ := h
  have c0 := (h1 0 (by decide)).2.2
  have c3 := (h1 3 (by decide)).2.2
  rw [lim_v.1] at c0
  rw [lim_v.2.2.2.1] at c3
  have e0 : ∀ c, (c < 5 ∨ c = 34 ∨ c = 35) → gN 0 c = g 0 c := fun c hc => by rw [G0 c hc, k4 0 (by decide) (by decide)]
  have ej : ∀ j, 1 ≤ j → j < 30 → j ≠ 20 → j ≠ 4 → ∀ q, q < rl j → gN j q = g j q := fun j j1 j2 j3 j4 q hq => by rw [G j j1 j2 j3 q hq, k4 j j2 j4]
  obtain ⟨r15, r16, r17, r18, r19, _, _, _, _, _, _, _, r27, r28, r29⟩ := rl_w
  refine ⟨RscT_c (f := f) (g := fun a => if a = 4 then g4 4 else g a) (fun _ _ => rfl) ⟨fun c hc => e0 c (by omega), fun j hj q hq => ?_⟩ ⟨h1, fun i hi => ?_, h4, h5, h7⟩, fun i hi => ?_, Rcam_d rfl (fun c hc => ⟨ej 27 (by omega) (by omega) (by omega) (by omega) _ (by omega), ej 28 (by omega) (by omega) (by omega) (by omega) _ (by omega)⟩) (e0 34 (by omega)) h8, Rlmp_d rfl (fun c hc => ej 29 (by omega) (by omega) (by omega) (by omega) _ (by omega)) (e0 35 (by omega)) h9⟩
  · by_cases e : j = 4
    · subst e
      rw [G 4 (by omega) (by omega) (by decide) q hq]
      rfl
    · dsimp only
      rw [if_neg e]
      exact ej j (by omega) (by omega) (by omega) e q hq
  · have hi' : i < cn g 0 := hi
    obtain ⟨e, he, a1, a2, a3, a4, a5, a6, a7, a8, a9⟩ := h3 i hi'
    obtain ⟨b1, b2⟩ := hE i hi'
    obtain rfl : e = E i := by
      rw [a1] at b2
      have q1 := (show ∀ x y : Fin 6, nI (sd x 0) = nI (sd y 0) → x = y by decide) ⟨e, by omega⟩ ⟨E i, by omega⟩ b2
      exact congrArg Fin.val q1
    obtain ⟨d1, d2, d3⟩ := a5
    have hB : ∀ k, k < 3 * (sd (E i) 0 * sd (E i) 0) → (g 4 (4095 * i + k)).toNatClampNeg < 256 := fun k hk => by
      have := a6 k hk
      have q := Int32.toNat_toInt (g 4 (4095 * i + k))
      omega
    have nb : ∀ k, k < 3 * (sd (E i) 0 * sd (E i) 0) → g 4 (4095 * i + k) = nI (g 4 (4095 * i + k)).toNatClampNeg := fun k hk => by
      have q0 := hB k hk
      have := a6 k hk
      have q := Int32.toNat_toInt (g 4 (4095 * i + k))
      exact i32_ext (by rw [nI_toInt (by omega)]; omega)
    exact ⟨E i, he, a1, a2, a3, a4, d1, d2, ⟨lvN (fun k => (g 4 (4095 * i + k)).toNatClampNeg) (E i), fun l hl => ⟨fun k hk => ⟨lv_255 he hB l hl k hk, k5 i hi' l hl k hk⟩, fun q hq => by
      rw [d3 l hl q hq]
      exact cl_lv he hB (fun q hq => by dsimp only; rw [← nb _ (by omega), ← nb _ (by omega), ← nb _ (by omega)]) l hl q hq⟩⟩, a7, a8, a9⟩
  · rw [show cn gN 3 = cn g 3 by unfold cn; rw [e0 3 (by omega)]] at hi
    refine RndG_c (fun _ _ => rfl) rfl (ej 15 (by omega) (by omega) (by omega) (by omega) _ (by omega)) (ej 16 (by omega) (by omega) (by omega) (by omega) _ (by omega)) ?_ (fun c hc => ⟨ej 17 (by omega) (by omega) (by omega) (by omega) _ (by omega), ej 18 (by omega) (by omega) (by omega) (by omega) _ (by omega), ej 19 (by omega) (by omega) (by omega) (by omega) _ (by omega)⟩) (by rw [e0 2 (by omega)]; omega) (h6 i hi)
    rw [G20 i (by omega), k4 20 (by decide) (by decide)]
    rcases (h6 i hi).2.2.2.2.2.1 with e | e <;> rw [e] <;> decide
/-- texture sides and bytes of a text's scene, chosen -/
theorem Rsc_E {f : Nat → Nat → Int32} {s : Nat} {g : Nat → Nat → Int32} (h : RscG f s g) : ∃ E : Nat → Nat, ∀ t, t < cn g 0 → E t ≤ 5 ∧ g 1 t = nI (sd (E t) 0) ∧ ∀ k, k < 3 * (sd (E t) 0 * sd (E t) 0) → (g 4 (4095 * t + k)).toNatClampNeg < 256 ∧ g 4 (4095 * t + k) = nI (g 4 (4095 * t + k)).toNatClampNeg := by
  have hx : ∀ t, ∃ e, t < cn g 0 → e ≤ 5 ∧ g 1 t = nI (sd e 0) ∧ ∀ k, k < 3 * (sd e 0 * sd e 0) → (g 4 (4095 * t + k)).toNatClampNeg < 256 ∧ g 4 (4095 * t + k) = nI (g 4 (4095 * t + k)).toNatClampNeg := fun t => by
    by_cases ht : t < cn g 0
    · obtain ⟨e, he, a1, _, _, _, _, a6, _⟩ := h.2.2.1 t ht
      refine ⟨e, fun _ => ⟨he, a1, fun k hk => ?_⟩⟩
      have := a6 k hk
      have q := Int32.toNat_toInt (g 4 (4095 * t + k))
      exact ⟨by omega, i32_ext (by rw [nI_toInt (by omega)]; omega)⟩
    · exact ⟨0, fun h => absurd h ht⟩
  exact Classical.axiomOfChoice hx
