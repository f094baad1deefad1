/-! PURE: camera, light -/
section ZCL
variable {W H : Nat} {mm : zMem}
theorem Plc_d {f f' : Nat → Nat → Int32} {s r n : Nat} (hn : n ≤ 48) (F : ∀ i, i < 48 → f' (ndA s i) = f (ndA s i) ∧ f' (ndA s i + 2) = f (ndA s i + 2)) (G : ∀ q, 15 ≤ q → q < 21 → f' (r + q) = f (r + q)) (h : Plc f s r n) : Plc f' s r n := by
  intro i hi
  obtain ⟨a1, a2⟩ := h i hi
  have e15 := G 15 (by decide) (by decide)
  refine ⟨?_, fun k hk => ?_⟩
  · rw [(F i (by omega)).1, a1]
    unfold shn
    rw [e15, G 20 (by decide) (by decide)]
  · rw [(F i (by omega)).2, a2 k hk]
    unfold wW
    rw [e15, wch_c (G 17 (by decide) (by decide)) (G 18 (by decide) (by decide)) (G 19 (by decide) (by decide))]
/-- camera or light: only those rows change -/
theorem vS_l {m z : zMem} {s n : Nat} (hs : gS s) (hn : n ≤ 48) (hcn : cn (fun a => m.1 (1187 + a)) 3 = n) (h5 : z.2.2 0 5 = some s) (hsc : Rsc m.1 s (fun a => m.1 (1187 + a))) (htm : z.1 s 8 = z.1 1185 10) (h9 : z.1 s 9 = m.1 s 9) (hpl : ¬ m.1 s 9 = 0 → Plc m.1 s 1187 n) (F : ∀ b, s < b → b < s + 370 → b ≠ s + 23 → b ≠ s + 24 → z.1 b = m.1 b) (G0 : ∀ c, c < 5 → z.1 1187 c = m.1 1187 c) (G : ∀ j, 1 ≤ j → j < 27 → z.1 (1187 + j) = m.1 (1187 + j)) (hC : Rcam z.1 s (fun a => z.1 (1187 + a)) ∧ Wcam (fun a => z.1 (1187 + a))) (hL : Rlmp z.1 s (fun a => z.1 (1187 + a)) ∧ Wlmp (fun a => z.1 (1187 + a))) : vS z := by
  obtain ⟨h1, h2, h3, h4⟩ := hsc
  have c3 : cn (fun a => z.1 (1187 + a)) 3 = n := by
    rw [← hcn]
    unfold cn
    exact congrArg Int32.toNatClampNeg (G0 3 (by decide))
  refine ⟨s, hs, h5, ⟨RscT_c (fun b hb => F b (by omega) (by omega) (by omega) (by omega)) ⟨G0, fun j hj q _ => congrFun (G j (by omega) (by omega)) q⟩ h1, RscN_c (by rw [hcn]; exact hn) (fun i hi => ⟨fun c _ => congrFun (F _ (by unfold ndA; omega) (by unfold ndA; omega) (by unfold ndA; omega) (by unfold ndA; omega)) c, F _ (by unfold ndA; omega) (by unfold ndA; omega) (by unfold ndA; omega) (by unfold ndA; omega)⟩) (G0 2 (by decide)) (G0 3 (by decide)) (fun j j1 j2 q _ => congrFun (G j (by omega) (by omega)) q) h2, hC, hL⟩, htm, fun hp => ?_⟩
  rw [h9] at hp
  rw [c3]
  exact Plc_d hn (fun i hi => ⟨F _ (by unfold ndA; omega) (by unfold ndA; omega) (by unfold ndA; omega) (by unfold ndA; omega), F _ (by unfold ndA; omega) (by unfold ndA; omega) (by unfold ndA; omega) (by unfold ndA; omega)⟩) (fun q q1 q2 => G q (by omega) (by omega)) (hpl hp)
theorem upd3_0 {g : Nat → Int32} {x y z : Int32} {c : Nat} (hc : c < 3) : upd3 g 0 x y z c = v3 x y z c := by
  have := upd3_v (g := g) (k := 0) (q := c) (x := x) (y := y) (z := z)
  rw [this, if_pos (by omega), show c % 3 = c by omega]
/-- the camera's place or turn -/
theorem cam_go {s n w : Nat} {x y v : Int32} (h : PB W H mm) (hs : gS s) (h5 : mm.2.2 0 5 = some s) (hn : n ≤ 48) (hcn : cn (fun a => mm.1 (1187 + a)) 3 = n) (hsc : Rsc mm.1 s (fun a => mm.1 (1187 + a))) (htm : mm.1 s 8 = mm.1 1185 10) (hpl : ¬ mm.1 s 9 = 0 → Plc mm.1 s 1187 n) (hw : w < 2) (hv : ∀ c, c < 3 → (if w = 0 then -4194304 else -1048576) ≤ (v3 x y v c).toInt ∧ (v3 x y v c).toInt ≤ (if w = 0 then 4194304 else 1048576)) : PB W H (mI (mI (mI (mI (mI (mI (mI mm (s + 23) (3 * w) x) (s + 23) (3 * w + 1) y) (s + 23) (3 * w + 2) v) 1185 11 0) (1214 + w) 0 x) (1214 + w) (0 + 1) y) (1214 + w) (0 + 2) v) ∧ agP mm (mI (mI (mI (mI (mI (mI (mI mm (s + 23) (3 * w) x) (s + 23) (3 * w + 1) y) (s + 23) (3 * w + 2) v) 1185 11 0) (1214 + w) 0 x) (1214 + w) (0 + 1) y) (1214 + w) (0 + 2) v) := by
  have hR := h.1
  obtain ⟨l1, l2, l3⟩ := s_lt hs
  have hz2 : (mI (mI (mI (mI (mI (mI (mI mm (s + 23) (3 * w) x) (s + 23) (3 * w + 1) y) (s + 23) (3 * w + 2) v) 1185 11 0) (1214 + w) 0 x) (1214 + w) (0 + 1) y) (1214 + w) (0 + 2) v).2 = mm.2 := nrfl rfl
  have o : ∀ a, a ≠ s + 23 → a ≠ 1185 → a ≠ 1214 + w → (mI (mI (mI (mI (mI (mI (mI mm (s + 23) (3 * w) x) (s + 23) (3 * w + 1) y) (s + 23) (3 * w + 2) v) 1185 11 0) (1214 + w) 0 x) (1214 + w) (0 + 1) y) (1214 + w) (0 + 2) v).1 a = mm.1 a := fun a a1 a3 a4 => by rw [mI_3o a4, mI_o a3, mI_3o a1]
  have on : (mI (mI (mI (mI (mI (mI (mI mm (s + 23) (3 * w) x) (s + 23) (3 * w + 1) y) (s + 23) (3 * w + 2) v) 1185 11 0) (1214 + w) 0 x) (1214 + w) (0 + 1) y) (1214 + w) (0 + 2) v).1 (s + 23) = upd3 (mm.1 (s + 23)) (3 * w) x y v := by rw [mI_3o (by omega), mI_o (by omega), mI_3]
  have om : ∀ c, c ≠ 11 → (mI (mI (mI (mI (mI (mI (mI mm (s + 23) (3 * w) x) (s + 23) (3 * w + 1) y) (s + 23) (3 * w + 2) v) 1185 11 0) (1214 + w) 0 x) (1214 + w) (0 + 1) y) (1214 + w) (0 + 2) v).1 1185 c = mm.1 1185 c := fun c hc => by rw [mI_3o (by omega), mI_v, if_pos rfl, if_neg hc, mI_3o (by omega)]
  have op : (mI (mI (mI (mI (mI (mI (mI mm (s + 23) (3 * w) x) (s + 23) (3 * w + 1) y) (s + 23) (3 * w + 2) v) 1185 11 0) (1214 + w) 0 x) (1214 + w) (0 + 1) y) (1214 + w) (0 + 2) v).1 (1214 + w) = upd3 (mm.1 (1214 + w)) 0 x y v := by rw [mI_3, mI_o (by omega), mI_3o (by omega)]
  generalize mI (mI (mI (mI (mI (mI (mI mm (s + 23) (3 * w) x) (s + 23) (3 * w + 1) y) (s + 23) (3 * w + 2) v) 1185 11 0) (1214 + w) 0 x) (1214 + w) (0 + 1) y) (1214 + w) (0 + 2) v = z at o on om op hz2
  have os : z.1 s = mm.1 s := o s (by omega) (by omega) (by omega)
  have G : ∀ j, j < 30 → j ≠ 27 + w → z.1 (1187 + j) = mm.1 (1187 + j) := fun j j1 j2 => o _ (by omega) (by omega) (by omega)
  refine PB_B h hs (by rw [hz2]; exact hR) (by rw [hz2]) (by rw [hz2]; exact ⟨rfl, rfl⟩) (fun a a1 a2 a3 _ => o a (by omega) a1 (by omega)) (fun b hb => o b (by omega) (by omega) (by omega)) (fun c _ c2 => om c c2) ?_
  obtain ⟨⟨r1, r2⟩, w1, w2, w3⟩ := hsc.2.2.1
  have g0 := G 0 (by decide) (by omega)
  have g29 := G 29 (by decide) (by omega)
  have gw : ∀ c, c < 3 → z.1 (1187 + (27 + w)) c = v3 x y v c := fun c hc => by rw [show 1187 + (27 + w) = 1214 + w by omega, op, upd3_0 hc]
  have gn : ∀ u, u < 2 → ∀ c, c < 3 → z.1 (s + 23) (3 * u + c) = if u = w then v3 x y v c else mm.1 (s + 23) (3 * u + c) := fun u hu c hc => by
    rw [on, upd3_v]
    by_cases e : u = w
    · rw [if_pos (by omega), if_pos e, show (3 * u + c) % 3 = c by omega]
    · rw [if_neg (by omega), if_neg e]
  have gn0 : ∀ c, c < 3 → z.1 (s + 23) c = if 0 = w then v3 x y v c else mm.1 (s + 23) c := fun c hc => by
    have := gn 0 (by decide) c hc
    rw [show 3 * 0 + c = c by omega] at this
    exact this
  have gn1 : ∀ c, c < 3 → z.1 (s + 23) (3 + c) = if 1 = w then v3 x y v c else mm.1 (s + 23) (3 + c) := fun c hc => gn 1 (by decide) c hc
  refine vS_l (m := mm) hs hn hcn (by rw [hz2]; exact h5) hsc (by rw [os, om 10 (by decide)]; exact htm) (by rw [os]) hpl (fun b b1 b2 b3 _ => o b b3 (by omega) (by omega)) (fun c _ => congrFun g0 c) (fun j j1 j2 => G j (by omega) (by omega)) ⟨⟨fun c hc => ?_, ?_⟩, fun c hc => ?_, ?_, ?_⟩ (Rlmp_d (o _ (by omega) (by omega) (by omega)) (fun c _ => congrFun g29 c) (congrFun g0 35) hsc.2.2.2)
  · have r := r1 c hc
    rcases (show w = 0 ∨ w = 1 by omega) with rfl | rfl
    · rw [gn0 c hc, gn1 c hc, if_pos rfl, if_neg (by decide)]
      exact ⟨(gw c hc).symm, r.2.trans (congrFun (G 28 (by decide) (by decide)) c).symm⟩
    · rw [gn0 c hc, gn1 c hc, if_neg (by decide), if_pos rfl]
      exact ⟨r.1.trans (congrFun (G 27 (by decide) (by decide)) c).symm, (gw c hc).symm⟩
  · rw [on, upd3_v, if_neg (by omega)]
    exact r2.trans (congrFun g0 34).symm
  · have ww := w1 c hc
    have vv := hv c hc
    dsimp only at ww ⊢
    rcases (show w = 0 ∨ w = 1 by omega) with rfl | rfl
    · rw [if_pos rfl, if_pos rfl] at vv
      have q1 := gw c hc
      rw [show 27 + 0 = 27 from rfl] at q1
      rw [q1, G 28 (by decide) (by decide)]
      exact ⟨vv.1, vv.2, ww.2.2⟩
    · rw [if_neg (by decide), if_neg (by decide)] at vv
      have q1 := gw c hc
      rw [show 27 + 1 = 28 from rfl] at q1
      rw [q1, G 27 (by decide) (by decide)]
      exact ⟨ww.1, ww.2.1, vv.1, vv.2⟩
  · dsimp only
    rw [g0]; exact w2
  · dsimp only
    rw [g0]; exact w3
/-- the camera's focus -/
theorem foc_go {s n : Nat} {x : Int32} (h : PB W H mm) (hs : gS s) (h5 : mm.2.2 0 5 = some s) (hn : n ≤ 48) (hcn : cn (fun a => mm.1 (1187 + a)) 3 = n) (hsc : Rsc mm.1 s (fun a => mm.1 (1187 + a))) (htm : mm.1 s 8 = mm.1 1185 10) (hpl : ¬ mm.1 s 9 = 0 → Plc mm.1 s 1187 n) (hv : 8 ≤ x.toInt ∧ x.toInt ≤ 512) : PB W H (mI (mI (mI mm (s + 23) 6 x) 1185 11 0) 1187 34 x) ∧ agP mm (mI (mI (mI mm (s + 23) 6 x) 1185 11 0) 1187 34 x) := by
  have hR := h.1
  obtain ⟨l1, l2, l3⟩ := s_lt hs
  have hz2 : (mI (mI (mI mm (s + 23) 6 x) 1185 11 0) 1187 34 x).2 = mm.2 := nrfl rfl
  have o : ∀ a, a ≠ s + 23 → a ≠ 1185 → a ≠ 1187 → (mI (mI (mI mm (s + 23) 6 x) 1185 11 0) 1187 34 x).1 a = mm.1 a := fun a a1 a3 a4 => by rw [mI_o a4, mI_o a3, mI_o a1]
  have on : ∀ c, (mI (mI (mI mm (s + 23) 6 x) 1185 11 0) 1187 34 x).1 (s + 23) c = if c = 6 then x else mm.1 (s + 23) c := fun c => by rw [mI_o (by omega), mI_o (by omega), mI_v, if_pos rfl]
  have om : ∀ c, c ≠ 11 → (mI (mI (mI mm (s + 23) 6 x) 1185 11 0) 1187 34 x).1 1185 c = mm.1 1185 c := fun c hc => by rw [mI_o (by omega), mI_v, if_pos rfl, if_neg hc, mI_o (by omega)]
  have op : ∀ c, (mI (mI (mI mm (s + 23) 6 x) 1185 11 0) 1187 34 x).1 1187 c = if c = 34 then x else mm.1 1187 c := fun c => by rw [mI_v, if_pos rfl, mI_o (by omega), mI_o (by omega)]
  generalize mI (mI (mI mm (s + 23) 6 x) 1185 11 0) 1187 34 x = z at o on om op hz2
  have os : z.1 s = mm.1 s := o s (by omega) (by omega) (by omega)
  have G : ∀ j, 1 ≤ j → j < 30 → z.1 (1187 + j) = mm.1 (1187 + j) := fun j j1 j2 => o _ (by omega) (by omega) (by omega)
  have g0 : ∀ c, c ≠ 34 → z.1 (1187 + 0) c = mm.1 (1187 + 0) c := fun c hc => by
    show z.1 1187 c = mm.1 1187 c
    rw [op, if_neg hc]
  have g34 : z.1 (1187 + 0) 34 = x := by
    show z.1 1187 34 = x
    rw [op, if_pos rfl]
  refine PB_B h hs (by rw [hz2]; exact hR) (by rw [hz2]) (by rw [hz2]; exact ⟨rfl, rfl⟩) (fun a a1 a2 a3 _ => o a (by omega) a1 (by omega)) (fun b hb => o b (by omega) (by omega) (by omega)) (fun c _ c2 => om c c2) ?_
  obtain ⟨⟨r1, r2⟩, w1, w2, w3⟩ := hsc.2.2.1
  refine vS_l (m := mm) hs hn hcn (by rw [hz2]; exact h5) hsc (by rw [os, om 10 (by decide)]; exact htm) (by rw [os]) hpl (fun b b1 b2 b3 _ => o b b3 (by omega) (by omega)) (fun c hc => g0 c (by omega)) (fun j j1 j2 => G j (by omega) (by omega)) ⟨⟨fun c hc => ?_, ?_⟩, fun c hc => ?_, ?_, ?_⟩ (Rlmp_d (o _ (by omega) (by omega) (by omega)) (fun c _ => congrFun (G 29 (by decide) (by decide)) c) (g0 35 (by decide)) hsc.2.2.2)
  · rw [on, on, if_neg (by omega), if_neg (by omega)]
    exact ⟨(r1 c hc).1.trans (congrFun (G 27 (by decide) (by decide)) c).symm, (r1 c hc).2.trans (congrFun (G 28 (by decide) (by decide)) c).symm⟩
  · rw [on, if_pos rfl]
    exact g34.symm
  · have ww := w1 c hc
    dsimp only at ww ⊢
    rw [G 27 (by decide) (by decide), G 28 (by decide) (by decide)]
    exact ww
  · dsimp only
    rw [g34]; exact hv.1
  · dsimp only
    rw [g34]; exact hv.2
/-- the light -/
theorem lit_go {s n : Nat} {x y v u : Int32} (h : PB W H mm) (hs : gS s) (h5 : mm.2.2 0 5 = some s) (hn : n ≤ 48) (hcn : cn (fun a => mm.1 (1187 + a)) 3 = n) (hsc : Rsc mm.1 s (fun a => mm.1 (1187 + a))) (htm : mm.1 s 8 = mm.1 1185 10) (hpl : ¬ mm.1 s 9 = 0 → Plc mm.1 s 1187 n) (hv : (-65536 ≤ x.toInt ∧ x.toInt ≤ 65536) ∧ (-65536 ≤ y.toInt ∧ y.toInt ≤ 65536) ∧ (-65536 ≤ v.toInt ∧ v.toInt ≤ 65536)) (hu : 0 ≤ u.toInt ∧ u.toInt ≤ 65536) : PB W H (mI (mI (mI (mI (mI (mI (mI (mI (mI mm (s + 24) 0 x) (s + 24) 1 y) (s + 24) 2 v) (s + 24) 3 u) 1185 11 0) 1216 0 x) 1216 1 y) 1216 2 v) 1187 35 u) ∧ agP mm (mI (mI (mI (mI (mI (mI (mI (mI (mI mm (s + 24) 0 x) (s + 24) 1 y) (s + 24) 2 v) (s + 24) 3 u) 1185 11 0) 1216 0 x) 1216 1 y) 1216 2 v) 1187 35 u) := by
  have hR := h.1
  obtain ⟨l1, l2, l3⟩ := s_lt hs
  have hz2 : (mI (mI (mI (mI (mI (mI (mI (mI (mI mm (s + 24) 0 x) (s + 24) 1 y) (s + 24) 2 v) (s + 24) 3 u) 1185 11 0) 1216 0 x) 1216 1 y) 1216 2 v) 1187 35 u).2 = mm.2 := nrfl rfl
  have o : ∀ a, a ≠ s + 24 → a ≠ 1185 → a ≠ 1216 → a ≠ 1187 → (mI (mI (mI (mI (mI (mI (mI (mI (mI mm (s + 24) 0 x) (s + 24) 1 y) (s + 24) 2 v) (s + 24) 3 u) 1185 11 0) 1216 0 x) 1216 1 y) 1216 2 v) 1187 35 u).1 a = mm.1 a := fun a a1 a3 a4 a5 => by rw [mI_o a5, mI_o a4, mI_o a4, mI_o a4, mI_o a3, mI_o a1, mI_o a1, mI_o a1, mI_o a1]
  have on : ∀ c, (mI (mI (mI (mI (mI (mI (mI (mI (mI mm (s + 24) 0 x) (s + 24) 1 y) (s + 24) 2 v) (s + 24) 3 u) 1185 11 0) 1216 0 x) 1216 1 y) 1216 2 v) 1187 35 u).1 (s + 24) c = if c = 3 then u else if c = 2 then v else if c = 1 then y else if c = 0 then x else mm.1 (s + 24) c := fun c => by rw [mI_o (by omega), mI_o (by omega), mI_o (by omega), mI_o (by omega), mI_o (by omega), mI_v, if_pos rfl, mI_v, if_pos rfl, mI_v, if_pos rfl, mI_v, if_pos rfl]
  have om : ∀ c, c ≠ 11 → (mI (mI (mI (mI (mI (mI (mI (mI (mI mm (s + 24) 0 x) (s + 24) 1 y) (s + 24) 2 v) (s + 24) 3 u) 1185 11 0) 1216 0 x) 1216 1 y) 1216 2 v) 1187 35 u).1 1185 c = mm.1 1185 c := fun c hc => by rw [mI_o (by omega), mI_o (by omega), mI_o (by omega), mI_o (by omega), mI_v, if_pos rfl, if_neg hc, mI_o (by omega), mI_o (by omega), mI_o (by omega), mI_o (by omega)]
  have op : ∀ c, (mI (mI (mI (mI (mI (mI (mI (mI (mI mm (s + 24) 0 x) (s + 24) 1 y) (s + 24) 2 v) (s + 24) 3 u) 1185 11 0) 1216 0 x) 1216 1 y) 1216 2 v) 1187 35 u).1 1187 c = if c = 35 then u else mm.1 1187 c := fun c => by rw [mI_v, if_pos rfl, mI_o (by omega), mI_o (by omega), mI_o (by omega), mI_o (by omega), mI_o (by omega), mI_o (by omega), mI_o (by omega), mI_o (by omega)]
  have oq : ∀ c, (mI (mI (mI (mI (mI (mI (mI (mI (mI mm (s + 24) 0 x) (s + 24) 1 y) (s + 24) 2 v) (s + 24) 3 u) 1185 11 0) 1216 0 x) 1216 1 y) 1216 2 v) 1187 35 u).1 1216 c = if c = 2 then v else if c = 1 then y else if c = 0 then x else mm.1 1216 c := fun c => by rw [mI_o (by omega), mI_v, if_pos rfl, mI_v, if_pos rfl, mI_v, if_pos rfl, mI_o (by omega), mI_o (by omega), mI_o (by omega), mI_o (by omega), mI_o (by omega)]
  generalize mI (mI (mI (mI (mI (mI (mI (mI (mI mm (s + 24) 0 x) (s + 24) 1 y) (s + 24) 2 v) (s + 24) 3 u) 1185 11 0) 1216 0 x) 1216 1 y) 1216 2 v) 1187 35 u = z at o on om op oq hz2
  have os : z.1 s = mm.1 s := o s (by omega) (by omega) (by omega) (by omega)
  have G : ∀ j, 1 ≤ j → j < 29 → z.1 (1187 + j) = mm.1 (1187 + j) := fun j j1 j2 => o _ (by omega) (by omega) (by omega) (by omega)
  have g0 : ∀ c, c ≠ 35 → z.1 (1187 + 0) c = mm.1 (1187 + 0) c := fun c hc => by
    show z.1 1187 c = mm.1 1187 c
    rw [op, if_neg hc]
  have g35 : z.1 (1187 + 0) 35 = u := by
    show z.1 1187 35 = u
    rw [op, if_pos rfl]
  refine PB_B h hs (by rw [hz2]; exact hR) (by rw [hz2]) (by rw [hz2]; exact ⟨rfl, rfl⟩) (fun a a1 a2 a3 _ => o a (by omega) a1 (by omega) (by omega)) (fun b hb => o b (by omega) (by omega) (by omega) (by omega)) (fun c _ c2 => om c c2) ?_
  have g29 : ∀ c, c < 3 → z.1 (1187 + 29) c = v3 x y v c := fun c hc => by
    show z.1 1216 c = _
    rw [oq]
    rcases lt3 hc with rfl | rfl | rfl <;> rfl
  refine vS_l (m := mm) hs hn hcn (by rw [hz2]; exact h5) hsc (by rw [os, om 10 (by decide)]; exact htm) (by rw [os]) hpl (fun b b1 b2 _ b4 => o b b4 (by omega) (by omega) (by omega)) (fun c hc => g0 c (by omega)) (fun j j1 j2 => G j (by omega) (by omega)) (Rcam_d (o _ (by omega) (by omega) (by omega) (by omega)) (fun c _ => ⟨congrFun (G 27 (by decide) (by decide)) c, congrFun (G 28 (by decide) (by decide)) c⟩) (g0 34 (by decide)) hsc.2.2.1) ⟨⟨fun c hc => ?_, ?_⟩, fun c hc => ?_, ?_, ?_⟩
  · refine Eq.trans ?_ (g29 c hc).symm
    rw [on]
    rcases lt3 hc with rfl | rfl | rfl <;> rfl
  · rw [on, if_pos rfl]
    exact g35.symm
  · dsimp only
    rw [g29 c hc]
    rcases lt3 hc with rfl | rfl | rfl
    · exact hv.1
    · exact hv.2.1
    · exact hv.2.2
  · dsimp only
    rw [g35]; exact hu.1
  · dsimp only
    rw [g35]; exact hu.2
end ZCL
