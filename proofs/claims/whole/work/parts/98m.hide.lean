/-! PURE: hide, set, camera, light -/
section ZSET
variable {W H : Nat} {mm : zMem}
theorem nd_far {s i : Nat} (hs : gS s) (hi : i < 48) : ndA s i ≠ s ∧ ndA s i + 1 ≠ s ∧ ndA s i + 1 ≠ ndA s i ∧ ndA s i < 1121 ∧ ndA s i + 1 < 1121 ∧ 11 ≤ ndA s i := by
  rcases hs with e | e | e <;> (unfold ndA; omega)
theorem s_lt {s : Nat} (hs : gS s) : s < 1121 ∧ 11 ≤ s ∧ s + 370 ≤ 1121 := by rcases hs with e | e | e <;> omega
theorem hide_go {s n i : Nat} {x1 v : Int32} (h : PB W H mm) (hs : gS s) (h5 : mm.2.2 0 5 = some s) (hn : n ≤ 48) (hcn : cn (fun a => mm.1 (1187 + a)) 3 = n) (hsc : Rsc mm.1 s (fun a => mm.1 (1187 + a))) (htm : mm.1 s 8 = mm.1 1185 10) (hi : i < n) (hv : v = 0 ∨ v = 1) : PB W H (mI (mI (mI (mI mm (ndA s i) 2 v) s 9 0) 1185 11 0) 1207 i v) ∧ agP mm (mI (mI (mI (mI mm (ndA s i) 2 v) s 9 0) 1185 11 0) 1207 i v) := by
  have hR := h.1
  obtain ⟨d1, d2, d3, d4, d5, d6⟩ := nd_far hs (show i < 48 by omega)
  obtain ⟨l1, l2, l3⟩ := s_lt hs
  have o : ∀ a, a ≠ ndA s i → a ≠ s → a ≠ 1185 → a ≠ 1207 → (mI (mI (mI (mI mm (ndA s i) 2 v) s 9 0) 1185 11 0) 1207 i v).1 a = mm.1 a := fun a a1 a2 a3 a4 => by rw [mI_o a4, mI_o a3, mI_o a2, mI_o a1]
  have on : ∀ c, (mI (mI (mI (mI mm (ndA s i) 2 v) s 9 0) 1185 11 0) 1207 i v).1 (ndA s i) c = if c = 2 then v else mm.1 (ndA s i) c := fun c => by rw [mI_o (by omega), mI_o (by omega), mI_o d1, mI_v, if_pos rfl]
  have os : ∀ c, (mI (mI (mI (mI mm (ndA s i) 2 v) s 9 0) 1185 11 0) 1207 i v).1 s c = if c = 9 then 0 else mm.1 s c := fun c => by rw [mI_o (by omega), mI_o (by omega), mI_v, if_pos rfl, mI_o (Ne.symm d1)]
  have om : ∀ c, c ≠ 11 → (mI (mI (mI (mI mm (ndA s i) 2 v) s 9 0) 1185 11 0) 1207 i v).1 1185 c = mm.1 1185 c := fun c hc => by rw [mI_o (by decide), mI_v, if_pos rfl, if_neg hc, mI_o (by omega), mI_o (by omega)]
  have op : ∀ c, (mI (mI (mI (mI mm (ndA s i) 2 v) s 9 0) 1185 11 0) 1207 i v).1 1207 c = if c = i then v else mm.1 1207 c := fun c => by rw [mI_v, if_pos rfl, mI_o (by decide), mI_o (by omega), mI_o (by omega)]
  have hz2 : (mI (mI (mI (mI mm (ndA s i) 2 v) s 9 0) 1185 11 0) 1207 i v).2 = mm.2 := nrfl rfl
  generalize mI (mI (mI (mI mm (ndA s i) 2 v) s 9 0) 1185 11 0) 1207 i v = z at o on os om op hz2
  have FT : fT s mm.1 z.1 := fun b hb => o b (by unfold ndA; omega) (by omega) (by omega) (by omega)
  have G : ∀ j, j < 30 → j ≠ 20 → z.1 (1187 + j) = mm.1 (1187 + j) := fun j j1 j2 => o _ (by omega) (by omega) (by omega) (by omega)
  have G20 : ∀ c, z.1 (1187 + 20) c = if c = i then v else mm.1 (1187 + 20) c := op
  refine PB_B h hs (by rw [hz2]; exact hR) (by rw [hz2]) (by rw [hz2]; exact ⟨rfl, rfl⟩) (fun a a1 a2 a3 _ => o a (by unfold ndA; omega) (by omega) a1 (by omega)) FT (fun c _ c2 => om c c2) ?_
  refine vS_n (m := mm) hs (by rw [hz2]; exact h5) hsc (by rw [os, if_neg (by decide), om 10 (by decide)]; exact htm) (by rw [os, if_pos rfl]) FT (o _ (by unfold ndA; omega) (by omega) (by omega) (by omega)) (o _ (by unfold ndA; omega) (by omega) (by omega) (by omega)) (fun j j1 j2 => G j j1 (by omega)) ?_
  have hi' : i < cn (fun a => mm.1 (1187 + a)) 3 := by rw [hcn]; omega
  obtain ⟨⟨a1, a2, a3, a4⟩, b1, b2, b3, b4, b5, b6⟩ := hsc.2.1 i hi'
  have n1 : z.1 (ndA s i + 1) = mm.1 (ndA s i + 1) := o _ (by omega) (by omega) (by omega) (by omega)
  refine RscN_1 (i := i) (by rw [hcn]; exact hn) (congrFun (G 0 (by decide) (by decide)) 2) (congrFun (G 0 (by decide) (by decide)) 3) ⟨⟨?_, ?_, ?_, fun c hc => ?_⟩, ?_, ?_, ?_, ?_, ?_, fun c hc => ?_⟩ (fun j j1 j2 => ⟨fun c _ => congrFun (o _ (by unfold ndA; omega) (by unfold ndA; omega) (by unfold ndA; omega) (by unfold ndA; omega)) c, o _ (by unfold ndA; omega) (by unfold ndA; omega) (by unfold ndA; omega) (by unfold ndA; omega)⟩) (fun j j1 j2 => ⟨congrFun (G 15 (by decide) (by decide)) j, congrFun (G 16 (by decide) (by decide)) j, by rw [G20, if_neg j2], fun c _ => ⟨congrFun (G 17 (by decide) (by decide)) _, congrFun (G 18 (by decide) (by decide)) _, congrFun (G 19 (by decide) (by decide)) _⟩⟩) hsc.2.1
  all_goals try dsimp only
  · rw [on, if_neg (by decide), G 15 (by decide) (by decide)]
    exact a1
  · rw [on, if_neg (by decide), G 16 (by decide) (by decide)]
    exact a2
  · rw [on, if_pos rfl, G20, if_pos rfl]
  · rw [n1, G 17 (by decide) (by decide), G 18 (by decide) (by decide), G 19 (by decide) (by decide)]
    exact a4 c hc
  · rw [G 15 (by decide) (by decide)]; exact b1
  · rw [G 15 (by decide) (by decide)]; exact b2
  · rw [G 16 (by decide) (by decide)]; exact b3
  · rw [G 16 (by decide) (by decide), G 0 (by decide) (by decide)]; exact b4
  · rw [G20, if_pos rfl]; exact hv
  · rw [G 17 (by decide) (by decide), G 18 (by decide) (by decide), G 19 (by decide) (by decide)]
    exact b6 c hc
theorem hide_2 {x1 v : Int32} (h : PB W H mm) (hv : v = 0 ∨ v = 1) : zok (zoS (sh0 W H 0) 0 (fun _ => Option.bind (F_OB_hide (sh0 W H) mm 0 x1 v) (fun p3 => zoS (sh0 W H 1185) 1 (fun _ => Option.bind (F_MD_hide (sh0 W H) p3.2 1185 x1 v) (fun p6 => if p3.1 = p6.1 then some p6.2 else none))))) (fun mq => PB W H mq ∧ agP mm mq) := by
  have hR := h.1
  have hM : gM 1187 := Or.inl rfl
  obtain ⟨s, n, hs, h5, hn, hc, hc', hcn, hsc, htm, hpl⟩ := vS_k h
  obtain ⟨l1, l2, l3⟩ := s_lt hs
  have e0 : (0 : Int32).toInt = 0 := rfl
  have hnn : (nI n).toInt = n := nI_toInt (by omega)
  have hh := e_has (W := W) (H := H) (x := x1) hR hs hc hn
  have hnv : vp_nar .boolean v = v := by rcases hv with rfl | rfl <;> decide
  by_cases hx : 0 ≤ x1.toInt ∧ x1.toInt < n
  · obtain ⟨k1, k2⟩ := i32_cl hx.1
    have hi : x1.toNatClampNeg < n := by omega
    generalize x1.toNatClampNeg = i at k1 k2 hi
    have hi48 : i < 48 := by omega
    obtain ⟨d1, d2, d3, d4, d5, d6⟩ := nd_far hs hi48
    refine law2 (B := fun m => F_MD_hide (sh0 W H) m 1185 x1 v) (v := 1) (m1 := mI (mI mm (ndA s i) 2 v) s 9 0) (m2 := mI (mI (mI (mI mm (ndA s i) 2 v) s 9 0) 1185 11 0) 1207 i v) ?_ ?_ (hide_go (x1 := x1) h hs h5 hn hcn hsc htm hi hv)
    · unfold F_OB_hide
      rw [zoS_h sh_0, zob_h h5, zoS_h (sh_s0 hs), hh, if_pos hx, zob_e, if_neg (show ¬ ((1 : Int32) = 0) by decide), zoS_h sh_0, zob_h h5, zoS_h (sh_s0 hs), zob_h (rf_s4 hR hs), zoR_h (sh_s21 hs) (by decide), k1, nI_ix hi48 (by decide), nI_cl (by omega), zob_h (rf_nd hR hs hi48), if_pos hv, zoS_h (sh_ndA hs hi48), zoL_e, zoS_h sh_0, zob_h (show (mI mm (ndA s i) 2 v).2.2 0 5 = some s from h5), zoS_h (sh_s0 hs), zoL_e]
    · show F_MD_hide (sh0 W H) (mI (mI mm (ndA s i) 2 v) s 9 0) 1185 x1 v = _
      have hR1 : RF (mI (mI (mI mm (ndA s i) 2 v) s 9 0) 1185 11 0).2.2 := hR
      have f3 : (mI (mI (mI mm (ndA s i) 2 v) s 9 0) 1185 11 0).1 1187 3 = nI n := by rw [mI_o (by decide), mI_o (by omega), mI_o (by omega), hc']
      unfold F_MD_hide
      rw [zoS_h sh_1185, zoL_e, if_neg (by rw [i32_lt, e0]; omega), zoS_h sh_1185, zob_h (rf_1185_4 hR1), zoS_h (sh_m0 hM), if_pos (by rw [i32_lt, f3, hnn]; omega), zoS_h sh_1185, zob_h (rf_1185_4 hR1), zoS_h (sh_m0 hM), zob_h (rf_m24 hR1 hM), zoS_h (sh_m20 hM), k1, nI_ix hi48 (by decide), nI_cl (by omega), zoL_e, hnv]
  · refine law2 (B := fun m => F_MD_hide (sh0 W H) m 1185 x1 v) (v := 0) (m1 := mm) (m2 := mI mm 1185 11 0) ?_ ?_ (PB_11 h)
    · unfold F_OB_hide
      rw [zoS_h sh_0, zob_h h5, zoS_h (sh_s0 hs), hh, zob_e, if_neg hx, if_pos rfl]
    · show F_MD_hide (sh0 W H) mm 1185 x1 v = _
      have hR1 : RF (mI mm 1185 11 0).2.2 := hR
      have f3 : (mI mm 1185 11 0).1 1187 3 = nI n := by rw [mI_o (by decide), hc']
      unfold F_MD_hide
      rw [zoS_h sh_1185, zoL_e]
      by_cases k0 : x1 < 0
      · rw [if_pos k0]
      · rw [if_neg k0, zoS_h sh_1185, zob_h (rf_1185_4 hR1), zoS_h (sh_m0 hM), f3, if_neg (by rw [i32_lt, e0] at k0; rw [i32_lt, hnn]; omega)]
theorem s_hide {x1 x2 x3 x4 x5 : Int32} (h : PB W H mm) : zok (lawS8 (sh0 W H) mm x1 x2 x3 x4 x5) (fun mq => PB W H mq ∧ agP mm mq) := by
  unfold lawS8
  by_cases e : x2 = 0
  · rw [if_pos e]
    exact hide_2 h (Or.inl rfl)
  · rw [if_neg e]
    exact hide_2 h (Or.inr rfl)
/-- three numbers of a node, in the class and in the reference -/
def upd3 (g : Nat → Int32) (k : Nat) (x y z : Int32) : Nat → Int32 := upd (upd (upd g k x) (k + 1) y) (k + 2) z
def v3 (x y z : Int32) (c : Nat) : Int32 := if c = 0 then x else if c = 1 then y else z
theorem upd3_v {g : Nat → Int32} {k q : Nat} {x y z : Int32} : upd3 g (3 * k) x y z q = if q / 3 = k then v3 x y z (q % 3) else g q := by
  unfold upd3 v3
  by_cases e2 : q = 3 * k + 2
  · rw [e2, upd_at, if_pos (by omega), if_neg (by omega), if_neg (by omega)]
  rw [upd_ne e2]
  by_cases e1 : q = 3 * k + 1
  · rw [e1, upd_at, if_pos (by omega), if_neg (by omega), if_pos (by omega)]
  rw [upd_ne e1]
  by_cases e0 : q = 3 * k
  · rw [e0, upd_at, if_pos (by omega), if_pos (by omega)]
  rw [upd_ne e0, if_neg (by omega)]
theorem mI_3 {m : zMem} {a k : Nat} {x y z : Int32} : (mI (mI (mI m a k x) a (k + 1) y) a (k + 2) z).1 a = upd3 (m.1 a) k x y z := by rw [mI_a, mI_a, mI_a]; rfl
theorem mI_3o {m : zMem} {a b k : Nat} {x y z : Int32} (h : b ≠ a) : (mI (mI (mI m a k x) a (k + 1) y) a (k + 2) z).1 b = m.1 b := by rw [mI_o h, mI_o h, mI_o h]
/-- a group of numbers of one node changes on both sides -/
theorem nd_set {f f' : Nat → Nat → Int32} {s i w n : Nat} {v : Nat → Int32} (hn : n ≤ 48) (hcn : cn (fun a => f (1187 + a)) 3 = n) (hi : i < n) (hw : w < 3) (hv : ∀ c, c < 3 → (if w = 0 then -4194304 else -1048576) ≤ (v c).toInt ∧ (v c).toInt ≤ (if w = 0 then 4194304 else 1048576)) (F0 : ∀ j, j < 48 → ∀ c, c < 3 → f' (ndA s j) c = f (ndA s j) c) (F1 : ∀ j, j < 48 → j ≠ i → f' (ndA s j + 1) = f (ndA s j + 1)) (Fi : ∀ c, c < 9 → f' (ndA s i + 1) c = if c / 3 = w then v (c % 3) else f (ndA s i + 1) c) (G : ∀ j, j < 30 → j ≠ 17 + w → f' (1187 + j) = f (1187 + j)) (Gw : ∀ q, f' (1187 + (17 + w)) q = if q / 3 = i then v (q % 3) else f (1187 + (17 + w)) q) (h : RscN f s (fun a => f (1187 + a))) : RscN f' s (fun a => f' (1187 + a)) := by
  have hi' : i < cn (fun a => f (1187 + a)) 3 := by rw [hcn]; omega
  obtain ⟨⟨a1, a2, a3, a4⟩, b1, b2, b3, b4, b5, b6⟩ := h i hi'
  dsimp only at a1 a2 a3 a4 b1 b2 b3 b4 b5 b6
  have G0 := G 0 (by decide) (by omega)
  have G15 := G 15 (by decide) (by omega)
  have G16 := G 16 (by decide) (by omega)
  have G20 := G 20 (by decide) (by omega)
  have gg : ∀ u, u < 3 → ∀ j, ∀ c, c < 3 → f' (1187 + (17 + u)) (3 * j + c) = if u = w ∧ j = i then v c else f (1187 + (17 + u)) (3 * j + c) := fun u hu j c hc => by
    by_cases e : u = w
    · subst e
      rw [Gw]
      by_cases e2 : j = i
      · rw [if_pos (by omega), if_pos ⟨rfl, e2⟩, show (3 * j + c) % 3 = c by omega]
      · rw [if_neg (by omega), if_neg (fun q => e2 q.2)]
    · rw [G (17 + u) (by omega) (by omega), if_neg (fun q => e q.1)]
  have fi : ∀ u, u < 3 → ∀ c, c < 3 → f' (ndA s i + 1) (3 * u + c) = if u = w then v c else f (ndA s i + 1) (3 * u + c) := fun u hu c hc => by
    rw [Fi _ (by omega)]
    by_cases e : u = w
    · rw [if_pos (by omega), if_pos e, show (3 * u + c) % 3 = c by omega]
    · rw [if_neg (by omega), if_neg e]
  refine RscN_1 (i := i) (by rw [hcn]; exact hn) (congrFun G0 2) (congrFun G0 3) ⟨⟨?_, ?_, ?_, fun c hc => ?_⟩, ?_, ?_, ?_, ?_, ?_, fun c hc => ?_⟩ (fun j j1 j2 => ⟨F0 j j1, F1 j j1 j2⟩) (fun j j1 j2 => ⟨congrFun G15 j, congrFun G16 j, congrFun G20 j, fun c hc => ⟨?_, ?_, ?_⟩⟩) h
  all_goals try dsimp only
  · rw [F0 i (by omega) 0 (by decide), G15]; exact a1
  · rw [F0 i (by omega) 1 (by decide), G16]; exact a2
  · rw [F0 i (by omega) 2 (by decide), G20]; exact a3
  · have q0 := fi 0 (by decide) c hc
    have q1 := fi 1 (by decide) c hc
    have q2 := fi 2 (by decide) c hc
    have p0 := gg 0 (by decide) i c hc
    have p1 := gg 1 (by decide) i c hc
    have p2 := gg 2 (by decide) i c hc
    have aa := a4 c hc
    simp only [Nat.mul_zero, Nat.zero_add, Nat.mul_one] at q0 q1 q2
    rw [show 3 * 2 = 6 from rfl] at q2
    refine ⟨?_, ?_, ?_⟩
    · rw [q0]
      refine Eq.trans ?_ p0.symm
      by_cases e : 0 = w
      · rw [if_pos e, if_pos ⟨e, rfl⟩]
      · rw [if_neg e, if_neg (fun q => e q.1)]; exact aa.1
    · rw [q1]
      refine Eq.trans ?_ p1.symm
      by_cases e : 1 = w
      · rw [if_pos e, if_pos ⟨e, rfl⟩]
      · rw [if_neg e, if_neg (fun q => e q.1)]; exact aa.2.1
    · rw [q2]
      refine Eq.trans ?_ p2.symm
      by_cases e : 2 = w
      · rw [if_pos e, if_pos ⟨e, rfl⟩]
      · rw [if_neg e, if_neg (fun q => e q.1)]; exact aa.2.2
  · rw [G15]; exact b1
  · rw [G15]; exact b2
  · rw [G16]; exact b3
  · rw [G16, G0]; exact b4
  · rw [G20]; exact b5
  · have p0 := gg 0 (by decide) i c hc
    have p1 := gg 1 (by decide) i c hc
    have p2 := gg 2 (by decide) i c hc
    have bb := b6 c hc
    have vv := hv c hc
    rw [show (17 : Nat) + 0 = 17 from rfl] at p0
    rw [p0, show (18 : Nat) = 17 + 1 from rfl, p1, show (19 : Nat) = 17 + 2 from rfl, p2]
    by_cases e0 : w = 0
    · rw [if_pos ⟨e0.symm, rfl⟩, if_neg (fun q => by omega), if_neg (fun q => by omega)]
      rw [if_pos e0, if_pos e0] at vv
      exact ⟨vv.1, vv.2, bb.2.2⟩
    · rw [if_neg e0, if_neg e0] at vv
      rw [if_neg (fun q => e0 q.1.symm)]
      by_cases e1 : w = 1
      · rw [if_pos ⟨e1.symm, rfl⟩, if_neg (fun q => by omega)]
        exact ⟨bb.1, bb.2.1, vv.1, vv.2, bb.2.2.2.2⟩
      · rw [if_neg (fun q => e1 q.1.symm), if_pos ⟨by omega, rfl⟩]
        exact ⟨bb.1, bb.2.1, bb.2.2.1, bb.2.2.2.1, vv.1, vv.2⟩
  · have p := gg 0 (by decide) j c hc
    rw [if_neg (fun q => j2 q.2)] at p
    exact p
  · have p := gg 1 (by decide) j c hc
    rw [if_neg (fun q => j2 q.2)] at p
    exact p
  · have p := gg 2 (by decide) j c hc
    rw [if_neg (fun q => j2 q.2)] at p
    exact p
end ZSET
