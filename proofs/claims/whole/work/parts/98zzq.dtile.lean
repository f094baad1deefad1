/-! PURE: the class draws a tile -/
section ZDT
variable {W H : Nat}
/-- what wiping leaves -/
def WF (m m' : zMem) : Prop := m'.2 = m.2 ∧ ∀ a, a ≠ 1183 → a ≠ 1184 → m'.1 a = m.1 a
theorem e_w18 {le to ri y : Nat} {gr : Nat → Nat} {S : Nat → Nat → pSt} {m0 : zMem} (hR : RF m0.2.2) (h4 : m0.1 1178 4 = nI W) (h16 : m0.1 1178 16 = nI (ri - 1)) (h7 : m0.1 1178 7 = pk (gr 0) (gr 1) (gr 2)) (hg : ∀ k, k < 3 → gr k < 256) (hW48 : W ≤ 48) (hH48 : H ≤ 48) (hri : ri ≤ W) (hr1 : 1 ≤ ri) (hy : y < H) (hyt : to ≤ y) : ∀ (d x fuel : Nat) (m : zMem), x + d = ri → le ≤ x → d < fuel → WF m0 m → CPX W H (Sdn (fun _ _ _ => ((fun k => nI (gr k)), 0)) S (dnR le to ri y x)) m → zok (L_XPicture_wipe_18 (sh0 W H) fuel 1178 (nI y) (nI x) m) (fun q => q.1 = 1178 ∧ q.2.1 = nI y ∧ WF m0 q.2.2.2 ∧ CPX W H (Sdn (fun _ _ _ => ((fun k => nI (gr k)), 0)) S (dnR le to ri y ri)) q.2.2.2) := by
  intro d
  induction d with
  | zero =>
    intro x fuel m hx hle' hf hF hS
    obtain ⟨fu, rfl⟩ : ∃ fu, fuel = fu + 1 := ⟨fuel - 1, by omega⟩
    rw [L_XPicture_wipe_18, zoS_h sh_1178, hF.2 1178 (by decide) (by decide), h16, if_pos (by rw [nI_ltD (by omega) (by omega)]; omega)]
    obtain rfl : x = ri := by omega
    exact zok_s ⟨rfl, rfl, hF, hS⟩
  | succ d ih =>
    intro x fuel m hx hle' hf hF hS
    obtain ⟨fu, rfl⟩ : ∃ fu, fuel = fu + 1 := ⟨fuel - 1, by omega⟩
    have Rm : RF m.2.2 := by rw [hF.1]; exact hR
    have hat := at_lt (W := W) (H := H) (x := x) (y := y) (by omega) hy
    have hWH : W * H ≤ 48 * 48 := Nat.mul_le_mul hW48 hH48
    have eat : nI y * nI W + nI x = nI (W * y + x) := by rw [nI_mul, nI_pp, Nat.mul_comm]
    have i8 := hF.2 1178 (by decide) (by decide)
    rw [L_XPicture_wipe_18, zoS_h sh_1178, i8, h16, if_neg (by rw [nI_ltD (by omega) (by omega)]; omega), zoS_h sh_1178, zob_h (rf_1178_1 Rm), zoS_h sh_1178, zoS_h sh_1178, h7, zoL_e, h4, eat, zoL_e, zoS_h sh_1183, nI_ix hat (by omega), nI_cl (n := W * y + x) (by omega), zoL_e]
    generalize hm1 : mI m 1183 (W * y + x) (pk (gr 0) (gr 1) (gr 2)) = m1
    have R1 : m1.2 = m.2 := by rw [← hm1]; rfl
    have e1 : ∀ a, a ≠ 1183 → m1.1 a = m.1 a := fun a ha => by rw [← hm1, mI_o ha]
    have v1 : m1.1 1183 = upd (m.1 1183) (W * y + x) (pk (gr 0) (gr 1) (gr 2)) := by rw [← hm1, mI_a]
    have Rm1 : RF m1.2.2 := by rw [R1]; exact Rm
    rw [zoS_h sh_1178, zob_h (rf_1178_2 Rm1), zoS_h sh_1178, e1 1178 (by decide), i8, h4, eat, zoL_e, zoS_h sh_1184, if_neg (fun q => q.elim (nI_pos (by omega)) (by rw [nI_cl (n := W * y + x) (by omega)]; omega)), nI_cl (n := W * y + x) (by omega), zoL_e, nI_p1]
    refine ih (x + 1) fu _ (by omega) (by omega) (by omega) ⟨?_, fun a h1 h2 => by rw [mI_o h2, e1 a h1, hF.2 a h1 h2]⟩ ?_
    · show m1.2 = m0.2
      rw [R1, hF.1]
    · rw [← Sdn_x hle' (by omega) hyt]
      intro a ha b hb
      dsimp only
      by_cases e : a = x ∧ b = y
      · obtain ⟨rfl, rfl⟩ := e
        rw [if_pos ⟨rfl, rfl⟩]
        refine ⟨⟨gr, fun k hk => ⟨hg k hk, rfl⟩, ?_⟩, ?_⟩
        · rw [mI_o (by decide), v1, upd_at]
        · rw [mI_a, upd_at]; rfl
      · rw [if_neg e]
        have hne : W * b + a ≠ W * y + x := fun q => e (at_inj ha (by omega) q)
        obtain ⟨⟨c, c1, c2⟩, c3⟩ := hS a ha b hb
        refine ⟨⟨c, c1, ?_⟩, ?_⟩
        · rw [mI_o (by decide), v1, upd_ne hne]; exact c2
        · rw [mI_a, upd_ne hne, e1 1184 (by decide)]; exact c3
theorem e_w5 {le to ri bo : Nat} {gr : Nat → Nat} {S : Nat → Nat → pSt} {m0 : zMem} (hR : RF m0.2.2) (h4 : m0.1 1178 4 = nI W) (h14 : m0.1 1178 14 = nI le) (h16 : m0.1 1178 16 = nI (ri - 1)) (h17 : m0.1 1178 17 = nI (bo - 1)) (h7 : m0.1 1178 7 = pk (gr 0) (gr 1) (gr 2)) (hg : ∀ k, k < 3 → gr k < 256) (hW48 : W ≤ 48) (hH48 : H ≤ 48) (hri : ri ≤ W) (hr1 : 1 ≤ ri) (hbo : bo ≤ H) (hb1 : 1 ≤ bo) (hler : le ≤ ri) : ∀ (d y fuel : Nat) (m : zMem), y + d = bo → to ≤ y → d < fuel → WF m0 m → CPX W H (Sdn (fun _ _ _ => ((fun k => nI (gr k)), 0)) S (dnR le to ri y le)) m → zok (L_XPicture_wipe_5 (sh0 W H) fuel 1178 (nI y) m) (fun q => WF m0 q.2.2 ∧ CPX W H (Sdn (fun _ _ _ => ((fun k => nI (gr k)), 0)) S (dnR le to ri bo le)) q.2.2) := by
  intro d
  induction d with
  | zero =>
    intro y fuel m hy hty hf hF hS
    obtain ⟨fu, rfl⟩ : ∃ fu, fuel = fu + 1 := ⟨fuel - 1, by omega⟩
    rw [L_XPicture_wipe_5, zoS_h sh_1178, hF.2 1178 (by decide) (by decide), h17, if_pos (by rw [nI_ltD (by omega) (by omega)]; omega)]
    obtain rfl : y = bo := by omega
    exact zok_s ⟨hF, hS⟩
  | succ d ih =>
    intro y fuel m hy hty hf hF hS
    obtain ⟨fu, rfl⟩ : ∃ fu, fuel = fu + 1 := ⟨fuel - 1, by omega⟩
    have i8 := hF.2 1178 (by decide) (by decide)
    rw [L_XPicture_wipe_5, zoS_h sh_1178, i8, h17, if_neg (by rw [nI_ltD (by omega) (by omega)]; omega), zoS_h sh_1178, h14, zoL_e]
    refine zok_b (e_w18 (W := W) (H := H) (S := S) (le := le) (to := to) (y := y) hR h4 h16 h7 hg hW48 hH48 hri hr1 (by omega) hty (ri - le) le zfuel m (by omega) (Nat.le_refl _) (zf_lt (by omega)) hF hS) (fun q hq => ?_)
    obtain ⟨q0, q1, q2, m2⟩ := q
    obtain ⟨w0, w1, k1, k2⟩ := hq
    simp only at w0 w1 k1 k2
    subst w0 w1
    dsimp only
    rw [nI_p1]
    rw [Sdn_y] at k2
    exact ih (y + 1) fu m2 (by omega) (by omega) (by omega) k1 k2
/-- what drawing a tile's pieces leaves -/
def DF (m m' : zMem) : Prop := m'.2.2 = m.2.2 ∧ (∀ a, a ≠ 1182 → a ≠ 1183 → a ≠ 1184 → m'.1 a = m.1 a) ∧ ∀ a, a ≠ 1181 → m'.2.1 a = m.2.1 a
theorem DF_r {m : zMem} : DF m m := ⟨rfl, fun _ _ _ _ => rfl, fun _ _ => rfl⟩
theorem DF_t {m m' m'' : zMem} (h : DF m m') (k : DF m' m'') : DF m m'' := ⟨k.1.trans h.1, fun a h1 h2 h3 => (k.2.1 a h1 h2 h3).trans (h.2.1 a h1 h2 h3), fun a h1 => (k.2.2 a h1).trans (h.2.2 a h1)⟩
theorem e_takeAt {m : zMem} {n : Nat} {A B C : Nat → Int64} (hR : RF m.2.2) (hn : n < 36864) (hT : tri (fun j => m.1 1179 (18 * n + j)) A B C) (cA : CP A) (cB : CP B) (cC : CP C) : zok (F_XPiece_takeAt (sh0 W H) m 1181 1179 (18 * nI n)) (fun m' => DF m m' ∧ m'.1 1183 = m.1 1183 ∧ m'.1 1184 = m.1 1184 ∧ tri (m'.1 1182) A B C ∧ m'.2.1 1181 0 = are A B C) := by
  have e18 : (18 : Int32) * nI n = nI (18 * n) := nI_mul 18 n
  have c18 : (18 : Int32).toNatClampNeg = 18 := by decide
  have c0 : (0 : Int32).toNatClampNeg = 0 := by decide
  unfold F_XPiece_takeAt
  rw [zoS_h sh_1181, zob_h (rf_1181_1 hR), zoS_h sh_1179, zoS_h sh_1182, e18, if_pos (by rw [nI_cl (n := 18 * n) (by omega)]; exact ⟨nI_pos (by omega), by decide, by decide, by show 18 * n + 18 ≤ 663552; omega, by decide⟩), nI_cl (n := 18 * n) (by omega), c0, c18, zoL_e]
  generalize hm1 : mC m 1179 1182 (18 * n) 0 18 = m1
  have r1 : m1.2 = m.2 := by rw [← hm1]; rfl
  have R1 : RF m1.2.2 := by rw [r1]; exact hR
  have e1 : ∀ a, a ≠ 1182 → m1.1 a = m.1 a := fun a ha => by rw [← hm1, mC_1 ha]
  have v1 : ∀ k, k < 18 → m1.1 1182 k = m.1 1179 (18 * n + k) := fun k hk => by rw [← hm1, mC_v, if_pos (by omega), show 18 * n + (k - 0) = 18 * n + k by omega]
  have T1 : tri (m1.1 1182) A B C := fun k hk => by
    obtain ⟨t1, t2, t3⟩ := hT k hk
    exact ⟨by rw [v1 k (by omega)]; exact t1, by rw [v1 (6 + k) (by omega)]; exact t2, by rw [v1 (12 + k) (by omega)]; exact t3⟩
  have hc := e_crossC (W := W) (H := H) (m := m1) (x := 0) (y := 1) ⟨sh_1181, rf_1181_1 R1, sh_1182⟩ T1 cA cB cC (by decide) (by decide)
  have hc' : F_XPiece_cross (sh0 W H) m1 1181 0 1 = some (are A B C, m1) := hc
  rw [zoS_h sh_1181, zob_h hc', zoS_h sh_1181, zoL_e]
  exact zok_s ⟨⟨by show m1.2.2 = m.2.2; rw [r1], fun a h1 _ _ => e1 a h1, fun a ha => by rw [mLn ha, r1]⟩, e1 1183 (by decide), e1 1184 (by decide), T1, mLs⟩
/-- what the tile is drawn from -/
def SB (s : Nat) (g : Nat → Nat → Int32) (D : List Pc) (m : zMem) : Prop := RF m.2.2 ∧ m.2.2 1178 3 = some s ∧ PCS g D m.1 ∧ m.1 1178 10 = nI D.length ∧ D.length ≤ 36864 ∧ (∀ i, i < cn g 1 → RmtG m.1 s g i ∧ WmtG g i) ∧ (∀ t, t < cn g 0 → RtxN m.1 s g t) ∧ cn g 1 ≤ 16 ∧ cn g 0 ≤ 8 ∧ g 0 0 = nI (cn g 0) ∧ ∀ p, p ∈ D → mtN g p.1 < cn g 1
theorem RtxN_a {f f' : Nat → Nat → Int32} {s t : Nat} {g : Nat → Nat → Int32} (h : RtxN f s g t) (e0 : f' (txA s t) = f (txA s t)) (e1 : f' (txA s t + 1) = f (txA s t + 1)) (e2 : f' (txA s t + 2) = f (txA s t + 2)) : RtxN f' s g t := by
  unfold RtxN
  rw [e0, e1, e2]
  exact h
theorem SB_f {s : Nat} {g : Nat → Nat → Int32} {D : List Pc} {m m' : zMem} (hs : gS s) (h : SB s g D m) (k : DF m m') : SB s g D m' := by
  obtain ⟨h1, h2, h3, h4, h5, h6, h7, h8, h9, h10, h11⟩ := h
  have hp := gS_pl hs
  have ek : ∀ a, a < 1121 → m'.1 a = m.1 a := fun a ha => k.2.1 a (by omega) (by omega) (by omega)
  refine ⟨by rw [k.1]; exact h1, by rw [k.1]; exact h2, fun n p hp => ?_, by rw [k.2.1 1178 (by decide) (by decide) (by decide)]; exact h4, h5, fun i hi => ⟨?_, (h6 i hi).2⟩, fun t ht => RtxN_a (h7 t ht) (ek _ (by unfold txA; omega)) (ek _ (by unfold txA; omega)) (ek _ (by unfold txA; omega)), h8, h9, h10, h11⟩
  · rw [k.2.1 1179 (by decide) (by decide) (by decide), k.2.1 1180 (by decide) (by decide) (by decide)]
    exact h3 n p hp
  · unfold RmtG
    rw [ek _ (by omega)]
    exact (h6 i hi).1
theorem take_s {D : List Pc} {n : Nat} {p : Pc} (h : D[n]? = some p) : D.take (n + 1) = D.take n ++ [p] := by
  rw [List.take_add_one, h]
  rfl
theorem e_dt72 {s le to ri bo : Nat} {v1 : Int32} {g : Nat → Nat → Int32} {D : List Pc} {S : Nat → Nat → pSt} {m0 : zMem} (hs : gS s) (hB : SB s g D m0) (h4 : m0.1 1178 4 = nI W) (h14 : m0.1 1178 14 = nI le) (h15 : m0.1 1178 15 = nI to) (h16 : m0.1 1178 16 = nI (ri - 1)) (h17 : m0.1 1178 17 = nI (bo - 1)) (hW48 : W ≤ 48) (hH48 : H ≤ 48) (hri : ri ≤ W) (hbo : bo ≤ H) (hler : le < ri) (htob : to < bo) : ∀ (d n fuel : Nat) (m : zMem), n + d = D.length → d < fuel → DF m0 m → CPX W H (pcL2 g (inR le to ri bo) (D.take n) S) m → zok (L_XPicture_drawTile_72 (sh0 W H) fuel 1178 v1 (nI n) m) (fun q => q.1 = 1178 ∧ q.2.1 = v1 ∧ DF m0 q.2.2.2 ∧ CPX W H (pcL2 g (inR le to ri bo) D S) q.2.2.2) := by
  intro d
  have hlen := hB.2.2.2.2.1
  induction d with
  | zero =>
    intro n fuel m hn hf hF hS
    obtain ⟨fu, rfl⟩ : ∃ fu, fuel = fu + 1 := ⟨fuel - 1, by omega⟩
    have hBm := SB_f hs hB hF
    rw [L_XPicture_drawTile_72, zoS_h sh_1178, hBm.2.2.2.1, if_pos (by rw [nI_leD (by omega) (by omega)]; omega)]
    rw [List.take_of_length_le (by omega)] at hS
    exact zok_s ⟨rfl, rfl, hF, hS⟩
  | succ d ih =>
    intro n fuel m hn hf hF hS
    obtain ⟨fu, rfl⟩ : ∃ fu, fuel = fu + 1 := ⟨fuel - 1, by omega⟩
    have hBm := SB_f hs hB hF
    obtain ⟨b1, b2, b3, b4, b5, b6, b7, b8, b9, b10, b11⟩ := hBm
    have hp : D[n]? = some D[n] := List.getElem?_eq_getElem (by omega)
    generalize D[n] = p at hp
    obtain ⟨p1, p2, p3, p4, p5, p6⟩ := b3 n p hp
    have hmt := b11 p (List.mem_of_getElem? hp)
    rw [L_XPicture_drawTile_72, zoS_h sh_1178, b4, if_neg (by rw [nI_leD (by omega) (by omega)]; omega), zoS_h sh_1178, zob_h (rf_1178_11 b1), zoS_h sh_1178, zob_h (rf_1178_8 b1), zoS_h sh_1181]
    refine zok_b (e_takeAt (W := W) (H := H) b1 (by omega) p1 p3 p4 p5) (fun m1 hm => ?_)
    obtain ⟨f1, k3, k4, T1, a1⟩ := hm
    have R1 : RF m1.2.2 := by rw [f1.1]; exact b1
    have s1 : m1.2.2 1178 3 = some s := by rw [f1.1]; exact b2
    have kd : m1.1 1180 n = nI (mtN g p.1) := by rw [f1.2.1 1180 (by decide) (by decide) (by decide)]; exact p2
    rw [zoS_h sh_1178, zob_h s1, zoS_h (sh_s0 hs), zob_h (rf_s2 R1 hs), zoS_h sh_1178, zob_h (rf_1178_9 R1), zoS_h sh_1180, nI_ix (by omega) (by decide), nI_cl (n := n) (by omega), kd, zoL_e, zoR_h (sh_s3 hs) (by decide), nI_ix (by omega) (by decide), nI_cl (n := mtN g p.1) (by omega), zob_h (rf_mt R1 hs (by omega)), zoS_h sh_1178]
    have hB1 := SB_f hs ⟨b1, b2, b3, b4, b5, b6, b7, b8, b9, b10, b11⟩ f1
    have F1 := DF_t hF f1
    have i8 : m1.1 1178 = m0.1 1178 := F1.2.1 1178 (by decide) (by decide) (by decide)
    have hD1 : DB W s (mtN g p.1) g p.2.2.1 p.2.2.2.1 p.2.2.2.2 m1 := ⟨R1, s1, T1, a1, by rw [i8]; exact h4, (hB1.2.2.2.2.2.1 _ hmt).1⟩
    have hWm := (b6 _ hmt).2
    have t8 : (g 6 (mtN g p.1)).toInt < 8 := by
      have := hWm.2.2.1
      rw [b10, nI_toInt (by omega)] at this
      omega
    have hS1 : CPX W H (pcL2 g (inR le to ri bo) (D.take n) S) m1 := fun x hx y hy => by
      rw [k3, k4]
      exact hS x hx y hy
    refine zok_b (e_dpiece (W := W) (H := H) hs (by omega) hWm hD1 p3 p4 p5 p6 hW48 hH48 hri hbo hler htob (by rw [i8]; exact h14) (by rw [i8]; exact h15) (by rw [i8]; exact h16) (by rw [i8]; exact h17) hS1 (fun t e6 ht => TXC_o (hB1.2.2.2.2.2.2.1 t (by
      have := hWm.2.2.1
      rw [b10, e6, nI_toInt (by omega), nI_toInt (by omega)] at this
      omega))) t8) (fun m2 hm2 => ?_)
    rw [nI_p1]
    refine ih (n + 1) fu m2 (by omega) (by omega) (DF_t F1 ⟨hm2.1.1, fun a _ h2 h3 => hm2.1.2.1 a h2 h3, hm2.1.2.2.1⟩) ?_
    rw [take_s hp, pcL2_a]
    exact hm2.2
/-- drawTile whole -/
def tl (W k : Nat) : Nat := 8 * (k % ((W + 7) / 8))
def tt (W k : Nat) : Nat := 8 * (k / ((W + 7) / 8))
def tr (W k : Nat) : Nat := min (tl W k + 8) W
def tb (W H k : Nat) : Nat := min (tt W k + 8) H
/-- what drawing a tile leaves -/
def TD (m m' : zMem) : Prop := m'.2.2 = m.2.2 ∧ (∀ a, a ≠ 1178 → a ≠ 1182 → a ≠ 1183 → a ≠ 1184 → m'.1 a = m.1 a) ∧ (∀ c, c < 14 → m'.1 1178 c = m.1 1178 c) ∧ ∀ a, a ≠ 1178 → a ≠ 1181 → m'.2.1 a = m.2.1 a
theorem min_nI {a b : Nat} (ha : a < 2147483648) (hb : b < 2147483648) : zx_min (nI a) (nI b) = nI (min a b) := by
  unfold zx_min
  by_cases c : b < a
  · rw [if_pos ((nI_ltD hb ha).mpr c), Nat.min_eq_right (by omega)]
  · rw [if_neg (fun q => c ((nI_ltD hb ha).mp q)), Nat.min_eq_left (by omega)]
theorem tile_in {k : Nat} (hW8 : 8 ≤ W) (hH8 : 8 ≤ H) (hk : k < (W + 7) / 8 * ((H + 7) / 8)) : tl W k < W ∧ tt W k < H ∧ tl W k < tr W k ∧ tt W k < tb W H k ∧ tr W k ≤ W ∧ tb W H k ≤ H := by
  have a1 : k % ((W + 7) / 8) < (W + 7) / 8 := Nat.mod_lt _ (by omega)
  have a2 : k / ((W + 7) / 8) < (H + 7) / 8 := Nat.div_lt_of_lt_mul hk
  have b1 : tl W k < W := by unfold tl; omega
  have b2 : tt W k < H := by unfold tt; omega
  refine ⟨b1, b2, ?_, ?_, Nat.min_le_right _ _, Nat.min_le_right _ _⟩
  · unfold tr; omega
  · unfold tb; omega
theorem e_drawT {m : zMem} {s k : Nat} {g : Nat → Nat → Int32} {D : List Pc} {S : Nat → Nat → pSt} {gr : Nat → Nat} (hs : gS s) (hB : SB s g D m) (h4 : m.1 1178 4 = nI W) (h5 : m.1 1178 5 = nI H) (h6 : m.1 1178 6 = nI ((W + 7) / 8)) (h7 : m.1 1178 7 = pk (gr 0) (gr 1) (gr 2)) (hg : ∀ k, k < 3 → gr k < 256) (hW8 : 8 ≤ W) (hH8 : 8 ≤ H) (hW48 : W ≤ 48) (hH48 : H ≤ 48) (hk : k < (W + 7) / 8 * ((H + 7) / 8)) (hS : CPX W H S m) : zok (F_XPicture_drawTile (sh0 W H) m 1178 (nI k)) (fun m' => TD m m' ∧ m'.2.1 1178 13 = m.2.1 1178 13 ||| (1 <<< ((nI k).toInt64 &&& 63)) ∧ CPX W H (pcL2 g (inR (tl W k) (tt W k) (tr W k) (tb W H k)) D (fun a b => if inR (tl W k) (tt W k) (tr W k) (tb W H k) a b then ((fun k => nI (gr k)), 0) else S a b)) m') := by
  obtain ⟨t1, t2, t3, t4, t5, t6⟩ := tile_in (W := W) (H := H) hW8 hH8 hk
  have hac : (W + 7) / 8 ≤ 6 := by omega
  have hah : (H + 7) / 8 ≤ 6 := by omega
  have hk36 : k < 36 := by
    have := Nat.mul_le_mul hac hah
    omega
  have n6 : ¬ nI ((W + 7) / 8) = 0 := fun q => by
    have := (nI_eqD (a := (W + 7) / 8) (b := 0) (by omega) (by decide)).mp q
    omega
  have e1 : (nI k - nI k / nI ((W + 7) / 8) * nI ((W + 7) / 8)) * 8 = nI (tl W k) := by
    rw [i32_rem (by omega) (by omega) (by omega), show (8 : Int32) = nI 8 from rfl, nI_mul]
    unfold tl
    rw [Nat.mul_comm]
  have e2 : (nI k / nI ((W + 7) / 8)) * 8 = nI (tt W k) := by
    rw [nI_div (by omega) (by omega) (by omega), show (8 : Int32) = nI 8 from rfl, nI_mul]
    unfold tt
    rw [Nat.mul_comm]
  have e3 : zx_min (nI (tl W k) + 8) (nI W) - 1 = nI (tr W k - 1) := by
    rw [show (8 : Int32) = nI 8 from rfl, nI_pp, min_nI (by omega) (by omega)]
    exact nI_sub (show 1 ≤ tr W k by omega)
  have e4 : zx_min (nI (tt W k) + 8) (nI H) - 1 = nI (tb W H k - 1) := by
    rw [show (8 : Int32) = nI 8 from rfl, nI_pp, min_nI (by omega) (by omega)]
    exact nI_sub (show 1 ≤ tb W H k by omega)
  generalize tl W k = le at *
  generalize tt W k = to at *
  generalize tr W k = ri at *
  generalize tb W H k = bo at *
  have sx := sh_1178 (W := W) (H := H)
  unfold F_XPicture_drawTile
  rw [zoS_h sx, h6, if_neg n6, e1, zoL_e, zoS_h sx, zoL_e]
  generalize hm1 : mI m 1178 14 (nI le) = m1
  have v1 : ∀ c, m1.1 1178 c = if c = 14 then nI le else m.1 1178 c := fun c => by rw [← hm1, mI_v, if_pos rfl]
  have o1 : ∀ a, a ≠ 1178 → m1.1 a = m.1 a := fun a ha => by rw [← hm1, mI_o ha]
  have r1 : m1.2 = m.2 := by rw [← hm1]; rfl
  have g6 : m1.1 1178 6 = nI ((W + 7) / 8) := by rw [v1, if_neg (by decide), h6]
  rw [zoS_h sx, g6, if_neg n6, e2, zoL_e, zoS_h sx, zoL_e]
  generalize hm2 : mI m1 1178 15 (nI to) = m2
  have v2 : ∀ c, m2.1 1178 c = if c = 15 then nI to else m1.1 1178 c := fun c => by rw [← hm2, mI_v, if_pos rfl]
  have o2 : ∀ a, a ≠ 1178 → m2.1 a = m.1 a := fun a ha => by rw [← hm2, mI_o ha, o1 a ha]
  have r2 : m2.2 = m.2 := by rw [← hm2]; exact r1
  have g14 : m2.1 1178 14 = nI le := by rw [v2, if_neg (by decide), v1, if_pos rfl]
  have g4 : m2.1 1178 4 = nI W := by rw [v2, if_neg (by decide), v1, if_neg (by decide), h4]
  rw [zoS_h sx, zoS_h sx, g14, g4, e3, zoL_e, zoS_h sx, zoL_e]
  generalize hm3 : mI m2 1178 16 (nI (ri - 1)) = m3
  have v3 : ∀ c, m3.1 1178 c = if c = 16 then nI (ri - 1) else m2.1 1178 c := fun c => by rw [← hm3, mI_v, if_pos rfl]
  have o3 : ∀ a, a ≠ 1178 → m3.1 a = m.1 a := fun a ha => by rw [← hm3, mI_o ha, o2 a ha]
  have r3 : m3.2 = m.2 := by rw [← hm3]; exact r2
  have g15 : m3.1 1178 15 = nI to := by rw [v3, if_neg (by decide), v2, if_pos rfl]
  have g5 : m3.1 1178 5 = nI H := by rw [v3, if_neg (by decide), v2, if_neg (by decide), v1, if_neg (by decide), h5]
  rw [zoS_h sx, zoS_h sx, g15, g5, e4, zoL_e, zoS_h sx, zoL_e]
  generalize hm4 : mI m3 1178 17 (nI (bo - 1)) = m4
  have v4 : ∀ c, m4.1 1178 c = if c = 17 then nI (bo - 1) else m3.1 1178 c := fun c => by rw [← hm4, mI_v, if_pos rfl]
  have o4 : ∀ a, a ≠ 1178 → m4.1 a = m.1 a := fun a ha => by rw [← hm4, mI_o ha, o3 a ha]
  have r4 : m4.2 = m.2 := by rw [← hm4]; exact r3
  have w14 : m4.1 1178 14 = nI le := by rw [v4, if_neg (by decide), v3, if_neg (by decide), v2, if_neg (by decide), v1, if_pos rfl]
  have w15 : m4.1 1178 15 = nI to := by rw [v4, if_neg (by decide), v3, if_neg (by decide), v2, if_pos rfl]
  have w16 : m4.1 1178 16 = nI (ri - 1) := by rw [v4, if_neg (by decide), v3, if_pos rfl]
  have w17 : m4.1 1178 17 = nI (bo - 1) := by rw [v4, if_pos rfl]
  have wc : ∀ c, c < 14 → m4.1 1178 c = m.1 1178 c := fun c hc => by rw [v4, if_neg (by omega), v3, if_neg (by omega), v2, if_neg (by omega), v1, if_neg (by omega)]
  obtain ⟨b1, b2, b3, b4, b5, b6, b7, b8, b9, b10, b11⟩ := hB
  have R4 : RF m4.2.2 := by rw [r4]; exact b1
  have hp := gS_pl hs
  have hB4 : SB s g D m4 := ⟨R4, by rw [r4]; exact b2, fun n p hp => by rw [o4 1179 (by decide), o4 1180 (by decide)]; exact b3 n p hp, by rw [wc 10 (by decide)]; exact b4, b5, fun i hi => ⟨by unfold RmtG; rw [o4 _ (by omega)]; exact (b6 i hi).1, (b6 i hi).2⟩, fun t ht => RtxN_a (b7 t ht) (o4 _ (by unfold txA; omega)) (o4 _ (by unfold txA; omega)) (o4 _ (by unfold txA; omega)), b8, b9, b10, b11⟩
  have hS4 : CPX W H S m4 := fun x hx y hy => by
    rw [o4 1183 (by decide), o4 1184 (by decide)]
    exact hS x hx y hy
  rw [zoS_h sx]
  have hwipe : zok (F_XPicture_wipe (sh0 W H) m4 1178) (fun m' => WF m4 m' ∧ CPX W H (fun a b => if inR le to ri bo a b then ((fun k => nI (gr k)), 0) else S a b) m') := by
    unfold F_XPicture_wipe
    rw [zoS_h sx, w15, zoL_e]
    refine zok_b (e_w5 (W := W) (H := H) (S := S) (le := le) (to := to) (ri := ri) (bo := bo) (gr := gr) R4 (by rw [wc 4 (by decide)]; exact h4) w14 w16 w17 (by rw [wc 7 (by decide)]; exact h7) hg hW48 hH48 t5 (by omega) t6 (by omega) (by omega) (bo - to) to zfuel m4 (by omega) (Nat.le_refl _) (zf_lt (by omega)) ⟨rfl, fun _ _ _ => rfl⟩ (by rw [dn_none]; exact hS4)) (fun q hq => zok_s ⟨hq.1, ?_⟩)
    have := hq.2
    rw [dn_all] at this
    exact this
  refine zok_b hwipe (fun m5 h5' => ?_)
  obtain ⟨f5, S5⟩ := h5'
  have D5 : DF m4 m5 := ⟨by rw [f5.1], fun a _ h2 h3 => f5.2 a h2 h3, fun a _ => by rw [f5.1]⟩
  have i8 : m5.1 1178 = m4.1 1178 := f5.2 1178 (by decide) (by decide)
  refine zok_b (show zok (L_XPicture_drawTile_72 (sh0 W H) zfuel 1178 (nI k) 0 m5) _ from e_dt72 (W := W) (H := H) (S := fun a b => if inR le to ri bo a b then ((fun k => nI (gr k)), 0) else S a b) (v1 := nI k) (m0 := m5) hs (SB_f hs hB4 D5) (by rw [i8, wc 4 (by decide)]; exact h4) (by rw [i8]; exact w14) (by rw [i8]; exact w15) (by rw [i8]; exact w16) (by rw [i8]; exact w17) hW48 hH48 t5 t6 t3 t4 D.length 0 zfuel m5 (by omega) (zf_lt (by omega)) DF_r S5) (fun q hq => ?_)
  obtain ⟨q0, q1, q2, m6⟩ := q
  obtain ⟨z0, z1, k1, k2⟩ := hq
  simp only at z0 z1 k1 k2
  subst z0 z1
  dsimp only
  rw [zoS_h sx, zoL_e, zoS_h sx, zoL_e]
  have D6 := DF_t D5 k1
  refine zok_s ⟨⟨by show m6.2.2 = m.2.2; rw [D6.1, r4], fun a h1 h2 h3 h4 => by show m6.1 a = m.1 a; rw [D6.2.1 a h2 h3 h4, o4 a h1], fun c hc => by show m6.1 1178 c = m.1 1178 c; rw [D6.2.1 1178 (by decide) (by decide) (by decide), wc c hc], fun a h1 h2 => by rw [mLn h1, D6.2.2 a h2, r4]⟩, ?_, k2⟩
  rw [mLs, D6.2.2 1178 (by decide), r4]
end ZDT
