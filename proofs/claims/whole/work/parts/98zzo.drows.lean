/-! PURE: the class draws a piece: its rows -/
section ZDR
variable {W H : Nat}
theorem TXC_f {f f' : Nat → Nat → Int32} {s t e : Nat} {g : Nat → Nat → Int32} {L : Nat → Nat → Nat} (hs : gS s) (ht : t < 8) (h : TXC f s g t e L) (k : ∀ a, a ≠ 1183 → a ≠ 1184 → f' a = f a) : TXC f' s g t e L := by
  have hp := gS_pl hs
  have e0 := k (txA s t) (by unfold txA; omega) (by unfold txA; omega)
  have e1 := k (txA s t + 1) (by unfold txA; omega) (by unfold txA; omega)
  have e2 := k (txA s t + 2) (by unfold txA; omega) (by unfold txA; omega)
  unfold TXC
  rw [e0, e1, e2]
  exact h
theorem e_146N {s mt le to ri : Nat} {g : Nat → Nat → Int32} {A B C : Nat → Int64} {S : Nat → Nat → pSt} {m0 : zMem} {v2 v5 : Int32} {v7 : Int32} (hs : gS s) (hmt : mt < 16) (hWm : WmtG g mt) (hD : DB W s mt g A B C m0) (cA : CP A) (cB : CP B) (cC : CP C) (har : 0 < (are A B C).toInt) (hW48 : W ≤ 48) (hH48 : H ≤ 48) (hri : ri ≤ W) (hr1 : 1 ≤ ri) (h6 : g 6 mt < 0) {y : Nat} (hy : y < H) (hyt : to ≤ y) : ∀ (d x fuel : Nat) (m : zMem), x + d = ri → le ≤ x → d < fuel → PF m0 m → CPX W H (Sdn (fun x y => pxF g mt A B C x y) S (dnR le to ri y x)) m → zok (L_XPicture_drawPiece_146N (sh0 W H) fuel 1178 (s + (4 + mt)) v2 (nI (ri - 1)) v5 v7 (nI y) (nI x) m) (fun q => q.1 = 1178 ∧ q.2.1 = s + (4 + mt) ∧ q.2.2.1 = v2 ∧ q.2.2.2.1 = nI (ri - 1) ∧ q.2.2.2.2.1 = v5 ∧ q.2.2.2.2.2.1 = v7 ∧ q.2.2.2.2.2.2.1 = nI y ∧ PF m0 q.2.2.2.2.2.2.2.2 ∧ CPX W H (Sdn (fun x y => pxF g mt A B C x y) S (dnR le to ri y ri)) q.2.2.2.2.2.2.2.2) := by
  intro d
  induction d with
  | zero =>
    intro x fuel m hx hle' hf hF hS
    obtain ⟨fu, rfl⟩ : ∃ fu, fuel = fu + 1 := ⟨fuel - 1, by omega⟩
    rw [L_XPicture_drawPiece_146N, if_pos (by rw [nI_ltD (by omega) (by omega)]; omega)]
    obtain rfl : x = ri := by omega
    exact zok_s ⟨rfl, rfl, rfl, rfl, rfl, rfl, rfl, hF, hS⟩
  | succ d ih =>
    intro x fuel m hx hle' hf hF hS
    obtain ⟨fu, rfl⟩ : ∃ fu, fuel = fu + 1 := ⟨fuel - 1, by omega⟩
    have hDm := DB_f hs hmt hD hF
    rw [L_XPicture_drawPiece_146N, if_neg (by rw [nI_ltD (by omega) (by omega)]; omega)]
    have fin : ∀ m2, PF m m2 → CPX W H (fun a b => if a = x ∧ b = y then pxF g mt A B C x y (Sdn (fun x y => pxF g mt A B C x y) S (dnR le to ri y x) a b) else Sdn (fun x y => pxF g mt A B C x y) S (dnR le to ri y x) a b) m2 → zok (L_XPicture_drawPiece_146N (sh0 W H) fu 1178 (s + (4 + mt)) v2 (nI (ri - 1)) v5 v7 (nI y) (nI x + 1) m2) (fun q => q.1 = 1178 ∧ q.2.1 = s + (4 + mt) ∧ q.2.2.1 = v2 ∧ q.2.2.2.1 = nI (ri - 1) ∧ q.2.2.2.2.1 = v5 ∧ q.2.2.2.2.2.1 = v7 ∧ q.2.2.2.2.2.2.1 = nI y ∧ PF m0 q.2.2.2.2.2.2.2.2 ∧ CPX W H (Sdn (fun x y => pxF g mt A B C x y) S (dnR le to ri y ri)) q.2.2.2.2.2.2.2.2) := fun m2 k1 k2 => by
      rw [nI_p1]
      have he := Sdn_x (F := (fun x y => pxF g mt A B C x y)) (S := S) (le := le) (to := to) (ri := ri) (x := x) (y := y) hle' (by omega) hyt
      exact ih (x + 1) fu m2 (by omega) (by omega) (by omega) (PF_t hF k1) (he ▸ k2)
    refine e_pxL (W := W) (H := H) (D := (fun x125 pp => zoS (sh0 W H 1178) 5 (fun le147 => Option.bind (F_XPicture_drawPixel (sh0 W H) pp 1178 x125 (s + (4 + mt)) 16777215) (fun p148 => (fun mz => L_XPicture_drawPiece_146N (sh0 W H) fu 1178 (s + (4 + mt)) v2 (nI (ri - 1)) v5 v7 (nI y) (nI x + 1) mz) p148)))) (K := (fun mz => L_XPicture_drawPiece_146N (sh0 W H) fu 1178 (s + (4 + mt)) v2 (nI (ri - 1)) v5 v7 (nI y) (nI x + 1) mz)) hDm cA cB cC har hW48 hH48 (by omega) hy hS (fun m1 f1 c1 hc hn => ?_) (fun m1 f1 k2 => fin m1 (PF_v f1) k2)
    have hD1 := DB_f hs hmt hDm (PF_v f1)
    have R1 := hD1.1
    have hS1 := CPX_v hS f1.1
    dsimp only
    rw [zoS_h sh_1178]
    refine zok_b (e_pxD (t := fun _ => 255) hs hmt hWm hD1 cA cB cC har hW48 hH48 (by omega) hy hS1 c1 hc hn (fun k hk => ⟨by decide, by unfold ownC; rw [if_pos h6]; rfl⟩)) (fun m2 h2 => fin m2 (PF_t (PF_v f1) h2.1) h2.2)
theorem e_136N {s mt le to ri : Nat} {g : Nat → Nat → Int32} {A B C : Nat → Int64} {S : Nat → Nat → pSt} {m0 : zMem} {bo : Nat} {v7 : Int32} (hs : gS s) (hmt : mt < 16) (hWm : WmtG g mt) (hD : DB W s mt g A B C m0) (cA : CP A) (cB : CP B) (cC : CP C) (har : 0 < (are A B C).toInt) (hW48 : W ≤ 48) (hH48 : H ≤ 48) (hri : ri ≤ W) (hr1 : 1 ≤ ri) (h6 : g 6 mt < 0) (hbo : bo ≤ H) (hb1 : 1 ≤ bo) (hler : le ≤ ri) : ∀ (d y fuel : Nat) (m : zMem), y + d = bo → to ≤ y → d < fuel → PF m0 m → CPX W H (Sdn (fun x y => pxF g mt A B C x y) S (dnR le to ri y le)) m → zok (L_XPicture_drawPiece_136N (sh0 W H) fuel 1178 (s + (4 + mt)) (nI le) (nI (ri - 1)) (nI (bo - 1)) v7 (nI y) m) (fun q => PF m0 q.2.2.2.2.2.2.2 ∧ CPX W H (Sdn (fun x y => pxF g mt A B C x y) S (dnR le to ri bo le)) q.2.2.2.2.2.2.2) := by
  intro d
  induction d with
  | zero =>
    intro y fuel m hy hty hf hF hS
    obtain ⟨fu, rfl⟩ : ∃ fu, fuel = fu + 1 := ⟨fuel - 1, by omega⟩
    rw [L_XPicture_drawPiece_136N, if_pos (by rw [nI_ltD (by omega) (by omega)]; omega)]
    obtain rfl : y = bo := by omega
    exact zok_s ⟨hF, hS⟩
  | succ d ih =>
    intro y fuel m hy hty hf hF hS
    obtain ⟨fu, rfl⟩ : ∃ fu, fuel = fu + 1 := ⟨fuel - 1, by omega⟩
    rw [L_XPicture_drawPiece_136N, if_neg (by rw [nI_ltD (by omega) (by omega)]; omega)]
    refine zok_b (e_146N (W := W) (H := H) (S := S) (le := le) (to := to) (v2 := nI le) (v5 := nI (bo - 1)) hs hmt hWm hD cA cB cC har hW48 hH48 hri hr1 h6 (show y < H by omega) hty (ri - le) le zfuel m (by omega) (Nat.le_refl _) (zf_lt (by omega)) hF hS) (fun q hq => ?_)
    obtain ⟨q0, q1, q2, q3, q4, q5, q6, qx, m2⟩ := q
    obtain ⟨w0, w1, w2, w3, w4, w5, w6, k1, k2⟩ := hq
    simp only at w0 w1 w2 w3 w4 w5 w6 k1 k2
    subst w0 w1 w2 w3 w4 w5 w6
    dsimp only
    rw [nI_p1]
    rw [Sdn_y] at k2
    exact ih (y + 1) fu m2 (by omega) (by omega) (by omega) k1 k2
theorem e_146 {s mt le to ri : Nat} {g : Nat → Nat → Int32} {A B C : Nat → Int64} {S : Nat → Nat → pSt} {m0 : zMem} {v2 v5 : Int32} {t e l : Nat} {L : Nat → Nat → Nat} (hs : gS s) (hmt : mt < 16) (hWm : WmtG g mt) (hD : DB W s mt g A B C m0) (cA : CP A) (cB : CP B) (cC : CP C) (har : 0 < (are A B C).toInt) (hW48 : W ≤ 48) (hH48 : H ≤ 48) (hri : ri ≤ W) (hr1 : 1 ≤ ri) (ht8 : t < 8) (h6 : g 6 mt = nI t) (hT : TXC m0.1 s g t e L) (hl : l ≤ e) (hle : l = lvS (wid A B C (nI (sd e 0)).toInt64) (are A B C) e 0) {y : Nat} (hy : y < H) (hyt : to ≤ y) : ∀ (d x fuel : Nat) (m : zMem), x + d = ri → le ≤ x → d < fuel → PF m0 m → CPX W H (Sdn (fun x y => pxF g mt A B C x y) S (dnR le to ri y x)) m → zok (L_XPicture_drawPiece_146 (sh0 W H) fuel 1178 (s + (4 + mt)) v2 (nI (ri - 1)) v5 (txA s t) (nI l) (nI y) (nI x) m) (fun q => q.1 = 1178 ∧ q.2.1 = s + (4 + mt) ∧ q.2.2.1 = v2 ∧ q.2.2.2.1 = nI (ri - 1) ∧ q.2.2.2.2.1 = v5 ∧ q.2.2.2.2.2.1 = txA s t ∧ q.2.2.2.2.2.2.1 = nI l ∧ q.2.2.2.2.2.2.2.1 = nI y ∧ PF m0 q.2.2.2.2.2.2.2.2.2 ∧ CPX W H (Sdn (fun x y => pxF g mt A B C x y) S (dnR le to ri y ri)) q.2.2.2.2.2.2.2.2.2) := by
  intro d
  induction d with
  | zero =>
    intro x fuel m hx hle' hf hF hS
    obtain ⟨fu, rfl⟩ : ∃ fu, fuel = fu + 1 := ⟨fuel - 1, by omega⟩
    rw [L_XPicture_drawPiece_146, if_pos (by rw [nI_ltD (by omega) (by omega)]; omega)]
    obtain rfl : x = ri := by omega
    exact zok_s ⟨rfl, rfl, rfl, rfl, rfl, rfl, rfl, rfl, hF, hS⟩
  | succ d ih =>
    intro x fuel m hx hle' hf hF hS
    obtain ⟨fu, rfl⟩ : ∃ fu, fuel = fu + 1 := ⟨fuel - 1, by omega⟩
    have hDm := DB_f hs hmt hD hF
    rw [L_XPicture_drawPiece_146, if_neg (by rw [nI_ltD (by omega) (by omega)]; omega)]
    have fin : ∀ m2, PF m m2 → CPX W H (fun a b => if a = x ∧ b = y then pxF g mt A B C x y (Sdn (fun x y => pxF g mt A B C x y) S (dnR le to ri y x) a b) else Sdn (fun x y => pxF g mt A B C x y) S (dnR le to ri y x) a b) m2 → zok (L_XPicture_drawPiece_146 (sh0 W H) fu 1178 (s + (4 + mt)) v2 (nI (ri - 1)) v5 (txA s t) (nI l) (nI y) (nI x + 1) m2) (fun q => q.1 = 1178 ∧ q.2.1 = s + (4 + mt) ∧ q.2.2.1 = v2 ∧ q.2.2.2.1 = nI (ri - 1) ∧ q.2.2.2.2.1 = v5 ∧ q.2.2.2.2.2.1 = txA s t ∧ q.2.2.2.2.2.2.1 = nI l ∧ q.2.2.2.2.2.2.2.1 = nI y ∧ PF m0 q.2.2.2.2.2.2.2.2.2 ∧ CPX W H (Sdn (fun x y => pxF g mt A B C x y) S (dnR le to ri y ri)) q.2.2.2.2.2.2.2.2.2) := fun m2 k1 k2 => by
      rw [nI_p1]
      have he := Sdn_x (F := (fun x y => pxF g mt A B C x y)) (S := S) (le := le) (to := to) (ri := ri) (x := x) (y := y) hle' (by omega) hyt
      exact ih (x + 1) fu m2 (by omega) (by omega) (by omega) (PF_t hF k1) (he ▸ k2)
    refine e_pxL (W := W) (H := H) (D := (fun x80 pp => zoS (sh0 W H 1178) 5 (fun le102 => Option.bind (pp.2.2 1178 11) (fun a103 => zoS (sh0 W H a103) 6 (fun le105 => Option.bind (F_XPiece_mixed (sh0 W H) pp a103 3) (fun p106 => zoS (sh0 W H 1178) 5 (fun le108 => Option.bind ((p106.2).2.2 1178 11) (fun a109 => zoS (sh0 W H a109) 6 (fun le111 => Option.bind (F_XPiece_mixed (sh0 W H) (p106.2) a109 4) (fun p112 => zoS (sh0 W H (txA s t)) 10 (fun le114 => Option.bind (F_XTexture_colourAt (sh0 W H) (p112.2) (txA s t) (nI l) (p106.1) (p112.1)) (fun p115 => zoS (sh0 W H 1178) 5 (fun le117 => Option.bind (F_XPicture_drawPixel (sh0 W H) (p115.2) 1178 x80 (s + (4 + mt)) (p115.1)) (fun p118 => (fun mz => L_XPicture_drawPiece_146 (sh0 W H) fu 1178 (s + (4 + mt)) v2 (nI (ri - 1)) v5 (txA s t) (nI l) (nI y) (nI x + 1) mz) p118)))))))))))))) (K := (fun mz => L_XPicture_drawPiece_146 (sh0 W H) fu 1178 (s + (4 + mt)) v2 (nI (ri - 1)) v5 (txA s t) (nI l) (nI y) (nI x + 1) mz)) hDm cA cB cC har hW48 hH48 (by omega) hy hS (fun m1 f1 c1 hc hn => ?_) (fun m1 f1 k2 => fin m1 (PF_v f1) k2)
    have hD1 := DB_f hs hmt hDm (PF_v f1)
    have R1 := hD1.1
    have hS1 := CPX_v hS f1.1
    have hxy : 0 ≤ (cX x).toInt ∧ (cX x).toInt ≤ 1200 := by rw [cX_i (by omega)]; omega
    have hyy : 0 ≤ (cX y).toInt ∧ (cX y).toInt ≤ 1200 := by rw [cX_i (by omega)]; omega
    obtain ⟨b1, b2, b3, b4, b5, b6, b7, b8⟩ := cov_b cA cB cC hxy hyy har hc
    have pc : pcT W H 1181 1182 m1 := ⟨sh_1181, rf_1181_1 R1, sh_1182⟩
    have x3 := e_mixC (c := 3) pc hD1.2.2.1 (by decide)
    have x4 := e_mixC (c := 4) pc hD1.2.2.1 (by decide)
    rw [mix_p c1 b3.1] at x3 x4
    have x3' : F_XPiece_mixed (sh0 W H) m1 1181 3 = some (pMx A B C (cX x) (cX y) 3, m1) := x3
    have x4' : F_XPiece_mixed (sh0 W H) m1 1181 4 = some (pMx A B C (cX x) (cX y) 4, m1) := x4
    obtain ⟨cc, k1, k2⟩ := e_colC (W := W) (H := H) (m := m1) (u := pMx A B C (cX x) (cX y) 3) (v := pMx A B C (cX x) (cX y) 4) hs ht8 R1 (TXC_f hs ht8 hT (PF_t hF (PF_v f1)).2.1) hl (b5 3 (Or.inl rfl)) (b5 4 (Or.inr rfl))
    dsimp only
    rw [zoS_h sh_1178, zob_h (rf_1178_11 R1), zoS_h sh_1181, zob_h x3']
    dsimp only
    rw [zoS_h sh_1178, zob_h (rf_1178_11 R1), zoS_h sh_1181, zob_h x4']
    dsimp only
    rw [zoS_h (sh_txA hs ht8), zob_h k2]
    dsimp only
    rw [zoS_h sh_1178]
    have own : ∀ k, k < 3 → cc k < 256 ∧ ownC g A B C (are A B C) mt (pMx A B C (cX x) (cX y) 3) (pMx A B C (cX x) (cX y) 4) k = oL (cc k) := fun k hk => by
      refine ⟨(k1 k hk).1, ?_⟩
      have tt : tTx g mt = t := by unfold tTx; rw [h6, nI_cl (by omega)]
      unfold ownC
      rw [if_neg (by rw [h6]; exact nI_pos (by omega)), tt, tE_e (TXC_W hT), ← hle, (k1 k hk).2, oL_n (by have := (k1 k hk).1; omega)]
    refine zok_b (e_pxD hs hmt hWm hD1 cA cB cC har hW48 hH48 (by omega) hy hS1 c1 hc hn own) (fun m2 h2 => fin m2 (PF_t (PF_v f1) h2.1) h2.2)
theorem e_136 {s mt le to ri : Nat} {g : Nat → Nat → Int32} {A B C : Nat → Int64} {S : Nat → Nat → pSt} {m0 : zMem} {bo : Nat} {t e l : Nat} {L : Nat → Nat → Nat} (hs : gS s) (hmt : mt < 16) (hWm : WmtG g mt) (hD : DB W s mt g A B C m0) (cA : CP A) (cB : CP B) (cC : CP C) (har : 0 < (are A B C).toInt) (hW48 : W ≤ 48) (hH48 : H ≤ 48) (hri : ri ≤ W) (hr1 : 1 ≤ ri) (ht8 : t < 8) (h6 : g 6 mt = nI t) (hT : TXC m0.1 s g t e L) (hl : l ≤ e) (hle : l = lvS (wid A B C (nI (sd e 0)).toInt64) (are A B C) e 0) (hbo : bo ≤ H) (hb1 : 1 ≤ bo) (hler : le ≤ ri) : ∀ (d y fuel : Nat) (m : zMem), y + d = bo → to ≤ y → d < fuel → PF m0 m → CPX W H (Sdn (fun x y => pxF g mt A B C x y) S (dnR le to ri y le)) m → zok (L_XPicture_drawPiece_136 (sh0 W H) fuel 1178 (s + (4 + mt)) (nI le) (nI (ri - 1)) (nI (bo - 1)) (txA s t) (nI l) (nI y) m) (fun q => PF m0 q.2.2.2.2.2.2.2.2 ∧ CPX W H (Sdn (fun x y => pxF g mt A B C x y) S (dnR le to ri bo le)) q.2.2.2.2.2.2.2.2) := by
  intro d
  induction d with
  | zero =>
    intro y fuel m hy hty hf hF hS
    obtain ⟨fu, rfl⟩ : ∃ fu, fuel = fu + 1 := ⟨fuel - 1, by omega⟩
    rw [L_XPicture_drawPiece_136, if_pos (by rw [nI_ltD (by omega) (by omega)]; omega)]
    obtain rfl : y = bo := by omega
    exact zok_s ⟨hF, hS⟩
  | succ d ih =>
    intro y fuel m hy hty hf hF hS
    obtain ⟨fu, rfl⟩ : ∃ fu, fuel = fu + 1 := ⟨fuel - 1, by omega⟩
    rw [L_XPicture_drawPiece_136, if_neg (by rw [nI_ltD (by omega) (by omega)]; omega)]
    refine zok_b (e_146 (W := W) (H := H) (S := S) (le := le) (to := to) (v2 := nI le) (v5 := nI (bo - 1)) hs hmt hWm hD cA cB cC har hW48 hH48 hri hr1 ht8 h6 hT hl hle (show y < H by omega) hty (ri - le) le zfuel m (by omega) (Nat.le_refl _) (zf_lt (by omega)) hF hS) (fun q hq => ?_)
    obtain ⟨q0, q1, q2, q3, q4, q5, q6, q7, qx, m2⟩ := q
    obtain ⟨w0, w1, w2, w3, w4, w5, w6, w7, k1, k2⟩ := hq
    simp only at w0 w1 w2 w3 w4 w5 w6 w7 k1 k2
    subst w0 w1 w2 w3 w4 w5 w6 w7
    dsimp only
    rw [nI_p1]
    rw [Sdn_y] at k2
    exact ih (y + 1) fu m2 (by omega) (by omega) (by omega) k1 k2
end ZDR
