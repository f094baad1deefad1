/-! PURE: the class draws a piece, pixel by pixel -/
section ZDC
variable {W H : Nat}
/-- the class's pixels are S -/
def CPX (W H : Nat) (S : Nat → Nat → pSt) (m : zMem) : Prop := ∀ x, x < W → ∀ y, y < H → (∃ c : Nat → Nat, (∀ k, k < 3 → c k < 256 ∧ (S x y).1 k = nI (c k)) ∧ m.1 1183 (W * y + x) = pk (c 0) (c 1) (c 2)) ∧ (m.1 1184 (W * y + x)).toInt64 = (S x y).2
/-- what a piece is drawn from -/
def DB (W s mt : Nat) (g : Nat → Nat → Int32) (A B C : Nat → Int64) (m : zMem) : Prop := RF m.2.2 ∧ m.2.2 1178 3 = some s ∧ tri (m.1 1182) A B C ∧ m.2.1 1181 0 = are A B C ∧ m.1 1178 4 = nI W ∧ RmtG m.1 s g mt
theorem gS_pl {s : Nat} (hs : gS s) : s + 370 ≤ 1121 := by
  rcases hs with rfl | rfl | rfl <;> decide
theorem DB_f {s mt : Nat} {g : Nat → Nat → Int32} {A B C : Nat → Int64} {m m' : zMem} (hs : gS s) (hmt : mt < 16) (h : DB W s mt g A B C m) (k : PF m m') : DB W s mt g A B C m' := by
  obtain ⟨h1, h2, h3, h4, h5, h6⟩ := h
  have hp := gS_pl hs
  have e := k.2.1 (s + (4 + mt)) (by omega) (by omega)
  refine ⟨by rw [k.1]; exact h1, by rw [k.1]; exact h2, by rw [k.2.1 1182 (by decide) (by decide)]; exact h3, by rw [k.2.2.2]; exact h4, by rw [k.2.1 1178 (by decide) (by decide)]; exact h5, ?_⟩
  unfold RmtG
  rw [e]
  exact h6
theorem CPX_v {S : Nat → Nat → pSt} {m m' : zMem} (h : CPX W H S m) (k : m'.1 = m.1) : CPX W H S m' := by
  intro x hx y hy
  rw [k]
  exact h x hx y hy
/-- a pixel that changes nothing -/
theorem Su_id {S : Nat → Nat → pSt} {F : pSt → pSt} {x y : Nat} (h : F (S x y) = S x y) : (fun a b => if a = x ∧ b = y then F (S a b) else S a b) = S := by
  funext a b
  by_cases e : a = x ∧ b = y
  · obtain ⟨rfl, rfl⟩ := e
    rw [if_pos ⟨rfl, rfl⟩, h]
  · rw [if_neg e]
theorem pxF_no {g : Nat → Nat → Int32} {mt : Nat} {A B C : Nat → Int64} {x y : Nat} {s : pSt} (h : ¬ (cov A B C (cX x) (cX y) = true ∧ s.2.toInt < (pNr A B C (are A B C) (cX x) (cX y)).toInt)) : pxF g mt A B C x y s = s := by
  unfold pxF
  rw [if_neg h]
def pxL (sh : zSh) (β : Type) (v0 : Nat) (v8 v9 : Int32) (mm : zMem) (D : Int32 → zMem → Option β) (K : zMem → Option β) : Option β := zoS (sh v0) 5 (fun le124 => zoL ((v8 * (mm.1 v0 4)) + v9) (fun x125 => zoS (sh v0) 5 (fun le127 => Option.bind (mm.2.2 v0 11) (fun a128 => zoS (sh a128) 6 (fun le130 => Option.bind (F_XPiece_covers sh mm a128 v9 v8) (fun p131 => (if p131.1 = 0 then K (p131.2) else zoS (sh v0) 5 (fun le134 => Option.bind ((p131.2).2.2 v0 11) (fun a135 => zoS (sh a135) 6 (fun le137 => Option.bind (F_XPiece_near sh (p131.2) a135) (fun p138 => zoS (sh v0) 5 (fun le140 => Option.bind ((p138.2).2.2 v0 2) (fun a141 => zoS (sh a141) 100 (fun le143 => if (x125 : Int32) < 0 ∨ le143 ≤ (x125 : Int32).toNatClampNeg then none else (if (lg_cmp p138.1 ((((p138.2).1 a141 (x125 : Int32).toNatClampNeg) : Int32).toInt64)) ≤ 0 then K (p138.2) else D x125 (p138.2))))))))))))))))
theorem at_lt {x y : Nat} (hx : x < W) (hy : y < H) : W * y + x < W * H := by
  have := Nat.mul_le_mul_left W (show y + 1 ≤ H by omega)
  rw [Nat.mul_add] at this
  omega
/-- a pixel, drawn or not -/
theorem e_pxL {β : Type} {m : zMem} {s mt x y : Nat} {g : Nat → Nat → Int32} {A B C : Nat → Int64} {S : Nat → Nat → pSt} {D : Int32 → zMem → Option β} {K : zMem → Option β} {Q : β → Prop} (hD : DB W s mt g A B C m) (cA : CP A) (cB : CP B) (cC : CP C) (har : 0 < (are A B C).toInt) (hW48 : W ≤ 48) (hH48 : H ≤ 48) (hx : x < W) (hy : y < H) (hS : CPX W H S m) (hd : ∀ m1, cvF 1181 m m1 → cvH 1181 A B C (cX x) (cX y) m1 → cov A B C (cX x) (cX y) = true → (S x y).2.toInt < (pNr A B C (are A B C) (cX x) (cX y)).toInt → zok (D (nI (W * y + x)) m1) Q) (hk : ∀ m1, cvF 1181 m m1 → CPX W H (fun a b => if a = x ∧ b = y then pxF g mt A B C x y (S a b) else S a b) m1 → zok (K m1) Q) : zok (pxL (sh0 W H) β 1178 (nI y) (nI x) m D K) Q := by
  obtain ⟨h1, h2, h3, h4, h5, h6⟩ := hD
  have hat := at_lt (W := W) (H := H) hx hy
  have hWH : W * H ≤ 48 * 48 := Nat.mul_le_mul hW48 hH48
  have eat : nI y * nI W + nI x = nI (W * y + x) := by rw [nI_mul, nI_pp, Nat.mul_comm]
  unfold pxL
  rw [zoS_h sh_1178, h5, eat, zoL_e, zoS_h sh_1178, zob_h (rf_1178_11 h1), zoS_h sh_1181]
  refine zok_b (e_covC (i := x) (j := y) ⟨sh_1181, rf_1181_1 h1, sh_1182⟩ h3 cA cB cC (by omega) (by omega)) (fun p hp => ?_)
  obtain ⟨p1, m1⟩ := p
  obtain ⟨e1, f1, c1⟩ := hp
  dsimp only at e1 f1 c1 ⊢
  have hS1 : CPX W H S m1 := CPX_v hS f1.1
  by_cases hc : cov A B C (cX x) (cX y) = true
  · have R1 : RF m1.2.2 := by rw [f1.2.1]; exact h1
    have nr := e_nearC (W := W) (H := H) (m := m1) (O := 1181) (T := 1182) ⟨sh_1181, rf_1181_1 R1, sh_1182⟩
    rw [(c1 hc).2.2.2, f1.2.2.2, h4, zx_div_pos har] at nr
    have nr' : F_XPiece_near (sh0 W H) m1 1181 = some (pNr A B C (are A B C) (cX x) (cX y), m1) := nr
    rw [e1, hc, if_neg (show ¬ b32 true = 0 by decide), zoS_h sh_1178, zob_h (rf_1178_11 R1), zoS_h sh_1181, zob_h nr']
    dsimp only
    rw [zoS_h sh_1178, zob_h (rf_1178_2 R1), zoS_h sh_1184, nI_ix hat (by omega), nI_cl (n := W * y + x) (by omega), (hS1 x hx y hy).2]
    by_cases hn : (S x y).2.toInt < (pNr A B C (are A B C) (cX x) (cX y)).toInt
    · rw [if_neg (by rw [lgc_le, i64_lt]; exact fun q => q hn)]
      exact hd m1 f1 (c1 hc) hc hn
    · rw [if_pos (by rw [lgc_le, i64_lt]; exact hn)]
      refine hk m1 f1 ?_
      rw [Su_id (F := pxF g mt A B C x y) (pxF_no (fun q => hn q.2))]
      exact hS1
  · have hc' : cov A B C (cX x) (cX y) = false := by cases h : cov A B C (cX x) (cX y) with
      | true => exact absurd h hc
      | false => rfl
    rw [e1, hc', if_pos (show b32 false = 0 from rfl)]
    refine hk m1 f1 ?_
    rw [Su_id (F := pxF g mt A B C x y) (pxF_no (fun q => hc q.1))]
    exact hS1
/-- the pixel that drawPixel makes -/
theorem e_pxD {m : zMem} {s mt x y : Nat} {g : Nat → Nat → Int32} {A B C : Nat → Int64} {S : Nat → Nat → pSt} {t : Nat → Nat} (hs : gS s) (hmt : mt < 16) (hWm : WmtG g mt) (hD : DB W s mt g A B C m) (cA : CP A) (cB : CP B) (cC : CP C) (har : 0 < (are A B C).toInt) (hW48 : W ≤ 48) (hH48 : H ≤ 48) (hx : x < W) (hy : y < H) (hS : CPX W H S m) (hH : cvH 1181 A B C (cX x) (cX y) m) (hc : cov A B C (cX x) (cX y) = true) (hn : (S x y).2.toInt < (pNr A B C (are A B C) (cX x) (cX y)).toInt) (ht : ∀ k, k < 3 → t k < 256 ∧ ownC g A B C (are A B C) mt (pMx A B C (cX x) (cX y) 3) (pMx A B C (cX x) (cX y) 4) k = oL (t k)) : zok (F_XPicture_drawPixel (sh0 W H) m 1178 (nI (W * y + x)) (s + (4 + mt)) (pk (t 0) (t 1) (t 2))) (fun m' => PF m m' ∧ CPX W H (fun a b => if a = x ∧ b = y then pxF g mt A B C x y (S a b) else S a b) m') := by
  obtain ⟨h1, h2, h3, h4, h5, h6⟩ := hD
  have hp := gS_pl hs
  have hat := at_lt (W := W) (H := H) hx hy
  have hWH : W * H ≤ 48 * 48 := Nat.mul_le_mul hW48 hH48
  have hxy : 0 ≤ (cX x).toInt ∧ (cX x).toInt ≤ 1200 := by rw [cX_i (by omega)]; omega
  have hyy : 0 ≤ (cX y).toInt ∧ (cX y).toInt ≤ 1200 := by rw [cX_i (by omega)]; omega
  obtain ⟨b1, b2, b3, b4, b5, b6, b7, b8⟩ := cov_b cA cB cC hxy hyy har hc
  have hlt : pMx A B C (cX x) (cX y) 5 = oL (pMx A B C (cX x) (cX y) 5).toInt.toNat := i64_ext (by rw [oL_i (by omega)]; omega)
  obtain ⟨⟨old, o1, o2⟩, o3⟩ := hS x hx y hy
  have col : ∀ k, k < 4 → (g 5 (4 * mt + k)).toInt.toNat < 256 ∧ g 5 (4 * mt + k) = nI (g 5 (4 * mt + k)).toInt.toNat := fun k hk => by
    have := hWm.1 k hk
    exact ⟨by omega, i32_ext (by rw [nI_toInt (by omega)]; omega)⟩
  have hc3 := col 3 (by decide)
  refine zok_w (e_dpx (W := W) (H := H) (m := m) (mr := s + (4 + mt)) (at_ := W * y + x) (A := A) (B := B) (C := C) (x := cX x) (y := cX y) (t := t) (c := fun k => (g 5 (4 * mt + k)).toInt.toNat) (old := old) (cl := (g 5 (4 * mt + 3)).toInt.toNat) (lt := (pMx A B C (cX x) (cX y) 5).toInt.toNat) h1 (sh_smt hs hmt) hat (by omega) (by omega) h3 hH b3.1 hlt (by omega) h4 har (fun k hk => (ht k hk).1) (fun k hk => ⟨(col k (by omega)).1, by rw [h6.1 k (by omega)]; exact (col k (by omega)).2⟩) hc3.1 (by rw [h6.1 3 (by decide)]; exact hc3.2) (fun k hk => (o1 k hk).1) o2) (fun m' hm => ?_)
  obtain ⟨f, v3, v4⟩ := hm
  refine ⟨f, fun a ha b hb => ?_⟩
  dsimp only
  by_cases e : a = x ∧ b = y
  · obtain ⟨rfl, rfl⟩ := e
    rw [if_pos ⟨rfl, rfl⟩]
    unfold pxF
    rw [if_pos ⟨hc, hn⟩]
    have hch : ∀ k, k < 3 → pCh g A B C (are A B C) mt (cX a) (cX b) k = oL (chN (t k) (g 5 (4 * mt + k)).toInt.toNat (pMx A B C (cX a) (cX b) 5).toInt.toNat) ∧ chN (t k) (g 5 (4 * mt + k)).toInt.toNat (pMx A B C (cX a) (cX b) 5).toInt.toNat < 256 := fun k hk => by
      have q1 := (ht k hk).1
      have q2 := (col k (by omega)).1
      have q3 : (pMx A B C (cX a) (cX b) 5).toInt.toNat ≤ 65536 := by omega
      refine ⟨?_, (chN_b q1 q2 q3).2.2⟩
      have := chn3_N q1 q2 q3
      rw [← (ht k hk).2, ← (col k (by omega)).2, ← hlt] at this
      exact this
    refine ⟨⟨fun k => nwN (chN (t k) (g 5 (4 * mt + k)).toInt.toNat (pMx A B C (cX a) (cX b) 5).toInt.toNat) (g 5 (4 * mt + 3)).toInt.toNat (old k), fun k hk => ?_, ?_⟩, ?_⟩
    · obtain ⟨q1, q2⟩ := hch k hk
      obtain ⟨q3, q4⟩ := o1 k hk
      refine ⟨(nwN_b q2 hc3.1 q3).2, ?_⟩
      dsimp only
      have := nwC_N q2 hc3.1 q3
      rw [← q1, ← q4, ← oL_n (by omega), ← hc3.2] at this
      exact this
    · rw [v3, upd_at]
    · rw [v4]
      by_cases q : g 5 (4 * mt + 3) = 255
      · rw [if_pos (by rw [q]; rfl), if_pos q, upd_at]
        exact i64_rt (by omega) (by omega)
      · rw [if_neg (fun z => q (by rw [hc3.2, z]; rfl)), if_neg q]
        exact o3
  · rw [if_neg e]
    have hne : W * b + a ≠ W * y + x := fun q => e (at_inj ha hx q)
    obtain ⟨⟨c, c1, c2⟩, c3⟩ := hS a ha b hb
    refine ⟨⟨c, c1, ?_⟩, ?_⟩
    · rw [v3, upd_ne hne]
      exact c2
    · rw [v4]
      split
      · rw [upd_ne hne]; exact c3
      · exact c3
/-- one more pixel of a row -/
theorem Sdn_x {F : Nat → Nat → pSt → pSt} {S : Nat → Nat → pSt} {le to ri x y : Nat} (h1 : le ≤ x) (h2 : x < ri) (h3 : to ≤ y) : (fun a b => if a = x ∧ b = y then F x y (Sdn F S (dnR le to ri y x) a b) else Sdn F S (dnR le to ri y x) a b) = Sdn F S (dnR le to ri y (x + 1)) := by
  funext a b'
  unfold Sdn dnR
  by_cases e : a = x ∧ b' = y
  · obtain ⟨rfl, rfl⟩ := e
    rw [if_pos ⟨rfl, rfl⟩, decide_eq_false (by omega), decide_eq_true (by omega)]
    rfl
  · rw [if_neg e]
    have : (le ≤ a ∧ a < ri ∧ to ≤ b' ∧ (b' < y ∨ b' = y ∧ a < x)) = (le ≤ a ∧ a < ri ∧ to ≤ b' ∧ (b' < y ∨ b' = y ∧ a < x + 1)) := propext ⟨fun q => by omega, fun q => by omega⟩
    simp only [this]
theorem Sdn_y {le to ri y : Nat} : dnR le to ri y ri = dnR le to ri (y + 1) le := by
  funext a b'
  unfold dnR
  exact decide_eq_decide.mpr ⟨fun q => by omega, fun q => by omega⟩
end ZDC
