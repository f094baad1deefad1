/-! PURE: a piece painted on a tile: the reference -/
abbrev pSt : Type := (Nat → Int32) × Int64
/-- a piece at a pixel: what it makes of the pixel's colour and nearness -/
def pxF (g : Nat → Nat → Int32) (mt : Nat) (A B C : Nat → Int64) (x y : Nat) (s : pSt) : pSt := if cov A B C (cX x) (cX y) = true ∧ s.2.toInt < (pNr A B C (are A B C) (cX x) (cX y)).toInt then ((fun k => nwC (pCh g A B C (are A B C) mt (cX x) (cX y) k) (g 5 (4 * mt + 3)).toInt64 (s.1 k)), if g 5 (4 * mt + 3) = 255 then pNr A B C (are A B C) (cX x) (cX y) else s.2) else s
/-- the picture in the reference's memory -/
def PXM (W H : Nat) (S : Nat → Nat → pSt) (m : zMem) : Prop := ∀ x, x < W → ∀ y, y < H → (∀ k, k < 3 → m.1 1283 (3 * (W * y + x) + k) = (S x y).1 k) ∧ m.2.1 1284 (W * y + x) = (S x y).2
def GF (m0 m : zMem) : Prop := m.2.2 = m0.2.2 ∧ (∀ k, k ≠ 1283 → m.1 k = m0.1 k) ∧ ∀ k, k ≠ 1284 → k ≠ 1301 → m.2.1 k = m0.2.1 k
theorem GF_r {m : zMem} : GF m m := ⟨rfl, fun _ _ => rfl, fun _ _ _ => rfl⟩
theorem GF_t {m m' m'' : zMem} (h : GF m m') (k : GF m' m'') : GF m m'' := ⟨k.1.trans h.1, fun a ha => (k.2.1 a ha).trans (h.2.1 a ha), fun a h1 h2 => (k.2.2 a h1 h2).trans (h.2.2 a h1 h2)⟩
theorem at_inj {W x y a b : Nat} (hx : x < W) (ha : a < W) (h : W * y + x = W * b + a) : x = a ∧ y = b := by
  have h1 : (W * y + x) / W = y := by rw [Nat.mul_add_div (by omega), Nat.div_eq_of_lt hx]; omega
  have h2 : (W * b + a) / W = b := by rw [Nat.mul_add_div (by omega), Nat.div_eq_of_lt ha]; omega
  have : y = b := by rw [← h1, h, h2]
  subst this
  omega
section ZPC
variable {W H : Nat}
/-- done so far of a tile -/
def dnR (le to ri y x a b : Nat) : Bool := decide (le ≤ a ∧ a < ri ∧ to ≤ b ∧ (b < y ∨ b = y ∧ a < x))
def Sdn (F : Nat → Nat → pSt → pSt) (S : Nat → Nat → pSt) (dn : Nat → Nat → Bool) : Nat → Nat → pSt := fun a b => if dn a b then F a b (S a b) else S a b
theorem pxU_S {r : Nat} {A B C : Nat → Int64} {mt x y : Nat} {m m' : zMem} {S : Nat → Nat → pSt} {g : Nat → Nat → Int32} (hr : gM r) (hg : ∀ a, a < 30 → m.1 (r + a) = g a) (hx : x < W) (hy : y < H) (hS : PXM W H S m) (h : pxU r A B C (are A B C) mt x y (W * y + x) m m') : GF m m' ∧ PXM W H (fun a b => if a = x ∧ b = y then pxF g mt A B C x y (S a b) else S a b) m' := by
  obtain ⟨h1, h2, h3, h4, h5, h6, h7⟩ := h
  refine ⟨⟨h1, h2, h3⟩, fun a ha b hb => ?_⟩
  obtain ⟨s1, s2⟩ := hS a ha b hb
  dsimp only
  by_cases e : a = x ∧ b = y
  · obtain ⟨rfl, rfl⟩ := e
    rw [if_pos ⟨rfl, rfl⟩]
    have hpc : ∀ k, pCh (fun a => m.1 (r + a)) A B C (are A B C) mt (cX a) (cX b) k = pCh g A B C (are A B C) mt (cX a) (cX b) k := fun k => by
      have hq : ∀ q, q < 30 → (fun a => m.1 (r + a)) q = g q := hg
      unfold pCh ownC smp txl tTx tE
      simp only [hg 5 (by decide), hg 6 (by decide), hg 1 (by decide), hg 2 (by decide), hg 3 (by decide), hg 4 (by decide)]
    unfold pxF
    rw [s2] at h6 h7
    by_cases c : cov A B C (cX a) (cX b) = true ∧ (S a b).2.toInt < (pNr A B C (are A B C) (cX a) (cX b)).toInt
    · rw [if_pos c]
      refine ⟨fun k hk => ?_, ?_⟩
      · rw [h6 k hk, if_pos c, s1 k hk, hpc, hg 5 (by decide)]
      · rw [h7, hg 5 (by decide)]
        by_cases e5 : g 5 (4 * mt + 3) = 255
        · rw [if_pos ⟨c, e5⟩, if_pos e5]
        · rw [if_neg (fun q => e5 q.2), if_neg e5]
    · rw [if_neg c]
      exact ⟨fun k hk => by rw [h6 k hk, if_neg c, s1 k hk], by rw [h7, if_neg (fun q => c q.1)]⟩
  · rw [if_neg e]
    have hne : W * b + a ≠ W * y + x := fun q => e (at_inj ha hx q)
    exact ⟨fun k hk => by rw [h4 _ (by omega), s1 k hk], by rw [h5 _ hne, s2]⟩
/-- what holds while a piece is painted -/
def pcI (r nd b c : Nat) (l : List (Nat → Int64)) (f w8 h8 : Int64) (g : Nat → Nat → Int32) (m : zMem) : Prop := RF m.2.2 ∧ m.2.2 1285 5 = some r ∧ (∀ a, a < 30 → m.1 (r + a) = g a) ∧ arr (m.2.1 1295) l ∧ prj f w8 h8 l m.2.1 ∧ m.1 1285 1 = nI W ∧ ¬ m.1 1285 10 = 0
theorem pcI_G {r nd b c : Nat} {l : List (Nat → Int64)} {f w8 h8 : Int64} {g : Nat → Nat → Int32} {m m' : zMem} (hr : gM r) (h : pcI (W := W) r nd b c l f w8 h8 g m) (k : GF m m') : pcI (W := W) r nd b c l f w8 h8 g m' := by
  obtain ⟨h1, h2, h3, h4, h5, h6, h7⟩ := h
  refine ⟨by rw [k.1]; exact h1, by rw [k.1]; exact h2, fun a ha => by rw [k.2.1 _ (by rcases hr with e | e | e <;> omega)]; exact h3 a ha, by rw [k.2.2 1295 (by decide) (by decide)]; exact h4, fun q hq => ?_, by rw [k.2.1 1285 (by decide)]; exact h6, by rw [k.2.1 1285 (by decide)]; exact h7⟩
  rw [k.2.2 1298 (by decide) (by decide), k.2.2 1299 (by decide) (by decide), k.2.2 1300 (by decide) (by decide)]
  exact h5 q hq
set_option maxHeartbeats 4000000 in
theorem e_p115 {r nd b c le to ri bo : Nat} {fc : Int32} {v4 : Int64} {l : List (Nat → Int64)} {f w8 h8 : Int64} {g : Nat → Nat → Int32} {S : Nat → Nat → pSt} {y : Nat} (hr : gM r) (hW : Wsc g) (hX : Wtx g) (hnd : nd < cn g 3) (hmd : 0 ≤ (g 16 nd).toInt) (hl : l.length ≤ 19) (h0 : 0 < l.length) (hb : b < l.length) (hc : c < l.length) (hCP : ∀ q, q < l.length → CP (pcr f w8 h8 (l.getD q oF))) (hW48 : W ≤ 48) (hH48 : H ≤ 48) (hri : ri ≤ W) (hy : y < H) (hyt : to ≤ y) (har : 0 < (are (pcr f w8 h8 (l.getD 0 oF)) (pcr f w8 h8 (l.getD b oF)) (pcr f w8 h8 (l.getD c oF))).toInt) (hv4 : (if lg_cmp v4 0 ≤ 0 then -v4 else v4) = are (pcr f w8 h8 (l.getD 0 oF)) (pcr f w8 h8 (l.getD b oF)) (pcr f w8 h8 (l.getD c oF))) : ∀ (d x fuel : Nat) (m : zMem), x + d = ri → le ≤ x → d < fuel → pcI (W := W) r nd b c l f w8 h8 g m → m.1 1285 8 = nI ri → PXM W H (Sdn (fun x y => pxF g (mtN g nd) (pcr f w8 h8 (l.getD 0 oF)) (pcr f w8 h8 (l.getD b oF)) (pcr f w8 h8 (l.getD c oF)) x y) S (dnR le to ri y x)) m → zok (L_MPainter_goOverPiece_115 (sh0 W H) fuel 1285 (nI nd) fc v4 (nI b) (nI c) (nI y) (nI x) m) (fun q => q.1 = 1285 ∧ q.2.1 = nI nd ∧ q.2.2.1 = fc ∧ q.2.2.2.1 = v4 ∧ q.2.2.2.2.1 = nI b ∧ q.2.2.2.2.2.1 = nI c ∧ q.2.2.2.2.2.2.1 = nI y ∧ GF m q.2.2.2.2.2.2.2.2 ∧ PXM W H (Sdn (fun x y => pxF g (mtN g nd) (pcr f w8 h8 (l.getD 0 oF)) (pcr f w8 h8 (l.getD b oF)) (pcr f w8 h8 (l.getD c oF)) x y) S (dnR le to ri y ri)) q.2.2.2.2.2.2.2.2) := by
  intro d
  induction d with
  | zero =>
    intro x fuel m hx hle hf hI h8 hS
    obtain ⟨fu, rfl⟩ : ∃ fu, fuel = fu + 1 := ⟨fuel - 1, by omega⟩
    rw [L_MPainter_goOverPiece_115, zoS_h sh_1285, h8, if_pos (by rw [nI_leD (by omega) (by omega)]; omega)]
    obtain rfl : x = ri := by omega
    exact zok_s ⟨rfl, rfl, rfl, rfl, rfl, rfl, rfl, GF_r, hS⟩
  | succ d ih =>
    intro x fuel m hx hle hf hI h8' hS
    obtain ⟨fu, rfl⟩ : ∃ fu, fuel = fu + 1 := ⟨fuel - 1, by omega⟩
    have hI' := hI
    obtain ⟨h1, h2, h3, h4, h5, h6, h7⟩ := hI
    have hxW : x < W := by omega
    have hWm : Wsc (fun a => m.1 (r + a)) := Wsc_g h3 hW
    have hcn := cn_g (c := 3) h3
    have hcn0 := cn_g (c := 0) h3
    have hXm : Wtx (fun a => m.1 (r + a)) := fun t ht => by
      rw [hcn0] at ht
      have q := hX t ht
      have e1 : tE (fun a => m.1 (r + a)) t = tE g t := by unfold tE; simp only [h3 1 (by decide)]
      rw [e1]
      unfold WtxN
      simp only [h3 1 (by decide), h3 2 (by decide), h3 3 (by decide), h3 4 (by decide)]
      exact q
    have hmt : mtN (fun a => m.1 (r + a)) nd = mtN g nd := by unfold mtN msN; simp only [h3 8 (by decide), h3 16 (by decide)]
    have hxy : 0 ≤ (cX x).toInt ∧ (cX x).toInt ≤ 1200 := by rw [cX_i (by omega)]; omega
    have hyy : 0 ≤ (cX y).toInt ∧ (cX y).toInt ≤ 1200 := by rw [cX_i (by omega)]; omega
    have hpx := e_gpx (W := W) (H := H) (m := m) (r := r) (nd := nd) (b := b) (c := c) (x := x) (y := y) (fc := fc) (whole := are (pcr f w8 h8 (l.getD 0 oF)) (pcr f w8 h8 (l.getD b oF)) (pcr f w8 h8 (l.getD c oF))) (l := l) (f := f) (w8 := w8) (h8 := h8) hr h1 h2 hWm hXm (by rw [hcn]; exact hnd) (by rw [h3 16 (by decide)]; exact hmd) hl h4 h5 h0 hb hc h6 hW48 hH48 hxW hy h7 (fun q => by rw [q] at har; exact absurd har (by decide)) (fun q e => by
      have := (cov_b (hCP 0 h0) (hCP b hb) (hCP c hc) hxy hyy har q).2.2.1.1
      rw [e] at this
      exact absurd this (by decide))
    rw [hmt] at hpx
    have goal : zok (Option.bind (F_MPainter_goOverPixel (sh0 W H) m 1285 (nI nd) fc (nI b) (nI c) (are (pcr f w8 h8 (l.getD 0 oF)) (pcr f w8 h8 (l.getD b oF)) (pcr f w8 h8 (l.getD c oF))) (nI x) (nI y)) (fun p => L_MPainter_goOverPiece_115 (sh0 W H) fu 1285 (nI nd) fc v4 (nI b) (nI c) (nI y) (nI x + 1) p)) (fun q => q.1 = 1285 ∧ q.2.1 = nI nd ∧ q.2.2.1 = fc ∧ q.2.2.2.1 = v4 ∧ q.2.2.2.2.1 = nI b ∧ q.2.2.2.2.2.1 = nI c ∧ q.2.2.2.2.2.2.1 = nI y ∧ GF m q.2.2.2.2.2.2.2.2 ∧ PXM W H (Sdn (fun x y => pxF g (mtN g nd) (pcr f w8 h8 (l.getD 0 oF)) (pcr f w8 h8 (l.getD b oF)) (pcr f w8 h8 (l.getD c oF)) x y) S (dnR le to ri y ri)) q.2.2.2.2.2.2.2.2) := by
      refine zok_b hpx (fun m2 hu => ?_)
      obtain ⟨k1, k2⟩ := pxU_S hr h3 hxW hy hS hu
      rw [nI_p1]
      refine zok_w (ih (x + 1) fu m2 (by omega) (by omega) (by omega) (pcI_G hr hI' k1) (by rw [k1.2.1 1285 (by decide)]; exact h8') ?_) (fun q hq => ⟨hq.1, hq.2.1, hq.2.2.1, hq.2.2.2.1, hq.2.2.2.2.1, hq.2.2.2.2.2.1, hq.2.2.2.2.2.2.1, GF_t k1 hq.2.2.2.2.2.2.2.1, hq.2.2.2.2.2.2.2.2⟩)
      have he : (fun a b' => if a = x ∧ b' = y then pxF g (mtN g nd) (pcr f w8 h8 (l.getD 0 oF)) (pcr f w8 h8 (l.getD b oF)) (pcr f w8 h8 (l.getD c oF)) x y (Sdn (fun x y => pxF g (mtN g nd) (pcr f w8 h8 (l.getD 0 oF)) (pcr f w8 h8 (l.getD b oF)) (pcr f w8 h8 (l.getD c oF)) x y) S (dnR le to ri y x) a b') else Sdn (fun x y => pxF g (mtN g nd) (pcr f w8 h8 (l.getD 0 oF)) (pcr f w8 h8 (l.getD b oF)) (pcr f w8 h8 (l.getD c oF)) x y) S (dnR le to ri y x) a b') = Sdn (fun x y => pxF g (mtN g nd) (pcr f w8 h8 (l.getD 0 oF)) (pcr f w8 h8 (l.getD b oF)) (pcr f w8 h8 (l.getD c oF)) x y) S (dnR le to ri y (x + 1)) := by
        funext a b'
        unfold Sdn dnR
        by_cases e : a = x ∧ b' = y
        · obtain ⟨rfl, rfl⟩ := e
          rw [if_pos ⟨rfl, rfl⟩, decide_eq_false (by omega), decide_eq_true (by omega)]
          rfl
        · rw [if_neg e]
          have : (le ≤ a ∧ a < ri ∧ to ≤ b' ∧ (b' < y ∨ b' = y ∧ a < x)) = (le ≤ a ∧ a < ri ∧ to ≤ b' ∧ (b' < y ∨ b' = y ∧ a < x + 1)) := propext ⟨fun q => by omega, fun q => by omega⟩
          simp only [this]
      rw [he] at k2
      exact k2
    rw [← hv4] at goal
    rw [L_MPainter_goOverPiece_115, zoS_h sh_1285, h8', if_neg (by rw [nI_leD (by omega) (by omega)]; omega)]
    by_cases e : lg_cmp v4 0 ≤ 0
    · rw [if_pos e] at goal
      rw [if_pos e, zoS_h sh_1285]
      exact goal
    · rw [if_neg e] at goal
      rw [if_neg e, zoS_h sh_1285]
      exact goal
end ZPC
