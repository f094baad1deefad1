/-! PURE: the reference's pixel when it picks -/
abbrev kSt : Type := Int32 × Int32 × Int64
/-- the best so far -/
def PKM (W H : Nat) (S : kSt) (m : zMem) : Prop := m.1 1285 11 = S.1 ∧ m.1 1285 12 = S.2.1 ∧ m.2.1 1285 13 = S.2.2
def pk1 (x y : Nat) (p : Pc) (S : kSt) : kSt := if cov p.2.2.1 p.2.2.2.1 p.2.2.2.2 (cX x) (cX y) = true ∧ (S.1 = -1 ∨ S.2.2.toInt < (pNr p.2.2.1 p.2.2.2.1 p.2.2.2.2 (are p.2.2.1 p.2.2.2.1 p.2.2.2.2) (cX x) (cX y)).toInt) then (nI p.1, nI p.2.1, pNr p.2.2.1 p.2.2.2.1 p.2.2.2.2 (are p.2.2.1 p.2.2.2.1 p.2.2.2.2) (cX x) (cX y)) else S
def pkL (x y : Nat) : List Pc → kSt → kSt
  | [], S => S
  | p :: t, S => pkL x y t (pk1 x y p S)
theorem pkL_a {x y : Nat} : ∀ (a b : List Pc) (S : kSt), pkL x y (a ++ b) S = pkL x y b (pkL x y a S) := by
  intro a
  induction a with
  | nil => intro b S; rfl
  | cons p t ih => intro b S; exact ih b _
section ZKP
variable {W H : Nat}
def GPk (m0 m : zMem) : Prop := m.2.2 = m0.2.2 ∧ (∀ k, k ≠ 1285 → k ≠ 1285 → m.1 k = m0.1 k) ∧ (∀ c, (c ≠ 0 ∧ c ≠ 11 ∧ c ≠ 12) → m.1 1285 c = m0.1 1285 c) ∧ ∀ k, k ≠ 1285 → k ≠ 1301 → m.2.1 k = m0.2.1 k
theorem GPk_r {m : zMem} : GPk m m := ⟨rfl, fun _ _ _ => rfl, fun _ _ => rfl, fun _ _ _ => rfl⟩
theorem GPk_t {m m' m'' : zMem} (h : GPk m m') (k : GPk m' m'') : GPk m m'' := ⟨k.1.trans h.1, fun a h1 h2 => (k.2.1 a h1 h2).trans (h.2.1 a h1 h2), fun c hc => (k.2.2.1 c hc).trans (h.2.2.1 c hc), fun a h1 h2 => (k.2.2.2 a h1 h2).trans (h.2.2.2 a h1 h2)⟩
def pcIk (r nd b c : Nat) (l : List (Nat → Int64)) (f w8 h8 : Int64) (g : Nat → Nat → Int32) (m : zMem) : Prop := RF m.2.2 ∧ m.2.2 1285 5 = some r ∧ (∀ a, a < 30 → m.1 (r + a) = g a) ∧ arr (m.2.1 1295) l ∧ prj f w8 h8 l m.2.1 ∧ m.1 1285 1 = nI W ∧ m.1 1285 10 = 0
theorem pcIk_P {r nd b c b' c' : Nat} {l : List (Nat → Int64)} {f w8 h8 : Int64} {g : Nat → Nat → Int32} {m m' : zMem} (hr : gM r) (h : pcIk (W := W) r nd b' c' l f w8 h8 g m) (k : GPk m m') : pcIk (W := W) r nd b c l f w8 h8 g m' := by
  obtain ⟨h1, h2, h3, h4, h5, h6, h7⟩ := h
  refine ⟨by rw [k.1]; exact h1, by rw [k.1]; exact h2, fun a ha => by rw [k.2.1 _ (by rcases hr with e | e | e <;> omega) (by rcases hr with e | e | e <;> omega)]; exact h3 a ha, by rw [k.2.2.2 1295 (by decide) (by decide)]; exact h4, fun q hq => ?_, by rw [k.2.2.1 1 (by decide)]; exact h6, by rw [k.2.2.1 10 (by decide)]; exact h7⟩
  rw [k.2.2.2 1298 (by decide) (by decide), k.2.2.2 1299 (by decide) (by decide), k.2.2.2 1300 (by decide) (by decide)]
  exact h5 q hq
theorem kst_u {m : zMem} {a b : Int32} {v : Int64} : GPk m (mL (mI (mI m 1285 11 a) 1285 12 b) 1285 13 v) ∧ (mL (mI (mI m 1285 11 a) 1285 12 b) 1285 13 v).1 1285 0 = m.1 1285 0 ∧ PKM W H (a, b, v) (mL (mI (mI m 1285 11 a) 1285 12 b) 1285 13 v) := by
  refine ⟨⟨rfl, fun k _ h2 => ?_, fun c hc => ?_, fun k hk _ => ?_⟩, ?_, ?_, ?_, ?_⟩
  · rw [mL_1, mI_o h2, mI_o h2]
  · rw [mL_1, mI_v, if_pos rfl, if_neg hc.2.2, mI_v, if_pos rfl, if_neg hc.2.1]
  · rw [mLn hk]; rfl
  · rw [mL_1, mI_v, if_pos rfl, if_neg (by decide), mI_v, if_pos rfl, if_neg (by decide)]
  · rw [mL_1, mI_v, if_pos rfl, if_neg (by decide), mI_v, if_pos rfl, if_pos rfl]
  · rw [mL_1, mI_v, if_pos rfl, if_pos rfl]
  · exact mLs
theorem e_gpxK {m : zMem} {nd b c x y fcn : Nat} {whole : Int64} {l : List (Nat → Int64)} {f w8 h8 : Int64} {S : kSt} (hR : RF m.2.2) (hl : l.length ≤ 19) (hp : prj f w8 h8 l m.2.1) (h0 : 0 < l.length) (hb : b < l.length) (hc : c < l.length) (hpt : m.1 1285 10 = 0) (hwh : whole ≠ 0) (hw : whole = are (pcr f w8 h8 (l.getD 0 oF)) (pcr f w8 h8 (l.getD b oF)) (pcr f w8 h8 (l.getD c oF))) (hS : PKM W H S m) : zok (F_MPainter_goOverPixel (sh0 W H) m 1285 (nI nd) (nI fcn) (nI b) (nI c) whole (nI x) (nI y)) (fun m' => (GPk m m' ∧ m'.1 1285 0 = m.1 1285 0) ∧ PKM W H (pk1 x y (nd, fcn, pcr f w8 h8 (l.getD 0 oF), pcr f w8 h8 (l.getD b oF), pcr f w8 h8 (l.getD c oF)) S) m') := by
  have i1 := e_ins (W := W) (H := H) (m := m) (a := b) (b := c) (x := cX x) (y := cX y) hR hl hp hb hc
  have i2 := e_ins (W := W) (H := H) (m := m) (a := c) (b := 0) (x := cX x) (y := cX y) hR hl hp hc h0
  have i3 := e_ins (W := W) (H := H) (m := m) (a := 0) (b := b) (x := cX x) (y := cX y) hR hl hp h0 hb
  have g1 := e_edg (W := W) (H := H) (m := m) (a := b) (b := c) (x := cX x) (y := cX y) hR hl hp hb hc
  have g2 := e_edg (W := W) (H := H) (m := m) (a := c) (b := 0) (x := cX x) (y := cX y) hR hl hp hc h0
  have g3 := e_edg (W := W) (H := H) (m := m) (a := 0) (b := b) (x := cX x) (y := cX y) hR hl hp h0 hb
  have r0 := (hp 0 h0).2.2
  have rb := (hp b hb).2.2
  have rc := (hp c hc).2.2
  have p2 : ∀ p : Nat → Int64, prR p = pcr f w8 h8 p 2 := fun p => rfl
  rw [p2] at r0 rb rc
  generalize pcr f w8 h8 (l.getD 0 oF) = A at *
  generalize pcr f w8 h8 (l.getD b oF) = B at *
  generalize pcr f w8 h8 (l.getD c oF) = C at *
  have z0 : nI 0 = (0 : Int32) := rfl
  rw [z0] at i2 i3 g2 g3
  have cb := nI_cl (show b < 2147483648 by omega)
  have cc := nI_cl (show c < 2147483648 by omega)
  have k0 : (0 : Int32).toNatClampNeg = 0 := rfl
  have no : ¬ cov A B C (cX x) (cX y) = true → zok (some m) (fun m' => (GPk m m' ∧ m'.1 1285 0 = m.1 1285 0) ∧ PKM W H (pk1 x y (nd, fcn, A, B, C) S) m') := fun hn => by
    unfold pk1
    rw [if_neg (fun q => hn q.1)]
    exact zok_s ⟨⟨GPk_r, rfl⟩, hS⟩
  unfold F_MPainter_goOverPixel
  rw [zoL_e, zoL_e, show (16 * nI x + 8).toInt64 = cX x from rfl, show (16 * nI y + 8).toInt64 = cX y from rfl, zoS_h sh_1285, zob_h i1]
  dsimp only
  by_cases v1 : ins B C (cX x) (cX y) = true
  rotate_left
  · rw [if_pos (b32_0.mpr (by simpa using v1))]
    exact no (fun q => v1 (by unfold cov at q; simp at q; exact q.1))
  rw [if_neg (by rw [v1]; decide), zoS_h sh_1285, zob_h i2]
  dsimp only
  by_cases v2 : ins C A (cX x) (cX y) = true
  rotate_left
  · rw [if_pos (b32_0.mpr (by simpa using v2))]
    exact no (fun q => v2 (by unfold cov at q; simp at q; exact q.2.1))
  rw [if_neg (by rw [v2]; decide), zoS_h sh_1285, zob_h i3]
  dsimp only
  by_cases v3 : ins A B (cX x) (cX y) = true
  rotate_left
  · rw [if_pos (b32_0.mpr (by simpa using v3))]
    exact no (fun q => v3 (by unfold cov at q; simp at q; exact q.2.2))
  have hcv : cov A B C (cX x) (cX y) = true := by unfold cov; simp [v1, v2, v3]
  rw [if_neg (by rw [v3]; decide), zoS_h sh_1285, zob_h g1, zoS_h sh_1285, zob_h (rf_1285_29 hR), zoS_h sh_1300, if_neg (by decide), k0, r0, zoL_e, zoS_h sh_1285, zob_h g2, zoS_h sh_1285, zob_h (rf_1285_29 hR), zoS_h sh_1300, nI_ix (by omega) (by decide), cb, rb, zoL_e, zoS_h sh_1285, zob_h g3, zoS_h sh_1285, zob_h (rf_1285_29 hR), zoS_h sh_1300, nI_ix (by omega) (by decide), cc, rc, zoL_e, zoL_e]
  dsimp only
  rw [show edg B C (cX x) (cX y) * A 2 = pW0 A B C (cX x) (cX y) from rfl, show edg C A (cX x) (cX y) * B 2 = pW1 A B C (cX x) (cX y) from rfl, show edg A B (cX x) (cX y) * C 2 = pW2 A B C (cX x) (cX y) from rfl, show pW0 A B C (cX x) (cX y) + pW1 A B C (cX x) (cX y) + pW2 A B C (cX x) (cX y) = pHH A B C (cX x) (cX y) from rfl, zob_h (e_div hwh)]
  dsimp only
  rw [show zx_fdiv (pHH A B C (cX x) (cX y)) whole = pNr A B C whole (cX x) (cX y) from rfl, zoS_h sh_1285, if_pos hpt, zoS_h sh_1285]
  have yes : ∀ (hcond : S.1 = -1 ∨ S.2.2.toInt < (pNr A B C (are A B C) (cX x) (cX y)).toInt), pk1 x y (nd, fcn, A, B, C) S = (nI nd, nI fcn, pNr A B C (are A B C) (cX x) (cX y)) := fun hcond => by
    unfold pk1
    rw [if_pos ⟨hcv, hcond⟩]
  subst hw
  by_cases v4 : m.1 1285 11 = -1
  · rw [if_pos v4, zoS_h sh_1285, zoL_e, zoS_h sh_1285, zoL_e, zoS_h sh_1285, zoL_e, yes (Or.inl (by rw [← hS.1]; exact v4))]
    obtain ⟨u1, u2, u3⟩ := kst_u (W := W) (H := H) (m := m) (a := nI nd) (b := nI fcn) (v := pNr A B C (are A B C) (cX x) (cX y))
    exact zok_s ⟨⟨u1, u2⟩, u3⟩
  rw [if_neg v4, zoS_h sh_1285, hS.2.2]
  by_cases v5 : S.2.2.toInt < (pNr A B C (are A B C) (cX x) (cX y)).toInt
  · rw [if_neg (by rw [lgc_le, i64_lt]; exact fun q => q v5), zoS_h sh_1285, zoL_e, zoS_h sh_1285, zoL_e, zoS_h sh_1285, zoL_e, yes (Or.inr v5)]
    obtain ⟨u1, u2, u3⟩ := kst_u (W := W) (H := H) (m := m) (a := nI nd) (b := nI fcn) (v := pNr A B C (are A B C) (cX x) (cX y))
    exact zok_s ⟨⟨u1, u2⟩, u3⟩
  · rw [if_pos (by rw [lgc_le, i64_lt]; exact v5)]
    unfold pk1
    rw [if_neg (fun q => q.2.elim (fun e => v4 (by rw [hS.1]; exact e)) v5)]
    exact zok_s ⟨⟨GPk_r, rfl⟩, hS⟩
theorem e_p100K {r nd b c le to ri bo fcn : Nat} {v4 : Int64} {l : List (Nat → Int64)} {f w8 h8 : Int64} {g : Nat → Nat → Int32} {S : kSt} {m : zMem} (hr : gM r) (hl : l.length ≤ 19) (h0 : 0 < l.length) (hb : b < l.length) (hc : c < l.length) (hCP : ∀ q, q < l.length → CP (pcr f w8 h8 (l.getD q oF))) (hW48 : W ≤ 48) (hH48 : H ≤ 48) (hri : ri ≤ W) (hler : ri = le + 1) (htob : bo = to + 1) (hbo : bo ≤ H) (har : 0 < (are (pcr f w8 h8 (l.getD 0 oF)) (pcr f w8 h8 (l.getD b oF)) (pcr f w8 h8 (l.getD c oF))).toInt) (hv4 : (if lg_cmp v4 0 ≤ 0 then -v4 else v4) = are (pcr f w8 h8 (l.getD 0 oF)) (pcr f w8 h8 (l.getD b oF)) (pcr f w8 h8 (l.getD c oF))) (hI : pcIk (W := W) r nd b c l f w8 h8 g m) (hrc : rctI le to ri bo m) (hS : PKM W H S m) : zok (L_MPainter_goOverPiece_100 (sh0 W H) zfuel 1285 (nI nd) (nI fcn) v4 (nI b) (nI c) (nI to) m) (fun q => (GPk m q.2.2.2.2.2.2.2 ∧ q.2.2.2.2.2.2.2.1 1285 0 = m.1 1285 0) ∧ PKM W H (pk1 le to (nd, fcn, pcr f w8 h8 (l.getD 0 oF), pcr f w8 h8 (l.getD b oF), pcr f w8 h8 (l.getD c oF)) S) q.2.2.2.2.2.2.2) := by
  obtain ⟨h1, h2, h3, h4, h5, h6, h7⟩ := hI
  obtain ⟨r6, r7, r8, r9⟩ := hrc
  have f1 : zfuel = 999998 + 1 + 1 := nrfl rfl
  have px := e_gpxK (W := W) (H := H) (m := m) (nd := nd) (b := b) (c := c) (x := le) (y := to) (fcn := fcn) (S := S) h1 hl h5 h0 hb hc h7 (fun q => by rw [q] at har; exact absurd har (by decide)) rfl hS
  have row : zok (L_MPainter_goOverPiece_115 (sh0 W H) zfuel 1285 (nI nd) (nI fcn) v4 (nI b) (nI c) (nI to) (nI le) m) (fun q => q.1 = 1285 ∧ q.2.1 = nI nd ∧ q.2.2.1 = nI fcn ∧ q.2.2.2.1 = v4 ∧ q.2.2.2.2.1 = nI b ∧ q.2.2.2.2.2.1 = nI c ∧ q.2.2.2.2.2.2.1 = nI to ∧ (GPk m q.2.2.2.2.2.2.2.2 ∧ q.2.2.2.2.2.2.2.2.1 1285 0 = m.1 1285 0) ∧ PKM W H (pk1 le to (nd, fcn, pcr f w8 h8 (l.getD 0 oF), pcr f w8 h8 (l.getD b oF), pcr f w8 h8 (l.getD c oF)) S) q.2.2.2.2.2.2.2.2) := by
    have goal : zok (Option.bind (F_MPainter_goOverPixel (sh0 W H) m 1285 (nI nd) (nI fcn) (nI b) (nI c) (are (pcr f w8 h8 (l.getD 0 oF)) (pcr f w8 h8 (l.getD b oF)) (pcr f w8 h8 (l.getD c oF))) (nI le) (nI to)) (fun p => L_MPainter_goOverPiece_115 (sh0 W H) (999998 + 1) 1285 (nI nd) (nI fcn) v4 (nI b) (nI c) (nI to) (nI le + 1) p)) (fun q => q.1 = 1285 ∧ q.2.1 = nI nd ∧ q.2.2.1 = nI fcn ∧ q.2.2.2.1 = v4 ∧ q.2.2.2.2.1 = nI b ∧ q.2.2.2.2.2.1 = nI c ∧ q.2.2.2.2.2.2.1 = nI to ∧ (GPk m q.2.2.2.2.2.2.2.2 ∧ q.2.2.2.2.2.2.2.2.1 1285 0 = m.1 1285 0) ∧ PKM W H (pk1 le to (nd, fcn, pcr f w8 h8 (l.getD 0 oF), pcr f w8 h8 (l.getD b oF), pcr f w8 h8 (l.getD c oF)) S) q.2.2.2.2.2.2.2.2) := by
      refine zok_b px (fun m2 hm2 => ?_)
      rw [nI_p1, L_MPainter_goOverPiece_115, zoS_h sh_1285, hm2.1.1.2.2.1 8 (by decide), r8, if_pos (by rw [nI_leD (by omega) (by omega)]; omega)]
      exact zok_s ⟨rfl, rfl, rfl, rfl, rfl, rfl, rfl, hm2.1, hm2.2⟩
    rw [← hv4] at goal
    rw [f1, L_MPainter_goOverPiece_115, zoS_h sh_1285, r8, if_neg (by rw [nI_leD (by omega) (by omega)]; omega)]
    by_cases e : lg_cmp v4 0 ≤ 0
    · rw [if_pos e] at goal
      rw [if_pos e, zoS_h sh_1285]
      exact goal
    · rw [if_neg e] at goal
      rw [if_neg e, zoS_h sh_1285]
      exact goal
  rw [show L_MPainter_goOverPiece_100 (sh0 W H) zfuel 1285 (nI nd) (nI fcn) v4 (nI b) (nI c) (nI to) m = L_MPainter_goOverPiece_100 (sh0 W H) (999998 + 1 + 1) 1285 (nI nd) (nI fcn) v4 (nI b) (nI c) (nI to) m from by rw [f1], L_MPainter_goOverPiece_100, zoS_h sh_1285, r9, if_neg (by rw [nI_leD (by omega) (by omega)]; omega), zoS_h sh_1285, r6, zoL_e]
  refine zok_b row (fun q hq => ?_)
  obtain ⟨q0, q1, q2, q3, q4, q5, q6, q7, m2⟩ := q
  obtain ⟨w0, w1, w2, w3, w4, w5, w6, w7, w8⟩ := hq
  simp only at w0 w1 w2 w3 w4 w5 w6 w7 w8
  subst w0 w1 w2 w3 w4 w5 w6
  dsimp only
  rw [nI_p1, L_MPainter_goOverPiece_100, zoS_h sh_1285, w7.1.2.2.1 9 (by decide), r9, if_pos (by rw [nI_leD (by omega) (by omega)]; omega)]
  exact zok_s ⟨w7, w8⟩
end ZKP
