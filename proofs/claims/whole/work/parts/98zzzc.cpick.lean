/-! PURE: the class picks -/
section ZCK
variable {W H : Nat}
/-- may a piece cover a pixel: where it does, yes -/
theorem e_mayC {m : zMem} {O T x y : Nat} {A B C : Nat → Int64} (hO : pcT W H O T m) (hT : tri (m.1 T) A B C) (cA : CP A) (cB : CP B) (cC : CP C) (har : 0 < (are A B C).toInt) (hx : x < 48) (hy : y < 48) : ∃ b, F_XPiece_mayCover (sh0 W H) m O (nI x) (nI y) = some (b32 b, m) ∧ (cov A B C (cX x) (cX y) = true → b = true) := by
  have o1 := hO.1
  obtain ⟨fx, ex, xn, x1, x2, x3⟩ := e_fpx (i := 0) hO hT cA cB cC (by decide)
  obtain ⟨lx, lex, xm, y1, y2, y3⟩ := e_lpx (i := 0) hO hT cA cB cC (by decide)
  obtain ⟨fy, ey, yn, u1, u2, u3⟩ := e_fpx (i := 1) hO hT cA cB cC (by decide)
  obtain ⟨ly, ley, ym, v1, v2, v3⟩ := e_lpx (i := 1) hO hT cA cB cC (by decide)
  have ex' : F_XPiece_firstPixel (sh0 W H) m O 0 = some (fx, m) := ex
  have lex' : F_XPiece_lastPixel (sh0 W H) m O 0 = some (lx, m) := lex
  have ey' : F_XPiece_firstPixel (sh0 W H) m O 1 = some (fy, m) := ey
  have ley' : F_XPiece_lastPixel (sh0 W H) m O 1 = some (ly, m) := ley
  have hxy : 0 ≤ (cX x).toInt ∧ (cX x).toInt ≤ 1200 := by rw [cX_i hx]; omega
  have hyy : 0 ≤ (cX y).toInt ∧ (cX y).toInt ≤ 1200 := by rw [cX_i hy]; omega
  have box : cov A B C (cX x) (cX y) = true → (fx.toInt ≤ x ∧ x ≤ lx.toInt) ∧ fy.toInt ≤ y ∧ y ≤ ly.toInt := fun hc => by
    obtain ⟨_, _, _, _, _, _, b7, b8⟩ := cov_b cA cB cC hxy hyy har hc
    rw [cX_i hx] at b7
    rw [cX_i hy] at b8
    omega
  have xI : (nI x).toInt = x := nI_toInt (by omega)
  have yI : (nI y).toInt = y := nI_toInt (by omega)
  unfold F_XPiece_mayCover
  rw [zoS_h o1, zob_h ex']
  dsimp only
  by_cases c1 : nI x < fx
  · rw [if_pos c1]
    refine ⟨false, rfl, fun hc => ?_⟩
    rw [i32_lt, xI] at c1
    have := box hc
    omega
  rw [if_neg c1, zoS_h o1, zob_h lex']
  dsimp only
  by_cases c2 : lx < nI x
  · rw [if_pos c2]
    refine ⟨false, rfl, fun hc => ?_⟩
    rw [i32_lt, xI] at c2
    have := box hc
    omega
  rw [if_neg c2, zoS_h o1, zob_h ey']
  dsimp only
  by_cases c3 : nI y < fy
  · rw [if_pos c3]
    refine ⟨false, rfl, fun hc => ?_⟩
    rw [i32_lt, yI] at c3
    have := box hc
    omega
  rw [if_neg c3, zoS_h o1, zob_h ley']
  dsimp only
  by_cases c4 : ly < nI y
  · rw [if_pos c4]
    refine ⟨false, rfl, fun hc => ?_⟩
    rw [i32_lt, yI] at c4
    have := box hc
    omega
  rw [if_neg c4]
  exact ⟨true, rfl, fun _ => rfl⟩
/-- the best so far, the class's way: v4 node, v5 nearness, 0 11 the face -/
def CKM (S : kSt) (v4 : Int32) (v5 : Int64) (m : zMem) : Prop := v4 = S.1 ∧ v5 = S.2.2 ∧ m.1 0 11 = S.2.1 ∧ (S.1 = -1 → S.2.2 = 0) ∧ 0 ≤ S.2.2.toInt
/-- what picking leaves -/
def KF (m m' : zMem) : Prop := (∀ k j, ¬ (k = 1121 ∧ (j = 2 ∨ j = 14)) → m'.2.2 k j = m.2.2 k j) ∧ (∀ a, a ≠ 0 → ¬ (1121 ≤ a ∧ a ≤ 1177) → m'.1 a = m.1 a) ∧ (∀ c, c ≠ 11 → m'.1 0 c = m.1 0 c) ∧ (∀ c, c ≠ 1 → c ≠ 3 → c ≠ 4 → c ≠ 12 → m'.1 1121 c = m.1 1121 c) ∧ ∀ a, a ≠ 1122 → m'.2.1 a = m.2.1 a
theorem KF_r {m : zMem} : KF m m := ⟨fun _ _ _ => rfl, fun _ _ _ => rfl, fun _ _ => rfl, fun _ _ _ _ _ => rfl, fun _ _ => rfl⟩
theorem KF_t {m m' m'' : zMem} (h : KF m m') (k : KF m' m'') : KF m m'' := ⟨fun a j q => (k.1 a j q).trans (h.1 a j q), fun a q r => (k.2.1 a q r).trans (h.2.1 a q r), fun c q => (k.2.2.1 c q).trans (h.2.2.1 c q), fun c h1 h2 h3 h4 => (k.2.2.2.1 c h1 h2 h3 h4).trans (h.2.2.2.1 c h1 h2 h3 h4), fun a q => (k.2.2.2.2 a q).trans (h.2.2.2.2 a q)⟩
theorem KF_N {m m' : zMem} (h : NF m m') : KF m m' := ⟨h.1, fun a _ q => h.2.1 a (by omega) (by omega) (by omega) (by omega) (by omega), fun c _ => by rw [h.2.1 0 (by decide) (by decide) (by decide) (by decide) (by decide)], h.2.2.1, h.2.2.2⟩
theorem KF_v {m m' : zMem} (h : cvF 1122 m m') : KF m m' := ⟨fun _ _ _ => by rw [h.2.1], fun _ _ _ => by rw [h.1], fun _ _ => by rw [h.1], fun _ _ _ _ _ => by rw [h.1], h.2.2.1⟩
end ZCK
