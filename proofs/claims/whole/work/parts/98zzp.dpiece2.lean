/-! PURE: the class draws a piece -/
section ZDG
variable {W H : Nat}
theorem e_crossC {m : zMem} {x y : Nat} {A B C : Nat → Int64} {O T : Nat} (hO : pcT W H O T m) (hT : tri (m.1 T) A B C) (hA : CP A) (hB : CP B) (hC : CP C) (hx : x < 6) (hy : y < 6) : F_XPiece_cross (sh0 W H) m O (nI x) (nI y) = some ((B x - A x) * (C y - A y) - (C x - A x) * (B y - A y), m) := by
  have six : ∀ a : Nat, (6 : Int32) + nI a = nI (6 + a) := fun a => nI_pp 6 a
  have twl : ∀ a : Nat, (12 : Int32) + nI a = nI (12 + a) := fun a => nI_pp 12 a
  obtain ⟨o1, o2, o3⟩ := hO
  unfold F_XPiece_cross
  rw [zoS_h o1, zob_h (o2), six, zoL_e, zoS_h o3, nI_ix (by omega) (by decide), nI_cl (n := 6 + x) (by omega), zoS_h o1, zob_h (o2), zoS_h o3, nI_ix (by omega) (by decide), nI_cl (n := x) (by omega), zoS_h o1, zob_h (o2), twl, zoL_e, zoS_h o3, nI_ix (by omega) (by decide), nI_cl (n := 12 + y) (by omega), zoS_h o1, zob_h (o2), zoS_h o3, if_neg (fun q => q.elim (nI_pos (by omega)) (by rw [nI_cl (n := y) (by omega)]; omega)), zoL_e, zoS_h o1, zob_h (o2), twl, zoL_e, zoS_h o3, if_neg (fun q => q.elim (nI_pos (by omega)) (by rw [nI_cl (n := 12 + x) (by omega)]; omega)), zoS_h o1, zob_h (o2), zoS_h o3, if_neg (fun q => q.elim (nI_pos (by omega)) (by omega)), zoS_h o1, zob_h (o2), six, zoL_e, zoS_h o3, if_neg (fun q => q.elim (nI_pos (by omega)) (by rw [nI_cl (n := 6 + y) (by omega)]; omega)), zoS_h o1, zob_h (o2), zoS_h o3, if_neg (fun q => q.elim (nI_pos (by omega)) (by rw [nI_cl (n := y) (by omega)]; omega)), nI_cl (n := y) (by omega), nI_cl (n := 12 + x) (by omega), nI_cl (n := 6 + y) (by omega)]
  rw [sub32 (hT x hx).2.1 (hT x hx).1 (CP_k hB hx) (CP_k hA hx), sub32 (hT y hy).2.2 (hT y hy).1 (CP_k hC hy) (CP_k hA hy), sub32 (hT x hx).2.2 (hT x hx).1 (CP_k hC hx) (CP_k hA hx), sub32 (hT y hy).2.1 (hT y hy).1 (CP_k hB hy) (CP_k hA hy)]
theorem min_i (a b : Int32) : (zx_min a b).toInt ≤ a.toInt ∧ (zx_min a b).toInt ≤ b.toInt ∧ ((zx_min a b).toInt = a.toInt ∨ (zx_min a b).toInt = b.toInt) := by
  unfold zx_min
  by_cases c : b < a
  · rw [if_pos c]
    rw [i32_lt] at c
    omega
  · rw [if_neg c]
    rw [i32_lt] at c
    omega
theorem max_i (a b : Int32) : a.toInt ≤ (zx_max a b).toInt ∧ b.toInt ≤ (zx_max a b).toInt ∧ ((zx_max a b).toInt = a.toInt ∨ (zx_max a b).toInt = b.toInt) := by
  unfold zx_max
  by_cases c : a < b
  · rw [if_pos c]
    rw [i32_lt] at c
    omega
  · rw [if_neg c]
    rw [i32_lt] at c
    omega
theorem e_fpx {m : zMem} {O T i : Nat} {A B C : Nat → Int64} (hO : pcT W H O T m) (hT : tri (m.1 T) A B C) (cA : CP A) (cB : CP B) (cC : CP C) (hi : i < 2) : ∃ z, F_XPiece_firstPixel (sh0 W H) m O (nI i) = some (z, m) ∧ ∃ mn : Int, (mn ≤ (A i).toInt ∧ mn ≤ (B i).toInt ∧ mn ≤ (C i).toInt) ∧ -1200 ≤ mn ∧ z.toInt = (mn + 7) / 16 := by
  obtain ⟨o1, o2, o3⟩ := hO
  have six : (6 : Int32) + nI i = nI (6 + i) := nI_pp 6 i
  have twl : (12 : Int32) + nI i = nI (12 + i) := nI_pp 12 i
  obtain ⟨tA, tB, tC⟩ := hT i (by omega)
  have kA : (m.1 T i).toInt = (A i).toInt := by rw [← tA, Int32.toInt_toInt64]
  have kB : (m.1 T (6 + i)).toInt = (B i).toInt := by rw [← tB, Int32.toInt_toInt64]
  have kC : (m.1 T (12 + i)).toInt = (C i).toInt := by rw [← tC, Int32.toInt_toInt64]
  have bA : -1200 ≤ (A i).toInt ∧ (A i).toInt ≤ 1200 := by
    rcases (show i = 0 ∨ i = 1 by omega) with rfl | rfl
    · exact cA.1
    · exact cA.2.1
  have bB : -1200 ≤ (B i).toInt ∧ (B i).toInt ≤ 1200 := by
    rcases (show i = 0 ∨ i = 1 by omega) with rfl | rfl
    · exact cB.1
    · exact cB.2.1
  have bC : -1200 ≤ (C i).toInt ∧ (C i).toInt ≤ 1200 := by
    rcases (show i = 0 ∨ i = 1 by omega) with rfl | rfl
    · exact cC.1
    · exact cC.2.1
  unfold F_XPiece_firstPixel
  rw [zoS_h o1, zob_h o2, zoS_h o3, nI_ix (by omega) (by decide), nI_cl (n := i) (by omega), zoS_h o1, zob_h o2, six, zoL_e, zoS_h o3, nI_ix (by omega) (by decide), nI_cl (n := 6 + i) (by omega), zoS_h o1, zob_h o2, twl, zoL_e, zoS_h o3, nI_ix (by omega) (by decide), nI_cl (n := 12 + i) (by omega), zoL_e, zoL_e, zoL_e, zoL_e]
  obtain ⟨p1, p2, p3⟩ := min_i (m.1 T (6 + i)) (m.1 T (12 + i))
  obtain ⟨r1, r2, r3⟩ := min_i (m.1 T i) (zx_min (m.1 T (6 + i)) (m.1 T (12 + i)))
  generalize zx_min (m.1 T i) (zx_min (m.1 T (6 + i)) (m.1 T (12 + i))) = Z at *
  have k7 : (7 : Int32).toInt = 7 := rfl
  refine ⟨_, rfl, Z.toInt, by omega, by omega, ?_⟩
  rw [i32_shr _ _ 4 (by decide), i32_add (by omega) (by omega), k7]
  rfl
theorem e_lpx {m : zMem} {O T i : Nat} {A B C : Nat → Int64} (hO : pcT W H O T m) (hT : tri (m.1 T) A B C) (cA : CP A) (cB : CP B) (cC : CP C) (hi : i < 2) : ∃ z, F_XPiece_lastPixel (sh0 W H) m O (nI i) = some (z, m) ∧ ∃ mn : Int, ((A i).toInt ≤ mn ∧ (B i).toInt ≤ mn ∧ (C i).toInt ≤ mn) ∧ mn ≤ 1200 ∧ z.toInt = (mn - 8) / 16 := by
  obtain ⟨o1, o2, o3⟩ := hO
  have six : (6 : Int32) + nI i = nI (6 + i) := nI_pp 6 i
  have twl : (12 : Int32) + nI i = nI (12 + i) := nI_pp 12 i
  obtain ⟨tA, tB, tC⟩ := hT i (by omega)
  have kA : (m.1 T i).toInt = (A i).toInt := by rw [← tA, Int32.toInt_toInt64]
  have kB : (m.1 T (6 + i)).toInt = (B i).toInt := by rw [← tB, Int32.toInt_toInt64]
  have kC : (m.1 T (12 + i)).toInt = (C i).toInt := by rw [← tC, Int32.toInt_toInt64]
  have bA : -1200 ≤ (A i).toInt ∧ (A i).toInt ≤ 1200 := by
    rcases (show i = 0 ∨ i = 1 by omega) with rfl | rfl
    · exact cA.1
    · exact cA.2.1
  have bB : -1200 ≤ (B i).toInt ∧ (B i).toInt ≤ 1200 := by
    rcases (show i = 0 ∨ i = 1 by omega) with rfl | rfl
    · exact cB.1
    · exact cB.2.1
  have bC : -1200 ≤ (C i).toInt ∧ (C i).toInt ≤ 1200 := by
    rcases (show i = 0 ∨ i = 1 by omega) with rfl | rfl
    · exact cC.1
    · exact cC.2.1
  unfold F_XPiece_lastPixel
  rw [zoS_h o1, zob_h o2, zoS_h o3, nI_ix (by omega) (by decide), nI_cl (n := i) (by omega), zoS_h o1, zob_h o2, six, zoL_e, zoS_h o3, nI_ix (by omega) (by decide), nI_cl (n := 6 + i) (by omega), zoS_h o1, zob_h o2, twl, zoL_e, zoS_h o3, nI_ix (by omega) (by decide), nI_cl (n := 12 + i) (by omega), zoL_e, zoL_e, zoL_e, zoL_e]
  obtain ⟨p1, p2, p3⟩ := max_i (m.1 T (6 + i)) (m.1 T (12 + i))
  obtain ⟨r1, r2, r3⟩ := max_i (m.1 T i) (zx_max (m.1 T (6 + i)) (m.1 T (12 + i)))
  generalize zx_max (m.1 T i) (zx_max (m.1 T (6 + i)) (m.1 T (12 + i))) = Z at *
  have k7 : (8 : Int32).toInt = 8 := rfl
  refine ⟨_, rfl, Z.toInt, by omega, by omega, ?_⟩
  rw [i32_shr _ _ 4 (by decide), i32_sub (by omega) (by omega), k7]
  rfl
theorem e_sprC {m : zMem} {O T : Nat} {A B C : Nat → Int64} (hO : pcT W H O T m) (hT : tri (m.1 T) A B C) (cA : CP A) (cB : CP B) (cC : CP C) : ∃ sp, F_XPiece_spread (sh0 W H) m O = some (sp, m) ∧ ∀ s : Int64, (sp * s) * s = wid A B C s := by
  have hc := e_crossC (x := 3) (y := 4) hO hT cA cB cC (by decide) (by decide)
  have hc' : F_XPiece_cross (sh0 W H) m O 3 4 = some ((B 3 - A 3) * (C 4 - A 4) - (C 3 - A 3) * (B 4 - A 4), m) := hc
  unfold F_XPiece_spread
  rw [zoS_h hO.1, zob_h hc']
  dsimp only
  unfold F_JMath_abs2
  by_cases q : 0 ≤ lg_cmp ((B 3 - A 3) * (C 4 - A 4) - (C 3 - A 3) * (B 4 - A 4)) 0
  · rw [if_pos q]
    refine ⟨_, rfl, fun s => ?_⟩
    unfold wid
    rw [if_pos q]
  · rw [if_neg q]
    refine ⟨_, rfl, fun s => ?_⟩
    unfold wid
    rw [if_neg q]
/-- outside its box a piece draws nothing -/
theorem box_id {g : Nat → Nat → Int32} {mt le to ri bo le' to' ri' bo' : Nat} {A B C : Nat → Int64} {S : Nat → Nat → pSt} (hri : ri ≤ 48) (hbo : bo ≤ 48) (h : ∀ a b, a < 48 → b < 48 → inR le to ri bo a b = true → cov A B C (cX a) (cX b) = true → inR le' to' ri' bo' a b = true) (h' : ∀ a b, inR le' to' ri' bo' a b = true → inR le to ri bo a b = true) : (fun a b => if inR le' to' ri' bo' a b then pxF g mt A B C a b (S a b) else S a b) = fun a b => if inR le to ri bo a b then pxF g mt A B C a b (S a b) else S a b := by
  funext a b
  cases c1 : inR le to ri bo a b with
  | false =>
    cases c2 : inR le' to' ri' bo' a b with
    | false => rfl
    | true => exact absurd (h' a b c2) (by rw [c1]; decide)
  | true =>
    cases c2 : inR le' to' ri' bo' a b with
    | true => rfl
    | false =>
      have hb : a < 48 ∧ b < 48 := by
        unfold inR at c1
        have := of_decide_eq_true c1
        omega
      show S a b = pxF g mt A B C a b (S a b)
      rw [pxF_no (fun q => by
        have := h a b hb.1 hb.2 c1 q.1
        rw [c2] at this
        cases this)]
theorem inR_no {a b le to : Nat} : inR le to 0 0 a b = false := by
  unfold inR
  exact decide_eq_false (by omega)
theorem e_dpiece {m : zMem} {s mt le to ri bo : Nat} {g : Nat → Nat → Int32} {A B C : Nat → Int64} {S : Nat → Nat → pSt} (hs : gS s) (hmt : mt < 16) (hWm : WmtG g mt) (hD : DB W s mt g A B C m) (cA : CP A) (cB : CP B) (cC : CP C) (har : 0 < (are A B C).toInt) (hW48 : W ≤ 48) (hH48 : H ≤ 48) (hri : ri ≤ W) (hbo : bo ≤ H) (hler : le < ri) (htob : to < bo) (h14 : m.1 1178 14 = nI le) (h15 : m.1 1178 15 = nI to) (h16 : m.1 1178 16 = nI (ri - 1)) (h17 : m.1 1178 17 = nI (bo - 1)) (hS : CPX W H S m) (htx : ∀ t, g 6 mt = nI t → t < 8 → ∃ e L, TXC m.1 s g t e L) (ht8 : (g 6 mt).toInt < 8) : zok (F_XPicture_drawPiece (sh0 W H) m 1178 (s + (4 + mt))) (fun m' => PF m m' ∧ CPX W H (fun a b => if inR le to ri bo a b then pxF g mt A B C a b (S a b) else S a b) m') := by
  obtain ⟨h1, h2, h3, h4, h5, h6⟩ := hD
  have pc : pcT W H 1181 1182 m := ⟨sh_1181, rf_1181_1 h1, sh_1182⟩
  obtain ⟨fx, ex, xn, x1, x2, x3⟩ := e_fpx (i := 0) pc h3 cA cB cC (by decide)
  obtain ⟨lx, lex, xm, y1, y2, y3⟩ := e_lpx (i := 0) pc h3 cA cB cC (by decide)
  obtain ⟨fy, ey, yn, u1, u2, u3⟩ := e_fpx (i := 1) pc h3 cA cB cC (by decide)
  obtain ⟨ly, ley, ym, v1, v2, v3⟩ := e_lpx (i := 1) pc h3 cA cB cC (by decide)
  have ex' : F_XPiece_firstPixel (sh0 W H) m 1181 0 = some (fx, m) := ex
  have lex' : F_XPiece_lastPixel (sh0 W H) m 1181 0 = some (lx, m) := lex
  have ey' : F_XPiece_firstPixel (sh0 W H) m 1181 1 = some (fy, m) := ey
  have ley' : F_XPiece_lastPixel (sh0 W H) m 1181 1 = some (ly, m) := ley
  unfold F_XPicture_drawPiece
  rw [zoS_h sh_1178, zoS_h sh_1178, zob_h (rf_1178_11 h1), zoS_h sh_1181, zob_h ex']
  dsimp only
  rw [h14, zoL_e, zoS_h sh_1178, zoS_h sh_1178, zob_h (rf_1178_11 h1), zoS_h sh_1181, zob_h lex']
  dsimp only
  rw [h16, zoL_e, zoS_h sh_1178, zoS_h sh_1178, zob_h (rf_1178_11 h1), zoS_h sh_1181, zob_h ey']
  dsimp only
  rw [h15, zoL_e, zoS_h sh_1178, zoS_h sh_1178, zob_h (rf_1178_11 h1), zoS_h sh_1181, zob_h ley']
  dsimp only
  rw [h17, zoL_e]
  have a1 := max_i (nI le) fx
  have a2 := min_i (nI (ri - 1)) lx
  have a3 := max_i (nI to) fy
  have a4 := min_i (nI (bo - 1)) ly
  rw [nI_toInt (by omega)] at a1 a2 a3 a4
  generalize zx_max (nI le) fx = X0 at *
  generalize zx_min (nI (ri - 1)) lx = X1 at *
  generalize zx_max (nI to) fy = Y0 at *
  generalize zx_min (nI (bo - 1)) ly = Y1 at *
  have box : ∀ a b, a < 48 → b < 48 → inR le to ri bo a b = true → cov A B C (cX a) (cX b) = true → (X0.toInt ≤ a ∧ a ≤ X1.toInt) ∧ Y0.toInt ≤ b ∧ b ≤ Y1.toInt := fun a b ha hb hin hc => by
    unfold inR at hin
    have hin := of_decide_eq_true hin
    have hxy : 0 ≤ (cX a).toInt ∧ (cX a).toInt ≤ 1200 := by rw [cX_i ha]; omega
    have hyy : 0 ≤ (cX b).toInt ∧ (cX b).toInt ≤ 1200 := by rw [cX_i hb]; omega
    obtain ⟨_, _, _, _, _, _, b7, b8⟩ := cov_b cA cB cC hxy hyy har hc
    rw [cX_i ha] at b7
    rw [cX_i hb] at b8
    omega
  have none_ : (X1.toInt < X0.toInt ∨ Y1.toInt < Y0.toInt) → CPX W H (fun a b => if inR le to ri bo a b then pxF g mt A B C a b (S a b) else S a b) m := fun hn => by
    rw [← box_id (le' := 0) (to' := 0) (ri' := 0) (bo' := 0) (by omega) (by omega) (fun a b ha hb hin hc => by have := box a b ha hb hin hc; omega) (fun a b q => by rw [inR_no] at q; cases q)]
    intro x hx y hy
    dsimp only
    rw [inR_no]
    exact hS x hx y hy
  by_cases n1 : X1 < X0
  · rw [if_pos n1]
    exact zok_s ⟨PF_r, none_ (Or.inl (i32_lt.mp n1))⟩
  rw [if_neg n1]
  by_cases n2 : Y0 ≤ Y1
  · rw [if_pos n2]
    rw [i32_lt] at n1
    rw [i32_le] at n2
    obtain ⟨xa, xa8, rfl⟩ : ∃ n, n < 48 ∧ X0 = nI n := ⟨X0.toInt.toNat, by omega, i32_ext (by rw [nI_toInt (by omega)]; omega)⟩
    obtain ⟨xb, xb8, rfl⟩ : ∃ n, n < 48 ∧ X1 = nI n := ⟨X1.toInt.toNat, by omega, i32_ext (by rw [nI_toInt (by omega)]; omega)⟩
    obtain ⟨ya, ya8, rfl⟩ : ∃ n, n < 48 ∧ Y0 = nI n := ⟨Y0.toInt.toNat, by omega, i32_ext (by rw [nI_toInt (by omega)]; omega)⟩
    obtain ⟨yb, yb8, rfl⟩ : ∃ n, n < 48 ∧ Y1 = nI n := ⟨Y1.toInt.toNat, by omega, i32_ext (by rw [nI_toInt (by omega)]; omega)⟩
    rw [nI_toInt (by omega)] at a1 a2 a3 a4
    rw [nI_toInt (by omega), nI_toInt (by omega)] at n1 n2
    have box' : ∀ a b, a < 48 → b < 48 → inR le to ri bo a b = true → cov A B C (cX a) (cX b) = true → inR xa ya (xb + 1) (yb + 1) a b = true := fun a b ha hb hin hc => by
      have := box a b ha hb hin hc
      rw [nI_toInt (by omega), nI_toInt (by omega), nI_toInt (by omega), nI_toInt (by omega)] at this
      unfold inR
      exact decide_eq_true (by omega)
    have sub' : ∀ a b, inR xa ya (xb + 1) (yb + 1) a b = true → inR le to ri bo a b = true := fun a b hin => by
      unfold inR at hin ⊢
      have hin := of_decide_eq_true hin
      exact decide_eq_true (by omega)
    rw [← box_id (g := g) (mt := mt) (S := S) (show ri ≤ 48 by omega) (show bo ≤ 48 by omega) box' sub']
    have hD : DB W s mt g A B C m := ⟨h1, h2, h3, h4, h5, h6⟩
    have c4 : (4 : Int32).toNatClampNeg = 4 := by decide
    have z0 : (0 : Int32).toInt = 0 := rfl
    have st : CPX W H (Sdn (fun x y => pxF g mt A B C x y) S (dnR xa ya (xb + 1) ya xa)) m := by rw [dn_none]; exact hS
    rw [zoS_h (sh_smt hs hmt), if_neg (by decide), c4, h6.2.1]
    by_cases q : 0 ≤ (g 6 mt).toInt
    · obtain ⟨t, ht, e6⟩ : ∃ t, t < 8 ∧ g 6 mt = nI t := ⟨(g 6 mt).toInt.toNat, by omega, i32_ext (by rw [nI_toInt (by omega)]; omega)⟩
      obtain ⟨e, L, hT⟩ := htx t e6 ht
      obtain ⟨sp, es, ew⟩ := e_sprC pc h3 cA cB cC
      rw [if_pos (by rw [i32_le, z0]; exact q), zoS_h sh_1178, zob_h h2, zoS_h (sh_s0 hs), zob_h (rf_s1 h1 hs), zoS_h (sh_smt hs hmt), if_neg (by decide), e6, zoL_e, zoR_h (sh_s2 hs) (by decide), nI_ix (by omega) (by decide), nI_cl (n := t) (by omega), zob_h (rf_tx h1 hs ht), zoS_h sh_1178, zob_h (rf_1178_11 h1), zoS_h sh_1181, zob_h es]
      dsimp only
      rw [zoS_h sh_1178, zob_h (rf_1178_11 h1), zoS_h sh_1181, zoS_h (sh_txA hs ht), h4, zob_h (e_lvC hs ht hT), ew]
      dsimp only
      have hz := e_136 (W := W) (H := H) (S := S) (le := xa) (to := ya) (ri := xb + 1) (bo := yb + 1) (l := lvS (wid A B C (nI (sd e 0)).toInt64) (are A B C) e 0) hs hmt hWm hD cA cB cC har hW48 hH48 (by omega) (by omega) ht e6 hT (by have := lvS_le (a := wid A B C (nI (sd e 0)).toInt64) (b := are A B C) e 0; omega) rfl (by omega) (by omega) (by omega) (yb + 1 - ya) ya zfuel m (by omega) (Nat.le_refl _) (zf_lt (by omega)) PF_r st
      rw [Nat.add_sub_cancel, Nat.add_sub_cancel] at hz
      refine zok_b hz (fun z hz => zok_s ⟨hz.1, ?_⟩)
      have := hz.2
      rw [dn_all] at this
      exact this
    · rw [if_neg (by rw [i32_le, z0]; exact q)]
      have hz := e_136N (W := W) (H := H) (S := S) (le := xa) (to := ya) (ri := xb + 1) (bo := yb + 1) (v7 := 0) hs hmt hWm hD cA cB cC har hW48 hH48 (by omega) (by omega) (by rw [i32_lt, z0]; omega) (by omega) (by omega) (by omega) (yb + 1 - ya) ya zfuel m (by omega) (Nat.le_refl _) (zf_lt (by omega)) PF_r st
      rw [Nat.add_sub_cancel, Nat.add_sub_cancel] at hz
      refine zok_b hz (fun z hz => zok_s ⟨hz.1, ?_⟩)
      have := hz.2
      rw [dn_all] at this
      exact this
  · rw [if_neg n2]
    exact zok_s ⟨PF_r, none_ (Or.inr (by rw [i32_le] at n2; omega))⟩
end ZDG
