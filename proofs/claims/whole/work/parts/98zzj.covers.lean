/-! PURE: the class's question whether a piece covers a pixel -/
section ZCV
variable {W H : Nat}
theorem mLs {m : zMem} {k j : Nat} {v : Int64} : (mL m k j v).2.1 k j = v := by
  show (if k = k then vp_updL (m.2.1 k) j v else m.2.1 k) j = v
  rw [if_pos rfl]
  unfold vp_updL
  rw [if_pos rfl]
theorem mLo {m : zMem} {k j c : Nat} {v : Int64} (h : c ≠ j) : (mL m k j v).2.1 k c = m.2.1 k c := by
  show (if k = k then vp_updL (m.2.1 k) j v else m.2.1 k) c = m.2.1 k c
  rw [if_pos rfl]
  unfold vp_updL
  rw [if_neg h]
theorem mLn {m : zMem} {k j a : Nat} {v : Int64} (h : a ≠ k) : (mL m k j v).2.1 a = m.2.1 a := by
  show (if a = k then vp_updL (m.2.1 a) j v else m.2.1 a) = m.2.1 a
  rw [if_neg h]
/-- what asking a piece leaves -/
def cvF (O : Nat) (m m' : zMem) : Prop := m'.1 = m.1 ∧ m'.2.2 = m.2.2 ∧ (∀ a, a ≠ O → m'.2.1 a = m.2.1 a) ∧ m'.2.1 O 0 = m.2.1 O 0
theorem cvF_r {O : Nat} {m : zMem} : cvF O m m := ⟨rfl, rfl, fun _ _ => rfl, rfl⟩
theorem cvF_t {O : Nat} {m m' m'' : zMem} (h : cvF O m m') (k : cvF O m' m'') : cvF O m m'' := ⟨k.1.trans h.1, k.2.1.trans h.2.1, fun a ha => (k.2.2.1 a ha).trans (h.2.2.1 a ha), k.2.2.2.trans h.2.2.2⟩
theorem cvF_L {O j : Nat} {v : Int64} {m : zMem} (h : 0 ≠ j) : cvF O m (mL m O j v) := ⟨rfl, rfl, fun _ ha => mLn ha, mLo h⟩
theorem pcT_v {O T : Nat} {m m' : zMem} (h : pcT W H O T m) (k : cvF O m m') : pcT W H O T m' := ⟨h.1, by rw [k.2.1]; exact h.2.1, h.2.2⟩
def cvT (sh : zSh) (o : Nat) (m : zMem) : Option (Int32 × zMem) := zoS (sh o) 6 (fun le438 => zoS (sh o) 6 (fun le440 => Option.bind (m.2.2 o 1) (fun a441 => zoS (sh a441) 100 (fun le443 => if (2 : Int32) < 0 ∨ le443 ≤ (2 : Int32).toNatClampNeg then none else zoL ((m.2.1 o 2) * (((m.1 a441 (2 : Int32).toNatClampNeg) : Int32).toInt64)) (fun x445 => zoS (sh o) 6 (fun le447 => zoL (mL m o 2 x445) (fun mm448 => zoS (sh o) 6 (fun le450 => zoS (sh o) 6 (fun le452 => Option.bind (mm448.2.2 o 1) (fun a453 => zoS (sh a453) 100 (fun le455 => if (8 : Int32) < 0 ∨ le455 ≤ (8 : Int32).toNatClampNeg then none else zoL ((mm448.2.1 o 3) * (((mm448.1 a453 (8 : Int32).toNatClampNeg) : Int32).toInt64)) (fun x457 => zoS (sh o) 6 (fun le459 => zoL (mL mm448 o 3 x457) (fun mm460 => zoS (sh o) 6 (fun le462 => zoS (sh o) 6 (fun le464 => Option.bind (mm460.2.2 o 1) (fun a465 => zoS (sh a465) 100 (fun le467 => if (14 : Int32) < 0 ∨ le467 ≤ (14 : Int32).toNatClampNeg then none else zoL ((mm460.2.1 o 4) * (((mm460.1 a465 (14 : Int32).toNatClampNeg) : Int32).toInt64)) (fun x469 => zoS (sh o) 6 (fun le471 => zoL (mL mm460 o 4 x469) (fun mm472 => zoS (sh o) 6 (fun le474 => zoS (sh o) 6 (fun le476 => zoS (sh o) 6 (fun le478 => zoL (((mm472.2.1 o 2) + (mm472.2.1 o 3)) + (mm472.2.1 o 4)) (fun x479 => zoS (sh o) 6 (fun le481 => zoL (mL mm472 o 5 x479) (fun mm482 => some (1, mm482))))))))))))))))))))))))))))
def cvS (sh : zSh) (o : Nat) (a b : Int32) (j : Nat) (x1 x2 : Int32) (m : zMem) (K : zMem → Option (Int32 × zMem)) : Option (Int32 × zMem) := zoS (sh o) 6 (fun le4 => Option.bind (F_XPiece_edge sh m o a b x1 x2) (fun p5 => zoS (sh o) 6 (fun le7 => zoL (mL (p5.2) o j (p5.1)) (fun mm8 => zoS (sh o) 6 (fun le10 => (if (lg_cmp (mm8.2.1 o j) 0) < 0 then some (0, mm8) else zoS (sh o) 6 (fun le13 => (if (lg_cmp (mm8.2.1 o j) 0) = 0 then zoS (sh o) 6 (fun le248 => Option.bind (F_XPiece_ownsEdge sh mm8 o a b) (fun p249 => (if p249.1 = 0 then some (0, p249.2) else K (p249.2)))) else K mm8))))))))
theorem cov_cv (sh : zSh) (m : zMem) (o : Nat) (i j : Int32) : F_XPiece_covers sh m o i j = cvS sh o 6 12 2 (16 * i + 8) (16 * j + 8) m (fun m => cvS sh o 12 0 3 (16 * i + 8) (16 * j + 8) m (fun m => cvS sh o 0 6 4 (16 * i + 8) (16 * j + 8) m (cvT sh o))) := rfl
theorem e_cvT {m : zMem} {O T : Nat} {A B C : Nat → Int64} (hO : pcT W H O T m) (hT : tri (m.1 T) A B C) : zok (cvT (sh0 W H) O m) (fun q => q.1 = 1 ∧ cvF O m q.2 ∧ q.2.2.1 O 2 = m.2.1 O 2 * A 2 ∧ q.2.2.1 O 3 = m.2.1 O 3 * B 2 ∧ q.2.2.1 O 4 = m.2.1 O 4 * C 2 ∧ q.2.2.1 O 5 = (m.2.1 O 2 * A 2 + m.2.1 O 3 * B 2) + m.2.1 O 4 * C 2) := by
  obtain ⟨o1, o2, o3⟩ := hO
  have a2 : (m.1 T (2 : Int32).toNatClampNeg).toInt64 = A 2 := (hT 2 (by decide)).1
  have b2 : (m.1 T (8 : Int32).toNatClampNeg).toInt64 = B 2 := (hT 2 (by decide)).2.1
  have c2 : (m.1 T (14 : Int32).toNatClampNeg).toInt64 = C 2 := (hT 2 (by decide)).2.2
  unfold cvT
  rw [zoS_h o1, zoS_h o1, zob_h o2, zoS_h o3, if_neg (by decide), zoL_e, a2, zoS_h o1, zoL_e]
  generalize h1 : mL m O 2 (m.2.1 O 2 * A 2) = m1
  have f1 : cvF O m m1 := by rw [← h1]; exact cvF_L (by decide)
  have p1 : m1.2.2 O 1 = some T := by rw [f1.2.1]; exact o2
  have v12 : m1.2.1 O 2 = m.2.1 O 2 * A 2 := by rw [← h1, mLs]
  have v13 : m1.2.1 O 3 = m.2.1 O 3 := by rw [← h1, mLo (by decide)]
  have v14 : m1.2.1 O 4 = m.2.1 O 4 := by rw [← h1, mLo (by decide)]
  rw [zoS_h o1, zoS_h o1, zob_h p1, zoS_h o3, if_neg (by decide), zoL_e, f1.1, b2, zoS_h o1, zoL_e, v13]
  generalize h2 : mL m1 O 3 (m.2.1 O 3 * B 2) = m2
  have f2 : cvF O m m2 := cvF_t f1 (by rw [← h2]; exact cvF_L (by decide))
  have p2 : m2.2.2 O 1 = some T := by rw [f2.2.1]; exact o2
  have v22 : m2.2.1 O 2 = m.2.1 O 2 * A 2 := by rw [← h2, mLo (by decide), v12]
  have v23 : m2.2.1 O 3 = m.2.1 O 3 * B 2 := by rw [← h2, mLs]
  have v24 : m2.2.1 O 4 = m.2.1 O 4 := by rw [← h2, mLo (by decide), v14]
  rw [zoS_h o1, zoS_h o1, zob_h p2, zoS_h o3, if_neg (by decide), zoL_e, f2.1, c2, zoS_h o1, zoL_e, v24]
  generalize h3 : mL m2 O 4 (m.2.1 O 4 * C 2) = m3
  have f3 : cvF O m m3 := cvF_t f2 (by rw [← h3]; exact cvF_L (by decide))
  have v32 : m3.2.1 O 2 = m.2.1 O 2 * A 2 := by rw [← h3, mLo (by decide), v22]
  have v33 : m3.2.1 O 3 = m.2.1 O 3 * B 2 := by rw [← h3, mLo (by decide), v23]
  have v34 : m3.2.1 O 4 = m.2.1 O 4 * C 2 := by rw [← h3, mLs]
  rw [zoS_h o1, zoS_h o1, zoS_h o1, zoL_e, zoS_h o1, zoL_e, v32, v33, v34]
  exact zok_s ⟨rfl, cvF_t f3 (cvF_L (by decide)), (mLo (by decide)).trans v32, (mLo (by decide)).trans v33, (mLo (by decide)).trans v34, mLs⟩
theorem ins_ow {A B : Nat → Int64} {x y : Int64} : ins A B x y = (decide (0 < (edg A B x y).toInt) || (decide ((edg A B x y).toInt = 0) && owE A B)) := rfl
theorem e_cvS {m : zMem} {O T a b j : Nat} {x y : Int32} {A B : Nat → Int64} {K : zMem → Option (Int32 × zMem)} {Q : Int32 × zMem → Prop} (hO : pcT W H O T m) (ha : a + 6 ≤ 18) (hb : b + 6 ≤ 18) (hj : 2 ≤ j) (hA : ∀ k, k < 6 → (m.1 T (a + k)).toInt64 = A k) (hB : ∀ k, k < 6 → (m.1 T (b + k)).toInt64 = B k) (cA : CP A) (cB : CP B) (hx : -100000 ≤ x.toInt ∧ x.toInt ≤ 100000) (hy : -100000 ≤ y.toInt ∧ y.toInt ≤ 100000) (h0 : ∀ m', cvF O m m' → ins A B x.toInt64 y.toInt64 = false → Q (0, m')) (h1 : ∀ m', cvF O m m' → m'.2.1 O j = edg A B x.toInt64 y.toInt64 → (∀ c, c ≠ j → m'.2.1 O c = m.2.1 O c) → ins A B x.toInt64 y.toInt64 = true → zok (K m') Q) : zok (cvS (sh0 W H) O (nI a) (nI b) j x y m K) Q := by
  have o1 := hO.1
  unfold cvS
  rw [zoS_h o1, zob_h (e_edgeC hO ha hb hA hB cA cB hx hy), zoS_h o1, zoL_e]
  dsimp only
  generalize hE : edg A B x.toInt64 y.toInt64 = E at *
  generalize hm : mL m O j E = m1
  have f1 : cvF O m m1 := by rw [← hm]; exact cvF_L (by omega)
  have v1 : m1.2.1 O j = E := by rw [← hm, mLs]
  have v2 : ∀ c, c ≠ j → m1.2.1 O c = m.2.1 O c := fun c hc => by rw [← hm, mLo hc]
  have hI : ins A B x.toInt64 y.toInt64 = (decide (0 < E.toInt) || (decide (E.toInt = 0) && owE A B)) := by rw [ins_ow, hE]
  have z0 : (0 : Int64).toInt = 0 := rfl
  rw [zoS_h o1, v1]
  by_cases c1 : E.toInt < 0
  · rw [if_pos (lgc_lt2.mpr (by rw [z0]; exact c1))]
    exact zok_s (h0 m1 f1 (by rw [hI, decide_eq_false (by omega), decide_eq_false (by omega)]; rfl))
  rw [if_neg (fun q => c1 (by have := lgc_lt2.mp q; rw [z0] at this; exact this)), zoS_h o1]
  by_cases c2 : E.toInt = 0
  · rw [if_pos (lgc_eq.mpr (by rw [z0]; exact c2)), zoS_h o1]
    have hO1 := pcT_v hO f1
    rw [zob_h (e_ownsC (A := A) (B := B) hO1 ha hb (fun k hk => by rw [f1.1]; exact hA k hk) (fun k hk => by rw [f1.1]; exact hB k hk))]
    dsimp only
    cases ho : owE A B with
    | false =>
      rw [if_pos (show b32 false = 0 from rfl)]
      exact zok_s (h0 m1 f1 (by rw [hI, ho, decide_eq_false (by omega), Bool.and_false]; rfl))
    | true =>
      rw [if_neg (show ¬ b32 true = 0 by decide)]
      exact h1 m1 f1 v1 v2 (by rw [hI, ho, decide_eq_true c2]; exact Bool.or_true _)
  · rw [if_neg (fun q => c2 (by have := lgc_eq.mp q; rw [z0] at this; exact this))]
    exact h1 m1 f1 v1 v2 (by rw [hI, decide_eq_true (show 0 < E.toInt by omega)]; rfl)
/-- what a piece holds of a pixel that it covers -/
def cvH (O : Nat) (A B C : Nat → Int64) (x y : Int64) (m : zMem) : Prop := m.2.1 O 2 = pW0 A B C x y ∧ m.2.1 O 3 = pW1 A B C x y ∧ m.2.1 O 4 = pW2 A B C x y ∧ m.2.1 O 5 = pHH A B C x y
theorem e_covC {m : zMem} {O T i j : Nat} {A B C : Nat → Int64} (hO : pcT W H O T m) (hT : tri (m.1 T) A B C) (cA : CP A) (cB : CP B) (cC : CP C) (hi : i < 100) (hj : j < 100) : zok (F_XPiece_covers (sh0 W H) m O (nI i) (nI j)) (fun q => q.1 = b32 (cov A B C (cX i) (cX j)) ∧ cvF O m q.2 ∧ (cov A B C (cX i) (cX j) = true → cvH O A B C (cX i) (cX j) q.2)) := by
  rw [cov_cv]
  have hx : (16 * nI i + 8 : Int32).toInt = 16 * i + 8 := by
    rw [show (16 : Int32) = nI 16 from rfl, nI_mul, show (8 : Int32) = nI 8 from rfl, nI_pp, nI_toInt (by omega)]; omega
  have hy : (16 * nI j + 8 : Int32).toInt = 16 * j + 8 := by
    rw [show (16 : Int32) = nI 16 from rfl, nI_mul, show (8 : Int32) = nI 8 from rfl, nI_pp, nI_toInt (by omega)]; omega
  have X : (16 * nI i + 8 : Int32).toInt64 = cX i := rfl
  have Y : (16 * nI j + 8 : Int32).toInt64 = cX j := rfl
  generalize (16 * nI i + 8 : Int32) = x at *
  generalize (16 * nI j + 8 : Int32) = y at *
  generalize cX i = x' at *
  generalize cX j = y' at *
  have bx : -100000 ≤ x.toInt ∧ x.toInt ≤ 100000 := by omega
  have by_ : -100000 ≤ y.toInt ∧ y.toInt ≤ 100000 := by omega
  have tA : ∀ (m' : zMem), cvF O m m' → ∀ k, k < 6 → (m'.1 T (0 + k)).toInt64 = A k := fun m' h k hk => by rw [h.1, Nat.zero_add]; exact (hT k hk).1
  have tB : ∀ (m' : zMem), cvF O m m' → ∀ k, k < 6 → (m'.1 T (6 + k)).toInt64 = B k := fun m' h k hk => by rw [h.1]; exact (hT k hk).2.1
  have tC : ∀ (m' : zMem), cvF O m m' → ∀ k, k < 6 → (m'.1 T (12 + k)).toInt64 = C k := fun m' h k hk => by rw [h.1]; exact (hT k hk).2.2
  refine e_cvS (a := 6) (b := 12) hO (by decide) (by decide) (by decide) (tB m cvF_r) (tC m cvF_r) cB cC bx by_ (fun m1 f1 i1 => ?_) (fun m1 f1 e1 k1 i1 => ?_)
  · rw [X, Y] at i1
    have : cov A B C x' y' = false := by unfold cov; rw [i1]; rfl
    exact ⟨by rw [this]; rfl, f1, fun q => by rw [this] at q; cases q⟩
  refine e_cvS (a := 12) (b := 0) (pcT_v hO f1) (by decide) (by decide) (by decide) (tC m1 f1) (tA m1 f1) cC cA bx by_ (fun m2 f2 i2 => ?_) (fun m2 f2 e2 k2 i2 => ?_)
  · rw [X, Y] at i2
    have : cov A B C x' y' = false := by unfold cov; rw [i2, Bool.false_and, Bool.and_false]
    exact ⟨by rw [this]; rfl, cvF_t f1 f2, fun q => by rw [this] at q; cases q⟩
  have f2' := cvF_t f1 f2
  refine e_cvS (a := 0) (b := 6) (pcT_v hO f2') (by decide) (by decide) (by decide) (tA m2 f2') (tB m2 f2') cA cB bx by_ (fun m3 f3 i3 => ?_) (fun m3 f3 e3 k3 i3 => ?_)
  · rw [X, Y] at i3
    have : cov A B C x' y' = false := by unfold cov; rw [i3, Bool.and_false, Bool.and_false]
    exact ⟨by rw [this]; rfl, cvF_t f2' f3, fun q => by rw [this] at q; cases q⟩
  have f3' := cvF_t f2' f3
  rw [X, Y] at i1 i2 i3 e1 e2 e3
  have hc : cov A B C x' y' = true := by unfold cov; rw [i1, i2, i3]; rfl
  obtain ⟨q, eq, q1, q2, q3, q4, q5, q6⟩ := e_cvT (pcT_v hO f3') (by rw [f3'.1]; exact hT)
  have w2 : m3.2.1 O 2 = edg B C x' y' := by rw [k3 2 (by decide), k2 2 (by decide), e1]
  have w3 : m3.2.1 O 3 = edg C A x' y' := by rw [k3 3 (by decide), e2]
  rw [w2] at q3 q6
  rw [w3] at q4 q6
  rw [e3] at q5 q6
  exact ⟨q, eq, by rw [hc]; exact q1, cvF_t f3' q2, fun _ => ⟨q3, q4, q5, q6⟩⟩
end ZCV
