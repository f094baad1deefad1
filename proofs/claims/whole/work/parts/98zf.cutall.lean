/-! PURE: the reference's cut whole -/
section ZCA
variable {W H : Nat}
theorem cutG_s {S : (Nat → Int64) → Int64} {f p : Nat → Int64} {t : List (Nat → Int64)} : cutG S f (p :: t) = stp S p (t.headD f) ++ cutG S f t := by
  cases t with
  | nil => rw [cutG_1]; exact (List.append_nil _).symm
  | cons q t => rfl
theorem arr_push {A B : Nat → Int64} {out : List (Nat → Int64)} {y : Nat → Int64} (h : arr A out) (h1 : ∀ k, k < 6 → B (6 * out.length + k) = y k) (h2 : ∀ q, ¬ (6 * out.length ≤ q ∧ q < 6 * out.length + 6) → B q = A q) : arr B (out ++ [y]) := by
  intro c hc k hk
  rw [List.length_append] at hc
  have hc : c < out.length + 1 := hc
  by_cases e : c = out.length
  · rw [e, h1 k hk]
    simp [List.getD_eq_getElem?_getD]
  · rw [h2 _ (by omega), h c (by omega) k hk]
    rw [List.getD_eq_getElem?_getD, List.getD_eq_getElem?_getD, List.getElem?_append_left (by omega)]
theorem nxt_i : ∀ n : Fin 21, ∀ c : Fin 21, c.val < n.val → (nI c.val + 1) - (nI c.val + 1) / nI n.val * nI n.val = nI (if c.val + 1 < n.val then c.val + 1 else 0) := by decide +kernel
theorem drop_c {l : List (Nat → Int64)} {c : Nat} (h : c < l.length) : l.drop c = l.getD c oF :: l.drop (c + 1) := by
  rw [List.getD_eq_getElem?_getD, List.getElem?_eq_getElem h, Option.getD_some]
  exact List.drop_eq_getElem_cons h
theorem head_c {l : List (Nat → Int64)} {c : Nat} (h : c < l.length) : (l.drop (c + 1)).headD (l.getD 0 oF) = l.getD (if c + 1 < l.length then c + 1 else 0) oF := by
  by_cases e : c + 1 < l.length
  · rw [if_pos e, drop_c e]
    rfl
  · rw [if_neg e, List.drop_eq_nil_of_le (by omega)]
    rfl
theorem itp_c {p q p' q' : Nat → Int64} {a b : Int64} {k : Nat} (h1 : p k = p' k) (h2 : q k = q' k) : itp p q a b k = itp p' q' a b k := by
  unfold itp
  rw [h1, h2]
set_option maxHeartbeats 8000000 in
theorem e_cb32 {l : List (Nat → Int64)} {S : (Nat → Int64) → Int64} {m0 : zMem} (hR0 : RF m0.2.2) (hn : l.length ≤ 20) (hn0 : m0.1 1285 26 = nI l.length) (ha : arr (m0.2.1 1295) l) (hS : ∀ c, c < l.length → m0.2.1 1297 c = S (l.getD c oF)) (hSb : ∀ c, c < l.length → -9395240960 ≤ (S (l.getD c oF)).toInt ∧ (S (l.getD c oF)).toInt ≤ 9395240960) : ∀ (d c fuel : Nat) (m : zMem) (out : List (Nat → Int64)), c + d = l.length → d < fuel → frm [] [1296] m0 m → arr (m.2.1 1296) out → (out ++ cutG S (l.getD 0 oF) (l.drop c)).length ≤ 19 → zok (L_MPainter_cutBy_32 (sh0 W H) fuel 1285 (nI out.length) (nI c) m) (fun q => q.1 = 1285 ∧ q.2.1 = nI (out ++ cutG S (l.getD 0 oF) (l.drop c)).length ∧ frm [] [1296] m0 q.2.2.2 ∧ arr (q.2.2.2.2.1 1296) (out ++ cutG S (l.getD 0 oF) (l.drop c))) := by
  intro d
  induction d with
  | zero =>
    intro c fuel m out hc hf h1 h2 h3
    obtain ⟨fu, rfl⟩ : ∃ fu, fuel = fu + 1 := ⟨fuel - 1, by omega⟩
    rw [L_MPainter_cutBy_32, zoS_h sh_1285, h1.2.1 1285 (by simp), hn0, if_pos (by rw [nI_leD (by omega) (by omega)]; omega), List.drop_eq_nil_of_le (show l.length ≤ c by omega)]
    have e : out ++ cutG S (l.getD 0 oF) [] = out := List.append_nil _
    rw [e]
    exact zok_s ⟨rfl, rfl, h1, h2⟩
  | succ d ih =>
    intro c fuel m out hc hf h1 h2 h3
    obtain ⟨fu, rfl⟩ : ∃ fu, fuel = fu + 1 := ⟨fuel - 1, by omega⟩
    have hcl : c < l.length := by omega
    have hR : RF m.2.2 := by rw [h1.1]; exact hR0
    have e95 : m.2.1 1295 = m0.2.1 1295 := h1.2.2 1295 (by simp)
    have e97 : m.2.1 1297 = m0.2.1 1297 := h1.2.2 1297 (by simp)
    rw [drop_c hcl, cutG_s, head_c hcl] at h3 ⊢
    have hdn : (if c + 1 < l.length then c + 1 else 0) < l.length := by split <;> omega
    have hx := nxt_i ⟨l.length, by omega⟩ ⟨c, by omega⟩ hcl
    dsimp only at hx
    generalize (if c + 1 < l.length then c + 1 else 0) = dn at hdn hx h3 ⊢
    have sC := hS c hcl
    have sD := hS dn hdn
    have bC := hSb c hcl
    have bD := hSb dn hdn
    have aC := ha c hcl
    have aD := ha dn hdn
    generalize l.getD c oF = P at sC bC aC h3 ⊢
    generalize l.getD dn oF = Q at sD bD aD h3 ⊢
    have cc := nI_cl (show c < 2147483648 by omega)
    have cd := nI_cl (show dn < 2147483648 by omega)
    have hl1 : (stp S P Q).length = nI1 (inS (S P)) + (if inS (S P) = inS (S Q) then 0 else 1) := stp_len
    rw [List.length_append, List.length_append] at h3
    have ne0 : ¬ nI l.length = 0 := by rw [show (0 : Int32) = nI 0 from rfl, nI_eqD (by omega) (by decide)]; omega
    rw [L_MPainter_cutBy_32, zoS_h sh_1285, h1.2.1 1285 (by simp), hn0, if_neg (by rw [nI_leD (by omega) (by omega)]; omega), zoS_h sh_1285, if_neg ne0, zoL_e, hx, nI_p1, zoS_h sh_1285, zob_h (rf_1285_25 hR), zoS_h sh_1297, nI_ix (by omega) (by decide)]
    by_cases ic : (S P).toInt < 0
    · have hC : lg_cmp (m.2.1 1297 (nI c).toNatClampNeg) 0 < 0 := by rw [cc, e97, sC]; exact lgc_lt.mpr ic
      have iP : inS (S P) = false := by unfold inS; exact decide_eq_false (by omega)
      rw [if_pos hC, zoS_h sh_1285, zob_h (rf_1285_25 hR), zoS_h sh_1297, nI_ix (by omega) (by decide), if_pos hC, zoS_h sh_1285, zob_h (rf_1285_25 hR), zoS_h sh_1297, nI_ix (by omega) (by decide)]
      by_cases id : (S Q).toInt < 0
      · have hD : lg_cmp (m.2.1 1297 (nI dn).toNatClampNeg) 0 < 0 := by rw [cd, e97, sD]; exact lgc_lt.mpr id
        have iQ : inS (S Q) = false := by unfold inS; exact decide_eq_false (by omega)
        have e : stp S P Q = [] := by unfold stp; rw [iP, iQ]; rfl
        rw [if_pos hD, e, List.nil_append]
        rw [e] at h3
        exact ih (c + 1) fu m out (by omega) (by omega) h1 h2 (by rw [List.length_append]; simpa using h3)
      · have hD : ¬ lg_cmp (m.2.1 1297 (nI dn).toNatClampNeg) 0 < 0 := by rw [cd, e97, sD]; exact fun q => id (lgc_lt.mp q)
        have iQ : inS (S Q) = true := by unfold inS; exact decide_eq_true (by omega)
        have e : stp S P Q = [itp Q P (S Q) (S P)] := by unfold stp; rw [iP, iQ]; rfl
        rw [e] at h3
        have h3' : out.length + (1 + (cutG S (l.getD 0 oF) (l.drop (c + 1))).length) ≤ 19 := h3
        rw [if_neg hD, zoS_h sh_1285, zob_h (rf_1285_25 hR), zoS_h sh_1297, nI_ix (by omega) (by decide), if_pos hC, zoS_h sh_1285, zob_h (rf_1285_25 hR), zoS_h sh_1297, nI_ix (by omega) (by decide), if_pos hC, e]
        have hne : m.2.1 1297 dn - m.2.1 1297 c ≠ 0 := by
          rw [e97, sC, sD]
          intro q
          have := congrArg Int64.toInt q
          rw [i64_sub (by omega) (by omega)] at this
          have e0 : (0 : Int64).toInt = 0 := rfl
          omega
        refine zok_b (e_cb181 (W := W) (H := H) (v := out.length) (c := c) (p := dn) (q := c) (m0 := m) hR (by omega) (by omega) (by omega) hne 6 0 zfuel m (by decide) (zf_lt (by decide)) frm_r (fun k hk => by omega) (fun _ _ => rfl)) (fun z hz => ?_)
        obtain ⟨z1, z2, z3, z4, z5, z6⟩ := hz
        rw [z1, z2, z3, nI_p1, nI_p1]
        have := ih (c + 1) fu z.2.2.2.2.2.2 (out ++ [itp Q P (S Q) (S P)]) (by omega) (by omega) ⟨z4.1.trans h1.1, fun k hk => (z4.2.1 k hk).trans (h1.2.1 k hk), fun k hk => (z4.2.2 k hk).trans (h1.2.2 k hk)⟩ (arr_push h2 (fun k hk => by rw [z5 k hk, e97, e95, sC, sD]; exact itp_c (aD k hk) (aC k hk)) z6) (by rw [List.length_append, List.length_append]; show out.length + 1 + _ ≤ 19; omega)
        rw [List.append_assoc, List.length_append (as := out), show [itp Q P (S Q) (S P)].length = 1 from rfl] at this
        exact this
    · have hC : ¬ lg_cmp (m.2.1 1297 (nI c).toNatClampNeg) 0 < 0 := by rw [cc, e97, sC]; exact fun q => ic (lgc_lt.mp q)
      have iP : inS (S P) = true := by unfold inS; exact decide_eq_true (by omega)
      rw [if_neg hC]
      have hout : out.length < 19 := by
        rw [hl1, iP] at h3
        have : nI1 true = 1 := rfl
        omega
      refine zok_b (e_cb64 (W := W) (H := H) (v := out.length) (c := c) (x := nI dn) (m0 := m) hR (by omega) (by omega) 6 0 zfuel m (by decide) (zf_lt (by decide)) frm_r (fun k hk => by omega) (fun _ _ => rfl)) (fun z hz => ?_)
      obtain ⟨z0, y2, y3, y4, y5, m2⟩ := z
      obtain ⟨z1, z2, z3, z4', z4, z5, z6⟩ := hz
      simp only at z1 z2 z3 z4' z4 z5 z6
      subst z1 z2 z3 z4'
      have hR2 : RF m2.2.2 := by rw [z4.1]; exact hR
      have f97 : m2.2.1 1297 = m0.2.1 1297 := (z4.2.2 1297 (by simp)).trans e97
      have f95 : m2.2.1 1295 = m0.2.1 1295 := (z4.2.2 1295 (by simp)).trans e95
      have hf2 : frm [] [1296] m0 m2 := ⟨z4.1.trans h1.1, fun k hk => (z4.2.1 k hk).trans (h1.2.1 k hk), fun k hk => (z4.2.2 k hk).trans (h1.2.2 k hk)⟩
      have ha2 : arr (m2.2.1 1296) (out ++ [P]) := arr_push h2 (fun k hk => by rw [z5 k hk, e95]; exact aC k hk) z6
      have hC2 : ¬ lg_cmp (m2.2.1 1297 (nI c).toNatClampNeg) 0 < 0 := by rw [cc, f97, sC]; exact fun q => ic (lgc_lt.mp q)
      have hlen : (out ++ [P]).length = out.length + 1 := List.length_append
      dsimp only
      rw [zoS_h sh_1285, zob_h (rf_1285_25 hR2), zoS_h sh_1297, nI_ix (by omega) (by decide), if_neg hC2, zoS_h sh_1285, zob_h (rf_1285_25 hR2), zoS_h sh_1297, nI_ix (by omega) (by decide), nI_p1]
      by_cases id : (S Q).toInt < 0
      · have hD : lg_cmp (m2.2.1 1297 (nI dn).toNatClampNeg) 0 < 0 := by rw [cd, f97, sD]; exact lgc_lt.mpr id
        have iQ : inS (S Q) = false := by unfold inS; exact decide_eq_false (by omega)
        have e : stp S P Q = [P, itp P Q (S P) (S Q)] := by unfold stp; rw [iP, iQ]; rfl
        rw [e] at h3
        have h3' : out.length + (2 + (cutG S (l.getD 0 oF) (l.drop (c + 1))).length) ≤ 19 := h3
        rw [if_pos hD, zoS_h sh_1285, zob_h (rf_1285_25 hR2), zoS_h sh_1297, nI_ix (by omega) (by decide), if_neg hC2, zoS_h sh_1285, zob_h (rf_1285_25 hR2), zoS_h sh_1297, nI_ix (by omega) (by decide), if_neg hC2, e]
        have hne : m2.2.1 1297 c - m2.2.1 1297 dn ≠ 0 := by
          rw [f97, sC, sD]
          intro q
          have := congrArg Int64.toInt q
          rw [i64_sub (by omega) (by omega)] at this
          have e0 : (0 : Int64).toInt = 0 := rfl
          omega
        refine zok_b (e_cb181 (W := W) (H := H) (v := out.length + 1) (c := c) (p := c) (q := dn) (m0 := m2) hR2 (by omega) (by omega) (by omega) hne 6 0 zfuel m2 (by decide) (zf_lt (by decide)) frm_r (fun k hk => by omega) (fun _ _ => rfl)) (fun z hz => ?_)
        obtain ⟨u1, u2, u3, u4, u5, u6⟩ := hz
        rw [u1, u2, u3, nI_p1, nI_p1]
        have := ih (c + 1) fu z.2.2.2.2.2.2 (out ++ [P] ++ [itp P Q (S P) (S Q)]) (by omega) (by omega) ⟨u4.1.trans hf2.1, fun k hk => (u4.2.1 k hk).trans (hf2.2.1 k hk), fun k hk => (u4.2.2 k hk).trans (hf2.2.2 k hk)⟩ (arr_push ha2 (fun k hk => by rw [hlen, u5 k hk, f97, f95, sC, sD]; exact itp_c (aC k hk) (aD k hk)) (by rw [hlen]; exact u6)) (by rw [List.length_append, List.length_append, hlen]; show out.length + 1 + 1 + _ ≤ 19; omega)
        rw [List.append_assoc, List.append_assoc, List.length_append (as := out), show ([P] ++ [itp P Q (S P) (S Q)]).length = 2 from rfl] at this
        exact this
      · have hD : ¬ lg_cmp (m2.2.1 1297 (nI dn).toNatClampNeg) 0 < 0 := by rw [cd, f97, sD]; exact fun q => id (lgc_lt.mp q)
        have iQ : inS (S Q) = true := by unfold inS; exact decide_eq_true (by omega)
        have e : stp S P Q = [P] := by unfold stp; rw [iP, iQ]; rfl
        rw [e] at h3
        have h3' : out.length + (1 + (cutG S (l.getD 0 oF) (l.drop (c + 1))).length) ≤ 19 := h3
        rw [if_neg hD, e, nI_p1]
        have := ih (c + 1) fu m2 (out ++ [P]) (by omega) (by omega) hf2 ha2 (by rw [List.length_append, hlen]; omega)
        rw [List.append_assoc, hlen] at this
        exact this
theorem e_cb293 {n : Nat} {m0 : zMem} (hR0 : RF m0.2.2) (hn : n ≤ 19) : ∀ (d k fuel : Nat) (m : zMem), k + d = 6 * n → d < fuel → frm [] [1295] m0 m → (∀ q, q < k → m.2.1 1295 q = m0.2.1 1296 q) → zok (L_MPainter_cutBy_293 (sh0 W H) fuel 1285 (nI n) (nI k) m) (fun q => frm [] [1295] m0 q.2.2.2 ∧ ∀ x, x < 6 * n → q.2.2.2.2.1 1295 x = m0.2.1 1296 x) := by
  have g0 : 6 * nI n = nI (6 * n) := by rw [show (6 : Int32) = nI 6 from rfl, nI_mul]
  intro d
  induction d with
  | zero =>
    intro k fuel m hk hf h1 h2
    obtain ⟨fu, rfl⟩ : ∃ fu, fuel = fu + 1 := ⟨fuel - 1, by omega⟩
    rw [L_MPainter_cutBy_293, g0, if_pos (by rw [nI_leD (by omega) (by omega)]; omega)]
    exact zok_s ⟨h1, fun x hx => h2 x (by omega)⟩
  | succ d ih =>
    intro k fuel m hk hf h1 h2
    obtain ⟨fu, rfl⟩ : ∃ fu, fuel = fu + 1 := ⟨fuel - 1, by omega⟩
    have hR : RF m.2.2 := by rw [h1.1]; exact hR0
    rw [L_MPainter_cutBy_293, g0, if_neg (by rw [nI_leD (by omega) (by omega)]; omega), zoS_h sh_1285, zob_h (rf_1285_23 hR), zoS_h sh_1285, zob_h (rf_1285_24 hR), zoS_h sh_1296, nI_ix (by omega) (by decide), zoL_e, zoS_h sh_1295, nI_ix (by omega) (by decide), nI_cl (by omega), zoL_e, nI_p1, h1.2.2 1296 (by simp)]
    refine ih (k + 1) fu _ (by omega) (by omega) ⟨h1.1, h1.2.1, fun x hx => by rw [mL_o (by simpa using hx)]; exact h1.2.2 x hx⟩ (fun q hq => ?_)
    rw [mL_v, if_pos rfl]
    by_cases e : q = k
    · rw [if_pos e, e]
    · rw [if_neg e]
      exact h2 q (by omega)
/-- a cut, in the memory -/
theorem e_cutBy {r j : Nat} {l : List (Nat → Int64)} {m : zMem} {w h f : Int64} (hr : gM r) (hR : RF m.2.2) (hs : m.2.2 1285 5 = some r) (hj : j < 5) (hw : (m.1 1285 1).toInt64 = w) (hh : (m.1 1285 2).toInt64 = h) (hf : (m.1 r 34).toInt64 = f) (hwf : whf w h f) (hn : l.length ≤ 13) (hn0 : m.1 1285 26 = nI l.length) (ha : arr (m.2.1 1295) l) (hB : ∀ p, p ∈ l → CB w.toInt h.toInt f.toInt j p) : zok (F_MPainter_cutBy (sh0 W H) m 1285 (nI j)) (fun m' => frm [1285] [1295, 1296, 1297] m m' ∧ (∀ c, c ≠ 26 → m'.1 1285 c = m.1 1285 c) ∧ m'.1 1285 26 = nI (cutW (bes w h f j) l).length ∧ arr (m'.2.1 1295) (cutW (bes w h f j) l)) := by
  unfold F_MPainter_cutBy
  have mem : ∀ c, c < l.length → l.getD c oF ∈ l := fun c hc => by
    rw [List.getD_eq_getElem?_getD, List.getElem?_eq_getElem hc, Option.getD_some]
    exact List.getElem_mem hc
  refine zok_b (e_cb2 (W := W) (H := H) (m0 := m) hr hR hs hj (show l.length ≤ 20 by omega) hn0 l.length 0 zfuel m (by omega) (zf_lt (by omega)) frm_r (fun k hk => by omega)) (fun q hq => ?_)
  obtain ⟨q1, q2, q3, m1⟩ := q
  obtain ⟨p1, p2, p3⟩ := hq
  simp only at p1 p2 p3
  subst p1
  have hR1 : RF m1.2.2 := by rw [p2.1]; exact hR
  have hS : ∀ c, c < l.length → m1.2.1 1297 c = bes w h f j (l.getD c oF) := fun c hc => by
    rw [p3 c hc, hw, hh, hf]
    exact bes_c (fun k hk => ha c hc k (by omega))
  have e0 : (0 : Int32) = nI ([] : List (Nat → Int64)).length := rfl
  have hlen := cutW_len (S := bes w h f j) (l := l)
  have hcw : ([] : List (Nat → Int64)) ++ cutG (bes w h f j) (l.getD 0 oF) (l.drop 0) = cutW (bes w h f j) l := by
    cases l with
    | nil => rfl
    | cons p t => rfl
  have h32 := e_cb32 (W := W) (H := H) (l := l) (S := bes w h f j) (m0 := m1) hR1 (by omega) (by rw [p2.2.1 1285 (by simp)]; exact hn0) (by rw [p2.2.2 1295 (by simp)]; exact ha) hS (fun c hc => by
    have b := hB _ (mem c hc)
    exact (bes_i (j := j) hwf b.1 b.2.1 b.2.2.1).2) l.length 0 zfuel m1 [] (by omega) (zf_lt (by omega)) frm_r (fun c hc => absurd hc (Nat.not_lt_zero _)) (by rw [hcw]; omega)
  rw [hcw] at h32
  dsimp only
  refine zok_b (show zok (L_MPainter_cutBy_32 (sh0 W H) zfuel 1285 0 0 m1) _ from h32) (fun z hz => ?_)
  obtain ⟨z1, z2, z3, m2⟩ := z
  obtain ⟨y1, y2, y3, y4⟩ := hz
  simp only at y1 y2 y3 y4
  subst y1 y2
  have hR2 : RF m2.2.2 := by rw [y3.1]; exact hR1
  dsimp only
  rw [zoS_h sh_1285, zoL_e]
  refine zok_b (show zok (L_MPainter_cutBy_293 (sh0 W H) zfuel 1285 (nI (cutW (bes w h f j) l).length) 0 (mI m2 1285 26 (nI (cutW (bes w h f j) l).length))) _ from e_cb293 (W := W) (H := H) (n := (cutW (bes w h f j) l).length) (m0 := mI m2 1285 26 (nI (cutW (bes w h f j) l).length)) hR2 (by omega) (6 * (cutW (bes w h f j) l).length) 0 zfuel (mI m2 1285 26 (nI (cutW (bes w h f j) l).length)) (by omega) (zf_lt (by omega)) frm_r (fun q hq => by omega)) (fun x hx => ?_)
  obtain ⟨x1, x2, x3, m3⟩ := x
  obtain ⟨v1, v2⟩ := hx
  simp only at v1 v2
  dsimp only
  refine zok_s ⟨⟨?_, fun k hk => ?_, fun k hk => ?_⟩, fun c hc => ?_, ?_, fun c hc k hk => ?_⟩
  · rw [v1.1, mI_R, y3.1, p2.1]
  · rw [v1.2.1 k (by simp), mI_o (by simpa using hk), y3.2.1 k (by simp), p2.2.1 k (by simp)]
  · simp at hk
    rw [v1.2.2 k (by simp; omega)]
    show m2.2.1 k = _
    rw [y3.2.2 k (by simp; omega), p2.2.2 k (by simp; omega)]
  · rw [v1.2.1 1285 (by simp), mI_v, if_pos rfl, if_neg hc, y3.2.1 1285 (by simp), p2.2.1 1285 (by simp)]
  · rw [v1.2.1 1285 (by simp), mI_v, if_pos rfl, if_pos rfl]
  · rw [v2 _ (by omega)]
    exact y4 c hc k hk
end ZCA
