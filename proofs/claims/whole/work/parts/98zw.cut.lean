/-! PURE: the class cuts by one side -/
section ZCS
variable {W H : Nat}
theorem CB_k {w h f : Int} {j k : Nat} {p : Nat → Int64} (h0 : CB w h f j p) (hk : k < 6) : -16777216 ≤ (p k).toInt ∧ (p k).toInt ≤ 16777216 := by
  obtain ⟨a, b, c, d, e, f, _⟩ := h0
  rcases (show k = 0 ∨ k = 1 ∨ k = 2 ∨ k = 3 ∨ k = 4 ∨ k = 5 by omega) with rfl | rfl | rfl | rfl | rfl | rfl <;> omega
theorem max1 {x : Int64} (h : 1 ≤ x.toInt) : zx_maxl 1 x = x := by
  have e1 : (1 : Int64).toInt = 1 := rfl
  unfold zx_maxl
  by_cases a : lg_cmp 1 x < 0
  · rw [if_pos a]
  · rw [if_neg a]
    rw [lgc_lt2] at a
    exact i64_ext (by omega)
theorem e_putB {A B c1 c2 v j : Nat} {w h f : Int64} {p q : Nat → Int64} {m : zMem} (hAB : cAB A B) (hA : m.2.2 1121 2 = some A) (hB : m.2.2 1121 14 = some B) (h1 : c1 < 24) (h2 : c2 < 24) (hv : v < 24) (hp : ∀ k, k < 6 → (m.1 A (6 * c1 + k)).toInt64 = p k) (hq : ∀ k, k < 6 → (m.1 A (6 * c2 + k)).toInt64 = q k) (hwf : whf w h f) (hj : j < 5) (Cp : CB w.toInt h.toInt f.toInt j p) (Cq : CB w.toInt h.toInt f.toInt j q) (ha : 0 ≤ (bes w h f j p).toInt) (hb : (bes w h f j q).toInt < 0) : zok (F_XSight_putBetween (sh0 W H) m 1121 (nI (6 * c1)) (bes w h f j p) (nI (6 * c2)) (bes w h f j q) (nI (6 * v))) (pshC B v (itp p q (bes w h f j p) (bes w h f j q)) m) := by
  have bp := (bes_i (j := j) hwf Cp.1 Cp.2.1 Cp.2.2.1).2
  have bq := (bes_i (j := j) hwf Cq.1 Cq.2.1 Cq.2.2.1).2
  have Ci := CB_itp hwf hj Cp Cq ha hb
  generalize bes w h f j p = a at ha bp Ci ⊢
  generalize bes w h f j q = b at hb bq Ci ⊢
  have hs : (a - b).toInt = a.toInt - b.toInt := i64_sub (by omega) (by omega)
  have e0 : (0 : Int64).toInt = 0 := rfl
  have hI : ∀ k, k < 6 → itp (fun k => (m.1 A (6 * c1 + k)).toInt64) (fun k => (m.1 A (6 * c2 + k)).toInt64) a b k = itp p q a b k := fun k hk => itp_c (hp k hk) (hq k hk)
  unfold F_XSight_putBetween
  rw [max1 (by omega), zoL_e]
  refine zok_b (e_pb13 (W := W) (H := H) (m0 := m) hAB hA hB h1 h2 hv (fun e => by
    have := congrArg Int64.toInt e
    omega) (fun k hk => ?_) (fun k hk => ?_) 6 0 zfuel m (by decide) (zf_lt (by decide)) rfl (fun _ _ => rfl) (fun k hk => absurd hk (Nat.not_lt_zero k)) (fun _ _ => rfl)) (fun z hz => ?_)
  · have a1 := CB_k Cp hk
    have a2 := CB_k Cq hk
    rw [← hp k hk, Int32.toInt_toInt64] at a1
    rw [← hq k hk, Int32.toInt_toInt64] at a2
    apply i64_ext
    rw [Int32.toInt_toInt64, i32_sub (by omega) (by omega), i64_sub (by rw [Int32.toInt_toInt64, Int32.toInt_toInt64]; omega) (by rw [Int32.toInt_toInt64, Int32.toInt_toInt64]; omega), Int32.toInt_toInt64, Int32.toInt_toInt64]
  · rw [hI k hk]
    have := CB_k Ci hk
    exact i64_rt (by omega) (by omega)
  · exact zok_s ⟨hz.1, hz.2.1, fun k hk => by rw [hz.2.2.1 k hk, hI k hk], hz.2.2.2⟩
theorem e_cpC {A B c v : Nat} {p : Nat → Int64} {m : zMem} (nAB : A ≠ B) (hp : ∀ k, k < 6 → (m.1 A (6 * c + k)).toInt64 = p k) : pshC B v p m (mC m A B (6 * c) (6 * v) 6) := by
  rw [mC_sI]
  refine ⟨rfl, fun a ha => by rw [sI_ne ha], fun k hk => ?_, fun q hq => ?_⟩
  · rw [sI_at]
    unfold va_cpy
    rw [if_pos (by omega), show 6 * c + (6 * v + k - 6 * v) = 6 * c + k by omega, hp k hk]
  · rw [sI_at]
    unfold va_cpy
    rw [if_neg hq]
theorem arr_pC {B v : Nat} {x : Nat → Int64} {out : List (Nat → Int64)} {m m' : zMem} (h : arr (m64 (m.1 B)) out) (hv : v = out.length) (k : pshC B v x m m') : arr (m64 (m'.1 B)) (out ++ [x]) := by
  subst hv
  exact arr_push h (fun i hi => k.2.2.1 i hi) (fun q hq => by unfold m64; rw [k.2.2.2 q hq])
set_option maxHeartbeats 8000000 in
theorem e_cs16 {l : List (Nat → Int64)} {w h f : Int64} {s A B j : Nat} {m0 : zMem} (hs : gS s) (hR0 : RF m0.2.2) (h70 : m0.2.2 1121 7 = some s) (hAB : cAB A B) (hA0 : m0.2.2 1121 2 = some A) (hB0 : m0.2.2 1121 14 = some B) (hj : j < 5) (hw : (m0.1 1121 5).toInt64 = w) (hh : (m0.1 1121 6).toInt64 = h) (hf : (m0.1 (s + 23) 6).toInt64 = f) (hwf : whf w h f) (hn : l.length ≤ 13) (hn0 : m0.1 1121 3 = nI l.length) (ha : arr (m64 (m0.1 A)) l) (hCB : ∀ p, p ∈ l → CB w.toInt h.toInt f.toInt j p) : ∀ (d c fuel : Nat) (m : zMem) (out : List (Nat → Int64)) (v4 : Int64), c + d = l.length → d < fuel → m.2 = m0.2 → (∀ a, a ≠ B → m.1 a = m0.1 a) → arr (m64 (m.1 B)) out → (out ++ cutG (bes w h f j) (l.getD 0 oF) (l.drop c)).length ≤ 19 → (c < l.length → v4 = bes w h f j (l.getD c oF)) → zok (L_XSight_cutBySide_16 (sh0 W H) fuel 1121 (nI j) (bes w h f j (l.getD 0 oF)) v4 (nI out.length) (nI c) m) (fun z => z.1 = 1121 ∧ z.2.2.2.2.1 = nI (out ++ cutG (bes w h f j) (l.getD 0 oF) (l.drop c)).length ∧ z.2.2.2.2.2.2.2 = m0.2 ∧ (∀ a, a ≠ B → z.2.2.2.2.2.2.1 a = m0.1 a) ∧ arr (m64 (z.2.2.2.2.2.2.1 B)) (out ++ cutG (bes w h f j) (l.getD 0 oF) (l.drop c))) := by
  have sA := cAB_A (W := W) (H := H) hAB
  have sB := cAB_B (W := W) (H := H) hAB
  have nAB : A ≠ B := by rcases hAB with ⟨e, f⟩ | ⟨e, f⟩ <;> omega
  have nB1 : 1121 ≠ B := by rcases hAB with ⟨e, f⟩ | ⟨e, f⟩ <;> omega
  have lt := s_lt hs
  have nBs : s + 23 ≠ B := by rcases hAB with ⟨e, f⟩ | ⟨e, f⟩ <;> omega
  have mem : ∀ c, c < l.length → l.getD c oF ∈ l := fun c hc => by
    rw [List.getD_eq_getElem?_getD, List.getElem?_eq_getElem hc, Option.getD_some]
    exact List.getElem_mem hc
  intro d
  induction d with
  | zero =>
    intro c fuel m out v4 hc hf q1 q2 q3 q4 q5
    obtain ⟨fu, rfl⟩ : ∃ fu, fuel = fu + 1 := ⟨fuel - 1, by omega⟩
    rw [L_XSight_cutBySide_16, zoS_h sh_1121, q2 1121 nB1, hn0, if_pos (by rw [nI_leD (by omega) (by omega)]; omega), List.drop_eq_nil_of_le (show l.length ≤ c by omega)]
    have e : out ++ cutG (bes w h f j) (l.getD 0 oF) [] = out := List.append_nil _
    rw [e]
    exact zok_s ⟨rfl, rfl, q1, q2, q3⟩
  | succ d ih =>
    intro c fuel m out v4 hc hf' q1 q2 q3 q4 q5
    obtain ⟨fu, rfl⟩ : ∃ fu, fuel = fu + 1 := ⟨fuel - 1, by omega⟩
    have hcl : c < l.length := by omega
    have hR : RF m.2.2 := by rw [q1]; exact hR0
    have h7 : m.2.2 1121 7 = some s := by rw [q1]; exact h70
    have hA : m.2.2 1121 2 = some A := by rw [q1]; exact hA0
    have hB : m.2.2 1121 14 = some B := by rw [q1]; exact hB0
    have e21 : m.1 1121 = m0.1 1121 := q2 1121 nB1
    have eA : m.1 A = m0.1 A := q2 A nAB
    obtain rfl := q5 hcl
    have nxt : ∀ (m' : zMem) (out' : List (Nat → Int64)) (v4' : Int64) (n' : Nat), m'.2 = m0.2 → (∀ a, a ≠ B → m'.1 a = m0.1 a) → arr (m64 (m'.1 B)) out' → out' = out ++ stp (bes w h f j) (l.getD c oF) (l.getD (if c + 1 < l.length then c + 1 else 0) oF) → (c + 1 < l.length → v4' = bes w h f j (l.getD (c + 1) oF)) → n' = out'.length → zok (L_XSight_cutBySide_16 (sh0 W H) fu 1121 (nI j) (bes w h f j (l.getD 0 oF)) v4' (nI n') (nI (c + 1)) m') (fun z => z.1 = 1121 ∧ z.2.2.2.2.1 = nI (out ++ cutG (bes w h f j) (l.getD 0 oF) (l.drop c)).length ∧ z.2.2.2.2.2.2.2 = m0.2 ∧ (∀ a, a ≠ B → z.2.2.2.2.2.2.1 a = m0.1 a) ∧ arr (m64 (z.2.2.2.2.2.2.1 B)) (out ++ cutG (bes w h f j) (l.getD 0 oF) (l.drop c))) := by
      intro m' out' v4' n' t1 t2 t3 t4 t5 t6
      subst t6
      have key : out ++ cutG (bes w h f j) (l.getD 0 oF) (l.drop c) = out' ++ cutG (bes w h f j) (l.getD 0 oF) (l.drop (c + 1)) := by rw [t4, drop_c hcl, cutG_s, head_c hcl, List.append_assoc]
      rw [key] at q4 ⊢
      exact ih (c + 1) fu m' out' v4' (by omega) (by omega) t1 t2 t3 q4 t5
    have hlen : out.length + (stp (bes w h f j) (l.getD c oF) (l.getD (if c + 1 < l.length then c + 1 else 0) oF)).length ≤ 19 := by
      rw [drop_c hcl, cutG_s, head_c hcl, List.length_append, List.length_append] at q4
      omega
    rw [stp_len] at hlen
    have hout : out.length ≤ 19 := by omega
    have aC := ha c hcl
    have cC := hCB _ (mem c hcl)
    rw [L_XSight_cutBySide_16, zoS_h sh_1121, e21, hn0, if_neg (by rw [nI_leD (by omega) (by omega)]; omega), if_neg (by rw [show (24 : Int32) = nI 24 from rfl, nI_p2, i32_lt, nI_toInt (by omega), nI_toInt (by omega)]; omega), zoS_h sh_1121, nI_p1]
    by_cases hlast : l.length ≤ c + 1
    · have hdn : (if c + 1 < l.length then c + 1 else 0) = 0 := if_neg (by omega)
      have aD := ha 0 (by omega)
      have cD := hCB _ (mem 0 (by omega))
      rw [hdn] at hlen nxt
      have six : (6 : Int32) * 0 = nI (6 * 0) := rfl
      rw [if_pos (by rw [nI_leD (by omega) (by omega)]; omega), six, nI_6mul]
      generalize hP : l.getD c oF = P at nxt hlen aC cC ⊢
      generalize hQ : l.getD 0 oF = Q at nxt hlen aD cD ⊢
      by_cases ic : (bes w h f j P).toInt < 0
      · have hC : lg_cmp (bes w h f j P) 0 < 0 := lgc_lt.mpr ic
        have hC' : ¬ 0 ≤ lg_cmp (bes w h f j P) 0 := fun t => lgc_ge.mp t (by rw [i64_lt]; exact ic)
        have iP : inS (bes w h f j P) = false := by unfold inS; exact decide_eq_false (by omega)
        rw [if_pos hC, if_pos hC, if_neg hC']
        by_cases id : (bes w h f j Q).toInt < 0
        · have iQ : inS (bes w h f j Q) = false := by unfold inS; exact decide_eq_false (by omega)
          have e : stp (bes w h f j) P Q = [] := by unfold stp; rw [iP, iQ]; rfl
          rw [if_pos (lgc_lt.mpr id)]
          exact nxt m out _ _ q1 q2 q3 (by rw [e, List.append_nil]) (fun t => absurd t (by omega)) rfl
        · have iQ : inS (bes w h f j Q) = true := by unfold inS; exact decide_eq_true (by omega)
          have e : stp (bes w h f j) P Q = [itp Q P (bes w h f j Q) (bes w h f j P)] := by unfold stp; rw [iP, iQ]; rfl
          have lo : out.length + 1 ≤ 19 := by
            rw [iP, iQ] at hlen
            exact hlen
          rw [if_neg (fun t => id (lgc_lt.mp t)), zoS_h sh_1121, nI_6mul, nI_p1]
          refine zok_b (e_putB (W := W) (H := H) (m := m) (c1 := 0) (c2 := c) (v := out.length) (p := Q) (q := P) hAB hA hB (by omega) (by omega) (by omega) (fun k hk => by rw [eA]; exact aD k hk) (fun k hk => by rw [eA]; exact aC k hk) hwf hj cD cC (by omega) ic) (fun z hz => ?_)
          exact nxt z _ _ _ (hz.1.trans q1) (fun a ha' => (hz.2.1 a ha').trans (q2 a ha')) (arr_pC q3 rfl hz) (by rw [e]) (fun t => absurd t (by omega)) (by rw [List.length_append]; rfl)
      · have hC : ¬ lg_cmp (bes w h f j P) 0 < 0 := fun t => ic (lgc_lt.mp t)
        have hC' : 0 ≤ lg_cmp (bes w h f j P) 0 := lgc_ge.mpr (by rw [i64_lt]; exact ic)
        have iP : inS (bes w h f j P) = true := by unfold inS; exact decide_eq_true (by omega)
        have lo : out.length + 1 ≤ 19 := by
          rw [iP] at hlen
          have : nI1 true = 1 := rfl
          omega
        have hcp := e_cpC (m := m) (A := A) (B := B) (c := c) (v := out.length) (p := P) nAB (fun k hk => by rw [eA]; exact aC k hk)
        rw [if_neg hC, zoS_h sh_1121, zob_h hA, zoS_h sh_1121, zob_h hB, nI_6mul, zoL_e, zoL_e, zoS_h sA, zoS_h sB, if_pos (by rw [nI_cl (n := 6 * c) (by omega), nI_cl (n := 6 * out.length) (by omega)]; exact ⟨nI_pos (by omega), nI_pos (by omega), by decide, by show 6 * c + 6 ≤ 144; omega, by show 6 * out.length + 6 ≤ 144; omega⟩), nI_cl (n := 6 * c) (by omega), nI_cl (n := 6 * out.length) (by omega), show (6 : Int32).toNatClampNeg = 6 from rfl, zoL_e, if_neg hC]
        generalize mC m A B (6 * c) (6 * out.length) 6 = m2 at hcp ⊢
        have t1 : m2.2 = m0.2 := hcp.1.trans q1
        have t2 : ∀ a, a ≠ B → m2.1 a = m0.1 a := fun a ha' => (hcp.2.1 a ha').trans (q2 a ha')
        have t3 : arr (m64 (m2.1 B)) (out ++ [P]) := arr_pC q3 rfl hcp
        have l1 : (out ++ [P]).length = out.length + 1 := List.length_append
        by_cases id : (bes w h f j Q).toInt < 0
        · have iQ : inS (bes w h f j Q) = false := by unfold inS; exact decide_eq_false (by omega)
          have e : stp (bes w h f j) P Q = [P, itp P Q (bes w h f j P) (bes w h f j Q)] := by unfold stp; rw [iP, iQ]; rfl
          have lo2 : out.length + 2 ≤ 19 := by
            rw [iP, iQ] at hlen
            exact hlen
          rw [if_neg (fun t => lgc_ge.mp t (by rw [i64_lt]; exact id)), zoS_h sh_1121, nI_p1, nI_6mul, nI_p1]
          refine zok_b (e_putB (W := W) (H := H) (m := m2) (c1 := c) (c2 := 0) (v := out.length + 1) (p := P) (q := Q) hAB (by rw [t1]; exact hA0) (by rw [t1]; exact hB0) (by omega) (by omega) (by omega) (fun k hk => by rw [t2 A nAB]; exact aC k hk) (fun k hk => by rw [t2 A nAB]; exact aD k hk) hwf hj cC cD (by omega) id) (fun z hz => ?_)
          exact nxt z _ _ _ (hz.1.trans t1) (fun a ha' => (hz.2.1 a ha').trans (t2 a ha')) (arr_pC t3 l1.symm hz) (by rw [e, List.append_assoc]; rfl) (fun t => absurd t (by omega)) (by rw [List.length_append, l1]; rfl)
        · have iQ : inS (bes w h f j Q) = true := by unfold inS; exact decide_eq_true (by omega)
          have e : stp (bes w h f j) P Q = [P] := by unfold stp; rw [iP, iQ]; rfl
          rw [if_pos (lgc_ge.mpr (by rw [i64_lt]; exact id)), if_pos hC', nI_p1]
          exact nxt m2 _ _ _ t1 t2 t3 (by rw [e]) (fun t => absurd t (by omega)) l1.symm
    · have hdn : (if c + 1 < l.length then c + 1 else 0) = c + 1 := if_pos (by omega)
      have aD := ha (c + 1) (by omega)
      have cD := hCB _ (mem (c + 1) (by omega))
      rw [hdn] at hlen nxt
      have hsd := e_side (W := W) (H := H) (m := m) (c := c + 1) hs hR h7 hAB hA hj (by omega)
      rw [e21, q2 _ nBs, hw, hh, hf, bes_c (q := l.getD (c + 1) oF) (fun k hk => by rw [eA]; exact aD k (by omega))] at hsd
      rw [if_neg (by rw [nI_leD (by omega) (by omega)]; omega), zoL_e, if_neg (by rw [show (0 : Int32) = nI 0 from rfl, nI_eqD (by omega) (by decide)]; omega), zoS_h sh_1121, zob_h hsd, nI_6mul, nI_6mul]
      dsimp only
      generalize hP : l.getD c oF = P at nxt hlen aC cC ⊢
      generalize hQ : l.getD (c + 1) oF = Q at nxt hlen aD cD ⊢
      by_cases ic : (bes w h f j P).toInt < 0
      · have hC : lg_cmp (bes w h f j P) 0 < 0 := lgc_lt.mpr ic
        have hC' : ¬ 0 ≤ lg_cmp (bes w h f j P) 0 := fun t => lgc_ge.mp t (by rw [i64_lt]; exact ic)
        have iP : inS (bes w h f j P) = false := by unfold inS; exact decide_eq_false (by omega)
        rw [if_pos hC, if_pos hC, if_neg hC']
        by_cases id : (bes w h f j Q).toInt < 0
        · have iQ : inS (bes w h f j Q) = false := by unfold inS; exact decide_eq_false (by omega)
          have e : stp (bes w h f j) P Q = [] := by unfold stp; rw [iP, iQ]; rfl
          rw [if_pos (lgc_lt.mpr id)]
          exact nxt m out _ _ q1 q2 q3 (by rw [e, List.append_nil]) (fun t => by rfl) rfl
        · have iQ : inS (bes w h f j Q) = true := by unfold inS; exact decide_eq_true (by omega)
          have e : stp (bes w h f j) P Q = [itp Q P (bes w h f j Q) (bes w h f j P)] := by unfold stp; rw [iP, iQ]; rfl
          have lo : out.length + 1 ≤ 19 := by
            rw [iP, iQ] at hlen
            exact hlen
          rw [if_neg (fun t => id (lgc_lt.mp t)), zoS_h sh_1121, nI_6mul, nI_p1]
          refine zok_b (e_putB (W := W) (H := H) (m := m) (c1 := (c + 1)) (c2 := c) (v := out.length) (p := Q) (q := P) hAB hA hB (by omega) (by omega) (by omega) (fun k hk => by rw [eA]; exact aD k hk) (fun k hk => by rw [eA]; exact aC k hk) hwf hj cD cC (by omega) ic) (fun z hz => ?_)
          exact nxt z _ _ _ (hz.1.trans q1) (fun a ha' => (hz.2.1 a ha').trans (q2 a ha')) (arr_pC q3 rfl hz) (by rw [e]) (fun t => by rfl) (by rw [List.length_append]; rfl)
      · have hC : ¬ lg_cmp (bes w h f j P) 0 < 0 := fun t => ic (lgc_lt.mp t)
        have hC' : 0 ≤ lg_cmp (bes w h f j P) 0 := lgc_ge.mpr (by rw [i64_lt]; exact ic)
        have iP : inS (bes w h f j P) = true := by unfold inS; exact decide_eq_true (by omega)
        have lo : out.length + 1 ≤ 19 := by
          rw [iP] at hlen
          have : nI1 true = 1 := rfl
          omega
        have hcp := e_cpC (m := m) (A := A) (B := B) (c := c) (v := out.length) (p := P) nAB (fun k hk => by rw [eA]; exact aC k hk)
        rw [if_neg hC, zoS_h sh_1121, zob_h hA, zoS_h sh_1121, zob_h hB, nI_6mul, zoL_e, zoL_e, zoS_h sA, zoS_h sB, if_pos (by rw [nI_cl (n := 6 * c) (by omega), nI_cl (n := 6 * out.length) (by omega)]; exact ⟨nI_pos (by omega), nI_pos (by omega), by decide, by show 6 * c + 6 ≤ 144; omega, by show 6 * out.length + 6 ≤ 144; omega⟩), nI_cl (n := 6 * c) (by omega), nI_cl (n := 6 * out.length) (by omega), show (6 : Int32).toNatClampNeg = 6 from rfl, zoL_e, if_neg hC]
        generalize mC m A B (6 * c) (6 * out.length) 6 = m2 at hcp ⊢
        have t1 : m2.2 = m0.2 := hcp.1.trans q1
        have t2 : ∀ a, a ≠ B → m2.1 a = m0.1 a := fun a ha' => (hcp.2.1 a ha').trans (q2 a ha')
        have t3 : arr (m64 (m2.1 B)) (out ++ [P]) := arr_pC q3 rfl hcp
        have l1 : (out ++ [P]).length = out.length + 1 := List.length_append
        by_cases id : (bes w h f j Q).toInt < 0
        · have iQ : inS (bes w h f j Q) = false := by unfold inS; exact decide_eq_false (by omega)
          have e : stp (bes w h f j) P Q = [P, itp P Q (bes w h f j P) (bes w h f j Q)] := by unfold stp; rw [iP, iQ]; rfl
          have lo2 : out.length + 2 ≤ 19 := by
            rw [iP, iQ] at hlen
            exact hlen
          rw [if_neg (fun t => lgc_ge.mp t (by rw [i64_lt]; exact id)), zoS_h sh_1121, nI_p1, nI_6mul, nI_p1]
          refine zok_b (e_putB (W := W) (H := H) (m := m2) (c1 := c) (c2 := (c + 1)) (v := out.length + 1) (p := P) (q := Q) hAB (by rw [t1]; exact hA0) (by rw [t1]; exact hB0) (by omega) (by omega) (by omega) (fun k hk => by rw [t2 A nAB]; exact aC k hk) (fun k hk => by rw [t2 A nAB]; exact aD k hk) hwf hj cC cD (by omega) id) (fun z hz => ?_)
          exact nxt z _ _ _ (hz.1.trans t1) (fun a ha' => (hz.2.1 a ha').trans (t2 a ha')) (arr_pC t3 l1.symm hz) (by rw [e, List.append_assoc]; rfl) (fun t => by rfl) (by rw [List.length_append, l1]; rfl)
        · have iQ : inS (bes w h f j Q) = true := by unfold inS; exact decide_eq_true (by omega)
          have e : stp (bes w h f j) P Q = [P] := by unfold stp; rw [iP, iQ]; rfl
          rw [if_pos (lgc_ge.mpr (by rw [i64_lt]; exact id)), if_pos hC', nI_p1]
          exact nxt m2 _ _ _ t1 t2 t3 (by rw [e]) (fun t => by rfl) l1.symm
end ZCS
