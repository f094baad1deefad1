/-! PURE: the class reads a list of numbers -/
theorem nar_b1 : vp_nar .boolean 1 = 1 := by decide
theorem nar_b0 : vp_nar .boolean 0 = 0 := by decide
theorem c_takes {W H : Nat} {mm : zMem} {n p : Nat} (h : rdS mm n p) (htok : wp (mm.1 1) n p = p) (c : Int32) : F_XReader_takes (sh0 W H) mm 3 c = some (if p < n ∧ mm.1 1 p = c then (1, rdP mm (wp (mm.1 1) n (p + 1))) else (0, mm)) := by
  have hid := rdP_id h
  unfold F_XReader_takes
  simp only [sh_3, zoS_e, c_sees h, zob_e]
  by_cases hc : p < n ∧ mm.1 1 p = c
  · rw [if_pos hc, if_pos hc]
    rw [if_neg (show ¬ (1 : Int32) = 0 by decide), show F_XReader_step (sh0 W H) mm 3 1 = _ from c_step h (show p + 1 ≤ n by omega), zob_e, nar_b1, if_pos rfl]
  · rw [if_neg hc, if_neg hc]
    rw [if_pos (show (0 : Int32) = 0 from rfl), show F_XReader_step (sh0 W H) mm 3 0 = _ from c_step h (show p + 0 ≤ n from h.2.2.2.2.2.1), zob_e, nar_b0, if_pos rfl, Nat.add_zero, htok, hid]
theorem num_ok {t : Nat → Int32} {n p q : Nat} {lo hi v : Int} (hp : p ≤ n) (h : num t n lo hi p = .ok (v, q)) : wp t n q = q ∧ q ≤ n ∧ lo ≤ v ∧ v ≤ hi := by
  unfold num at h
  by_cases hz : dg t n (nst t n p) = 0
  · rw [if_pos hz] at h
    cases h
  · rw [if_neg hz] at h
    by_cases hc : lo ≤ nval t n p ∧ nval t n p ≤ hi
    · rw [if_pos hc] at h
      have e := Except.ok.inj h
      have e1 : nval t n p = v := congrArg Prod.fst e
      have e2 : wp t n (nst t n p + dg t n (nst t n p)) = q := congrArg Prod.snd e
      have hn : nst t n p ≤ n := by
        unfold nst
        split <;> omega
      have hd := dg_2 (t := t) hn
      rw [← e2, ← e1]
      exact ⟨wp_id hd, wp_2 hd, hc⟩
    · rw [if_neg hc] at h
      cases h
/-- the loop of a list, and what follows it -/
def lpGo (t : Nat → Int32) (n : Nat) (lo hi : Int) (grow : Bool) : Nat → Int → Nat → (Nat → Int32) → Nat → Except (Nat × Nat) (Bool × Nat × (Nat → Int32) × Nat)
  | 0, _, cnt, g, p => .ok (true, cnt, g, p)
  | rem + 1, least, cnt, g, p => match num t n least hi p with
    | .error e => .error e
    | .ok (v, p1) => if p1 < n ∧ t p1 = 44 then lpGo t n lo hi grow rem (if grow then v + 1 else lo) (cnt + 1) (upd g cnt (Int32.ofInt v)) (wp t n (p1 + 1)) else .ok (false, cnt + 1, upd g cnt (Int32.ofInt v), p1)
def lpTl (t : Nat → Int32) (n unit : Nat) (a : Bool × Nat × (Nat → Int32) × Nat) : Except (Nat × Nat) (Nat × (Nat → Int32) × Nat) := if a.1 then (if dg t n (nst t n a.2.2.2) = 0 then .error (1, a.2.2.2) else .error (3, a.2.2.2)) else (fin t n unit a.2.1 a.2.2.2).map (fun p2 => (a.2.1, a.2.2.1, p2))
theorem lstGo_eq {t : Nat → Int32} {n unit : Nat} {lo hi : Int} {grow : Bool} : ∀ (rem : Nat) (least : Int) (cnt : Nat) (g : Nat → Int32) (p : Nat), lstGo t n unit lo hi grow rem least cnt g p = (lpGo t n lo hi grow rem least cnt g p).bind (lpTl t n unit) := by
  intro rem
  induction rem with
  | zero => intro least cnt g p; rfl
  | succ rem ih =>
    intro least cnt g p
    simp only [lstGo, lpGo]
    cases num t n least hi p with
    | error e => rfl
    | ok a =>
      obtain ⟨v, p1⟩ := a
      by_cases hc : p1 < n ∧ t p1 = 44
      · simp only [if_pos hc]
        exact ih _ _ _ _
      · simp only [if_neg hc]
        rfl
/-- of the class's own cells only the reader and its row may have changed -/
def rw4 (mm m : zMem) : Prop := m.2 = mm.2 ∧ ∀ a, a ≠ 3 → a ≠ 4 → m.1 a = mm.1 a
theorem rw4_r {mm : zMem} : rw4 mm mm := ⟨rfl, fun _ _ _ => rfl⟩
theorem rw4_t {a b c : zMem} (h : rw4 a b) (k : rw4 b c) : rw4 a c := ⟨k.1.trans h.1, fun x h3 h4 => (k.2 x h3 h4).trans (h.2 x h3 h4)⟩
theorem rw4_3 {mm m : zMem} {g : Nat → Int32} (h : rw4 mm m) : rw4 mm (sI m 3 g) := ⟨h.1, fun a h3 h4 => (sI_ne h3).trans (h.2 a h3 h4)⟩
theorem rw4_4 {mm m : zMem} {g : Nat → Int32} (h : rw4 mm m) : rw4 mm (sI m 4 g) := ⟨h.1, fun a h3 h4 => (sI_ne h4).trans (h.2 a h3 h4)⟩
theorem rw4_P {mm m : zMem} {q : Nat} (h : rw4 mm m) : rw4 mm (rdP m q) := rw4_3 h
theorem rw4_N {mm m : zMem} {p q : Nat} (h : rw4 mm m) : rw4 mm (rdN m p q) := rw4_3 h
theorem rw4_E {mm m m2 : zMem} {k q : Nat} (h : rw4 mm m) (e : rdE m k q m2) : rw4 mm m2 := ⟨e.2.2.1.trans h.1, fun a h3 h4 => (e.2.2.2 a h3).trans (h.2 a h3 h4)⟩
def rdW (mm : zMem) (k q : Nat) (m : zMem) : Prop := m.1 3 0 = nI k ∧ m.1 3 1 = nI q ∧ rw4 mm m
theorem rdW_E {mm m m2 : zMem} {k q : Nat} (h : rw4 mm m) (e : rdE m k q m2) : rdW mm k q m2 := ⟨e.1, e.2.1, rw4_E h e⟩
theorem rdS_4 {mm : zMem} {n p j : Nat} {v : Int32} (h : rdS mm n p) : rdS (mI mm 4 j v) n p := by
  obtain ⟨hR, h4, h5, ht, hn, hp, hz⟩ := h
  rw [mI_sI]
  exact ⟨hR, by rw [sI_ne (by decide)]; exact h4, by rw [sI_ne (by decide)]; exact h5, ht, hn, hp, by rw [sI_ne (by decide)]; exact hz⟩
theorem ofInt_toInt {x : Int32} {v : Int} (h : x.toInt = v) : Int32.ofInt v = x := by
  rw [← h]
  exact Int32.ofInt_toInt x
set_option maxHeartbeats 2000000 in
theorem c_lp {W H n most : Nat} {lo hi unit grow : Int32} {gb : Bool} (hm : most ≤ 3072) (hlo : -100000000 < lo.toInt) (hhi : hi.toInt < 100000000) (hg : grow = b32 gb) : ∀ (rem : Nat) (least : Int32) (cnt : Nat) (g : Nat → Int32) (p fuel : Nat) (mm : zMem), rem < fuel → cnt + rem = most → rdS mm n p → wp (mm.1 1) n p = p → -100000000 < least.toInt → (∀ j, j < cnt → mm.1 4 j = g j) →
    match lpGo (mm.1 1) n lo.toInt hi.toInt gb rem least.toInt cnt g p with
    | .ok a => ∃ ls m2, L_XReader_numbers_34 (sh0 W H) fuel 3 (nI most) unit lo hi grow 1 least (nI cnt) mm = some (3, nI most, unit, lo, hi, grow, b32 a.1, ls, nI a.2.1, m2) ∧ L_T_XReader_numbers_34 (sh0 W H) fuel 3 (nI most) unit lo hi grow 1 least (nI cnt) mm = some (1, 3, nI most, unit, lo, hi, grow, b32 a.1, ls, nI a.2.1, m2) ∧ rdS m2 n a.2.2.2 ∧ wp (mm.1 1) n a.2.2.2 = a.2.2.2 ∧ rw4 mm m2 ∧ a.2.1 ≤ most ∧ ∀ j, j < a.2.1 → m2.1 4 j = a.2.2.1 j
    | .error e => L_XReader_numbers_34 (sh0 W H) fuel 3 (nI most) unit lo hi grow 1 least (nI cnt) mm = none ∧ ∃ q, L_T_XReader_numbers_34 (sh0 W H) fuel 3 (nI most) unit lo hi grow 1 least (nI cnt) mm = some q ∧ q.1 = 0 ∧ rdW mm e.1 e.2 q.2.2.2.2.2.2.2.2.2.2 := by
  intro rem
  induction rem with
  | zero =>
    intro least cnt g p fuel mm hf hc h htok hl hrow
    obtain ⟨fu, rfl⟩ : ∃ fu, fuel = fu + 1 := ⟨fuel - 1, by omega⟩
    obtain rfl : cnt = most := by omega
    simp only [lpGo, L_XReader_numbers_34, L_T_XReader_numbers_34, i1ne0, Int32.le_refl, ↓reduceIte]
    exact ⟨_, _, rfl, rfl, h, htok, rw4_r, Nat.le_refl _, hrow⟩
  | succ rem ih =>
    intro least cnt g p fuel mm hf hc h htok hl hrow
    obtain ⟨fu, rfl⟩ : ∃ fu, fuel = fu + 1 := ⟨fuel - 1, by omega⟩
    have hcm : ¬ most ≤ cnt := by omega
    have hR := h.1
    have hx := c_snum (W := W) (H := H) h (lo := least) (hi := hi)
    rw [snum_eq hl hhi] at hx
    simp (disch := first | assumption | omega) only [lpGo, L_XReader_numbers_34, L_T_XReader_numbers_34, ↓zS_s0, ↓zS_s1, ↓zS_s2, ↓zS_s3, ↓zS_s20, ↓zS_s21, ↓zS_s22, ↓zS_s23, ↓zS_s24, ↓zS_s25, ↓zS_smt, ↓zS_txA, ↓zS_txA1, ↓zS_txA2, ↓zS_msA, ↓zS_msA1, ↓zS_msA2, ↓zS_msA3, ↓zS_msA4, ↓zS_ndA, ↓zS_ndA1, ↓zS_ndA2, ↓zS_tkA, ↓zS_tkA1, ↓zS_tkA2, ↓zS_0, ↓zS_1, ↓zS_2, ↓zS_3, ↓zS_4, ↓zS_5, ↓zS_6, ↓zS_7, ↓zS_8, ↓zS_9, ↓zS_10, ↓zS_1121, ↓zS_1122, ↓zS_1123, ↓zS_1124, ↓zS_1125, ↓zS_1126, ↓zS_1175, ↓zS_1176, ↓zS_1177, ↓zS_1178, ↓zS_1179, ↓zS_1180, ↓zS_1181, ↓zS_1182, ↓zS_1183, ↓zS_1184, ↓zS_1185, ↓zS_1186, ↓zS_1277, ↓zS_1278, ↓zS_1279, ↓zS_1280, ↓zS_1281, ↓zS_1282, ↓zS_1283, ↓zS_1284, ↓zS_1285, ↓zS_1302, ↓zS_1286, ↓zS_1287, ↓zS_1288, ↓zS_1289, ↓zS_1290, ↓zS_1291, ↓zS_1292, ↓zS_1293, ↓zS_1294, ↓zS_1295, ↓zS_1296, ↓zS_1297, ↓zS_1298, ↓zS_1299, ↓zS_1300, ↓zS_1301, ↓zS_sg, ↓zS_m0, ↓zS_m1, ↓zS_m2, ↓zS_m3, ↓zS_m4, ↓zS_m5, ↓zS_m6, ↓zS_m7, ↓zS_m8, ↓zS_m9, ↓zS_m10, ↓zS_m11, ↓zS_m12, ↓zS_m13, ↓zS_m14, ↓zS_m15, ↓zS_m16, ↓zS_m17, ↓zS_m18, ↓zS_m19, ↓zS_m20, ↓zS_m21, ↓zS_m22, ↓zS_m23, ↓zS_m24, ↓zS_m25, ↓zS_m26, ↓zS_m27, ↓zS_m28, ↓zS_m29, ↓bf_0_2, ↓bf_0_4, ↓bf_0_6, ↓bf_0_7, ↓bf_0_8, ↓bf_0_9, ↓bf_3_2, ↓bf_5_0, ↓bf_5_2, ↓bf_5_3, ↓bf_5_5, ↓bf_5_6, ↓bf_1121_0, ↓bf_1121_8, ↓bf_1121_9, ↓bf_1121_10, ↓bf_1121_13, ↓bf_1122_1, ↓bf_1181_1, ↓bf_1178_1, ↓bf_1178_2, ↓bf_1178_8, ↓bf_1178_9, ↓bf_1178_11, ↓bf_1185_2, ↓bf_1185_4, ↓bf_1185_5, ↓bf_1185_6, ↓bf_1185_7, ↓bf_1185_8, ↓bf_1185_9, ↓bf_1185_14, ↓bf_1185_16, ↓bf_1185_17, ↓bf_1185_18, ↓bf_1277_0, ↓bf_1277_1, ↓bf_1278_0, ↓bf_1278_2, ↓bf_1285_3, ↓bf_1285_4, ↓bf_1285_14, ↓bf_1285_15, ↓bf_1285_16, ↓bf_1285_17, ↓bf_1285_18, ↓bf_1285_19, ↓bf_1285_20, ↓bf_1285_21, ↓bf_1285_22, ↓bf_1285_23, ↓bf_1285_24, ↓bf_1285_25, ↓bf_1285_27, ↓bf_1285_28, ↓bf_1285_29, ↓bf_1285_30, ↓bf_2, ↓bf_2_, ↓bf_1126, ↓bf_1126_, ↓bf_s0, ↓bf_s1, ↓bf_s2, ↓bf_s3, ↓bf_s4, ↓bf_s5, ↓bf_s6, ↓bf_s7, ↓bf_s10, ↓bf_tx, ↓bf_tx_, ↓bf_mt, ↓bf_mt_, ↓bf_ms, ↓bf_ms_, ↓bf_nd, ↓bf_nd_, ↓bf_tk, ↓bf_tk_, ↓bf_txA4, ↓bf_txA5, ↓bf_msA3, ↓bf_msA4, ↓bf_msA5, ↓bf_msA6, ↓bf_ndA4, ↓bf_ndA5, ↓bf_tkA4, ↓bf_tkA5, ↓bf_m5, ↓bf_m6, ↓bf_m7, ↓bf_m8, ↓bf_m9, ↓bf_m10, ↓bf_m11, ↓bf_m12, ↓bf_m13, ↓bf_m14, ↓bf_m15, ↓bf_m16, ↓bf_m17, ↓bf_m18, ↓bf_m19, ↓bf_m20, ↓bf_m21, ↓bf_m22, ↓bf_m23, ↓bf_m24, ↓bf_m25, ↓bf_m26, ↓bf_m27, ↓bf_m28, ↓bf_m29, ↓bf_m30, ↓bf_m31, ↓bf_m32, ↓bf_m33, mI_R, sI_R, sL_R, i1ne0, nI_leD, hcm, ↓zoL_e, ↓zob_e, ↓reduceIte, zoS_e, zob_e, nI_lt0, nI_lt00, nI_cl, nle_f, or_self, or_false, false_or]
    cases hnum : num (mm.1 1) n least.toInt hi.toInt p with
    | error e =>
      rw [hnum] at hx
      obtain ⟨x1, m, x2, x3⟩ := hx
      rw [x1, x2]
      exact ⟨rfl, _, rfl, rfl, rdW_E rw4_r x3⟩
    | ok a =>
      obtain ⟨v, p1⟩ := a
      rw [hnum] at hx
      obtain ⟨⟨x, m1⟩, x1, x2, x3, x4⟩ := hx
      obtain ⟨t1, t2, t3, t4⟩ := num_ok h.2.2.2.2.2.1 hnum
      simp only at x2 x3 x4
      have hS1 : rdS m1 n p1 := by rw [x4]; exact rdN_S h x3
      have e1 : m1.1 1 = mm.1 1 := by rw [x4]; exact rdN_o (by decide)
      have hw1 : rw4 mm m1 := by rw [x4]; exact rw4_N rw4_r
      have hS2 : rdS (mI m1 4 cnt x) n p1 := rdS_4 hS1
      have e2 : (mI m1 4 cnt x).1 1 = mm.1 1 := by rw [mI_sI, sI_ne (by decide), e1]
      have hR1 : RF m1.2.2 := hS1.1
      have hR2 : RF (mI m1 4 cnt x).2.2 := hR1
      have hw2 : rw4 mm (mI m1 4 cnt x) := by rw [mI_sI]; exact rw4_4 hw1
      have hrow2 : ∀ j, j < cnt + 1 → (mI m1 4 cnt x).1 4 j = upd g cnt (Int32.ofInt v) j := by
        intro j hj
        rw [mI_sI, sI_at]
        unfold upd
        by_cases e : j = cnt
        · rw [if_pos e, if_pos e, ofInt_toInt x2]
        · rw [if_neg e, if_neg e, x4, rdN_o (by decide), hrow j (by omega)]
      have htk := c_takes (W := W) (H := H) hS2 (by rw [e2]; exact t1) 44
      have e4 : (mI m1 4 cnt x).1 4 cnt = x := by
        rw [mI_sI, sI_at]
        exact if_pos rfl
      have elo : (if gb then v + 1 else lo.toInt) = (if gb then x + 1 else lo).toInt := by
        cases gb with
        | false => rfl
        | true =>
          show v + 1 = (x + 1).toInt
          rw [i32_add] <;> rw [x2, show (1 : Int32).toInt = 1 by decide] <;> omega
      have hl2 : -100000000 < (if gb then x + 1 else lo).toInt := by
        rw [← elo]
        cases gb
        · exact hlo
        · show -100000000 < v + 1
          omega
      rw [e2] at htk
      have fin : ∀ G : Int32, G = (if gb then x + 1 else lo) → (match (if p1 < n ∧ mm.1 1 p1 = 44 then lpGo (mm.1 1) n lo.toInt hi.toInt gb rem (if gb then v + 1 else lo.toInt) (cnt + 1) (upd g cnt (Int32.ofInt v)) (wp (mm.1 1) n (p1 + 1)) else .ok (false, cnt + 1, upd g cnt (Int32.ofInt v), p1)) with
    | .ok a => ∃ ls m2, Option.bind (F_XReader_takes (sh0 W H) (mI m1 4 cnt x) 3 44) (fun p26 => L_XReader_numbers_34 (sh0 W H) fu 3 (nI most) unit lo hi grow p26.1 G (nI (cnt + 1)) p26.2) = some (3, nI most, unit, lo, hi, grow, b32 a.1, ls, nI a.2.1, m2) ∧ Option.bind (F_XReader_takes (sh0 W H) (mI m1 4 cnt x) 3 44) (fun p26 => L_T_XReader_numbers_34 (sh0 W H) fu 3 (nI most) unit lo hi grow p26.1 G (nI (cnt + 1)) p26.2) = some (1, 3, nI most, unit, lo, hi, grow, b32 a.1, ls, nI a.2.1, m2) ∧ rdS m2 n a.2.2.2 ∧ wp (mm.1 1) n a.2.2.2 = a.2.2.2 ∧ rw4 mm m2 ∧ a.2.1 ≤ most ∧ ∀ j, j < a.2.1 → m2.1 4 j = a.2.2.1 j
    | .error e => Option.bind (F_XReader_takes (sh0 W H) (mI m1 4 cnt x) 3 44) (fun p26 => L_XReader_numbers_34 (sh0 W H) fu 3 (nI most) unit lo hi grow p26.1 G (nI (cnt + 1)) p26.2) = none ∧ ∃ q, Option.bind (F_XReader_takes (sh0 W H) (mI m1 4 cnt x) 3 44) (fun p26 => L_T_XReader_numbers_34 (sh0 W H) fu 3 (nI most) unit lo hi grow p26.1 G (nI (cnt + 1)) p26.2) = some q ∧ q.1 = 0 ∧ rdW mm e.1 e.2 q.2.2.2.2.2.2.2.2.2.2) := by
        intro G hG
        rw [htk]
        by_cases hcm : p1 < n ∧ mm.1 1 p1 = 44
        · simp only [if_pos hcm, zob_e]
          have hS3 := rdP_S hS2 (wp_2 (t := mm.1 1) (show p1 + 1 ≤ n by omega))
          have hx3 := ih G (cnt + 1) (upd g cnt (Int32.ofInt v)) (wp (mm.1 1) n (p1 + 1)) fu (rdP (mI m1 4 cnt x) (wp (mm.1 1) n (p1 + 1))) (by omega) (by omega) hS3 (by rw [rdP_o (by decide), e2]; exact wp_id (by omega)) (by rw [hG]; exact hl2) (fun j hj => by rw [rdP_o (by decide)]; exact hrow2 j hj)
          rw [rdP_o (by decide), e2, show G.toInt = (if gb then v + 1 else lo.toInt) by rw [hG, elo]] at hx3
          cases hlp : lpGo (mm.1 1) n lo.toInt hi.toInt gb rem (if gb then v + 1 else lo.toInt) (cnt + 1) (upd g cnt (Int32.ofInt v)) (wp (mm.1 1) n (p1 + 1)) with
          | error e =>
            rw [hlp] at hx3
            obtain ⟨y1, q, y2, y3, y4⟩ := hx3
            exact ⟨y1, q, y2, y3, y4.1, y4.2.1, rw4_t (rw4_P hw2) y4.2.2⟩
          | ok a =>
            rw [hlp] at hx3
            obtain ⟨ls, m2, y1, y2, y3, y4, y5, y6, y7⟩ := hx3
            exact ⟨ls, m2, y1, y2, y3, y4, rw4_t (rw4_P hw2) y5, y6, y7⟩
        · simp only [if_neg hcm, zob_e]
          obtain ⟨fu, rfl⟩ : ∃ q, fu = q + 1 := ⟨fu - 1, by omega⟩
          simp only [L_XReader_numbers_34, L_T_XReader_numbers_34, i0eq0, ↓reduceIte]
          exact ⟨_, _, rfl, rfl, hS2, t1, hw2, by omega, hrow2⟩
      rw [x1]
      cases gb with
      | false =>
        obtain rfl : grow = 0 := hg
        simp (disch := first | assumption | omega) only [↓zoX_s, ↓zS_s0, ↓zS_s1, ↓zS_s2, ↓zS_s3, ↓zS_s20, ↓zS_s21, ↓zS_s22, ↓zS_s23, ↓zS_s24, ↓zS_s25, ↓zS_smt, ↓zS_txA, ↓zS_txA1, ↓zS_txA2, ↓zS_msA, ↓zS_msA1, ↓zS_msA2, ↓zS_msA3, ↓zS_msA4, ↓zS_ndA, ↓zS_ndA1, ↓zS_ndA2, ↓zS_tkA, ↓zS_tkA1, ↓zS_tkA2, ↓zS_0, ↓zS_1, ↓zS_2, ↓zS_3, ↓zS_4, ↓zS_5, ↓zS_6, ↓zS_7, ↓zS_8, ↓zS_9, ↓zS_10, ↓zS_1121, ↓zS_1122, ↓zS_1123, ↓zS_1124, ↓zS_1125, ↓zS_1126, ↓zS_1175, ↓zS_1176, ↓zS_1177, ↓zS_1178, ↓zS_1179, ↓zS_1180, ↓zS_1181, ↓zS_1182, ↓zS_1183, ↓zS_1184, ↓zS_1185, ↓zS_1186, ↓zS_1277, ↓zS_1278, ↓zS_1279, ↓zS_1280, ↓zS_1281, ↓zS_1282, ↓zS_1283, ↓zS_1284, ↓zS_1285, ↓zS_1302, ↓zS_1286, ↓zS_1287, ↓zS_1288, ↓zS_1289, ↓zS_1290, ↓zS_1291, ↓zS_1292, ↓zS_1293, ↓zS_1294, ↓zS_1295, ↓zS_1296, ↓zS_1297, ↓zS_1298, ↓zS_1299, ↓zS_1300, ↓zS_1301, ↓zS_sg, ↓zS_m0, ↓zS_m1, ↓zS_m2, ↓zS_m3, ↓zS_m4, ↓zS_m5, ↓zS_m6, ↓zS_m7, ↓zS_m8, ↓zS_m9, ↓zS_m10, ↓zS_m11, ↓zS_m12, ↓zS_m13, ↓zS_m14, ↓zS_m15, ↓zS_m16, ↓zS_m17, ↓zS_m18, ↓zS_m19, ↓zS_m20, ↓zS_m21, ↓zS_m22, ↓zS_m23, ↓zS_m24, ↓zS_m25, ↓zS_m26, ↓zS_m27, ↓zS_m28, ↓zS_m29, ↓bf_0_2, ↓bf_0_4, ↓bf_0_6, ↓bf_0_7, ↓bf_0_8, ↓bf_0_9, ↓bf_3_2, ↓bf_5_0, ↓bf_5_2, ↓bf_5_3, ↓bf_5_5, ↓bf_5_6, ↓bf_1121_0, ↓bf_1121_8, ↓bf_1121_9, ↓bf_1121_10, ↓bf_1121_13, ↓bf_1122_1, ↓bf_1181_1, ↓bf_1178_1, ↓bf_1178_2, ↓bf_1178_8, ↓bf_1178_9, ↓bf_1178_11, ↓bf_1185_2, ↓bf_1185_4, ↓bf_1185_5, ↓bf_1185_6, ↓bf_1185_7, ↓bf_1185_8, ↓bf_1185_9, ↓bf_1185_14, ↓bf_1185_16, ↓bf_1185_17, ↓bf_1185_18, ↓bf_1277_0, ↓bf_1277_1, ↓bf_1278_0, ↓bf_1278_2, ↓bf_1285_3, ↓bf_1285_4, ↓bf_1285_14, ↓bf_1285_15, ↓bf_1285_16, ↓bf_1285_17, ↓bf_1285_18, ↓bf_1285_19, ↓bf_1285_20, ↓bf_1285_21, ↓bf_1285_22, ↓bf_1285_23, ↓bf_1285_24, ↓bf_1285_25, ↓bf_1285_27, ↓bf_1285_28, ↓bf_1285_29, ↓bf_1285_30, ↓bf_2, ↓bf_2_, ↓bf_1126, ↓bf_1126_, ↓bf_s0, ↓bf_s1, ↓bf_s2, ↓bf_s3, ↓bf_s4, ↓bf_s5, ↓bf_s6, ↓bf_s7, ↓bf_s10, ↓bf_tx, ↓bf_tx_, ↓bf_mt, ↓bf_mt_, ↓bf_ms, ↓bf_ms_, ↓bf_nd, ↓bf_nd_, ↓bf_tk, ↓bf_tk_, ↓bf_txA4, ↓bf_txA5, ↓bf_msA3, ↓bf_msA4, ↓bf_msA5, ↓bf_msA6, ↓bf_ndA4, ↓bf_ndA5, ↓bf_tkA4, ↓bf_tkA5, ↓bf_m5, ↓bf_m6, ↓bf_m7, ↓bf_m8, ↓bf_m9, ↓bf_m10, ↓bf_m11, ↓bf_m12, ↓bf_m13, ↓bf_m14, ↓bf_m15, ↓bf_m16, ↓bf_m17, ↓bf_m18, ↓bf_m19, ↓bf_m20, ↓bf_m21, ↓bf_m22, ↓bf_m23, ↓bf_m24, ↓bf_m25, ↓bf_m26, ↓bf_m27, ↓bf_m28, ↓bf_m29, ↓bf_m30, ↓bf_m31, ↓bf_m32, ↓bf_m33, mI_R, sI_R, sL_R, i0eq0, nI_1, ↓zoL_e, ↓zob_e, ↓reduceIte, zoS_e, zob_e, nI_lt0, nI_lt00, nI_cl, nle_f, or_self, or_false, false_or]
        exact fin lo rfl
      | true =>
        obtain rfl : grow = 1 := hg
        simp (disch := first | assumption | omega) only [↓zoX_s, ↓zS_s0, ↓zS_s1, ↓zS_s2, ↓zS_s3, ↓zS_s20, ↓zS_s21, ↓zS_s22, ↓zS_s23, ↓zS_s24, ↓zS_s25, ↓zS_smt, ↓zS_txA, ↓zS_txA1, ↓zS_txA2, ↓zS_msA, ↓zS_msA1, ↓zS_msA2, ↓zS_msA3, ↓zS_msA4, ↓zS_ndA, ↓zS_ndA1, ↓zS_ndA2, ↓zS_tkA, ↓zS_tkA1, ↓zS_tkA2, ↓zS_0, ↓zS_1, ↓zS_2, ↓zS_3, ↓zS_4, ↓zS_5, ↓zS_6, ↓zS_7, ↓zS_8, ↓zS_9, ↓zS_10, ↓zS_1121, ↓zS_1122, ↓zS_1123, ↓zS_1124, ↓zS_1125, ↓zS_1126, ↓zS_1175, ↓zS_1176, ↓zS_1177, ↓zS_1178, ↓zS_1179, ↓zS_1180, ↓zS_1181, ↓zS_1182, ↓zS_1183, ↓zS_1184, ↓zS_1185, ↓zS_1186, ↓zS_1277, ↓zS_1278, ↓zS_1279, ↓zS_1280, ↓zS_1281, ↓zS_1282, ↓zS_1283, ↓zS_1284, ↓zS_1285, ↓zS_1302, ↓zS_1286, ↓zS_1287, ↓zS_1288, ↓zS_1289, ↓zS_1290, ↓zS_1291, ↓zS_1292, ↓zS_1293, ↓zS_1294, ↓zS_1295, ↓zS_1296, ↓zS_1297, ↓zS_1298, ↓zS_1299, ↓zS_1300, ↓zS_1301, ↓zS_sg, ↓zS_m0, ↓zS_m1, ↓zS_m2, ↓zS_m3, ↓zS_m4, ↓zS_m5, ↓zS_m6, ↓zS_m7, ↓zS_m8, ↓zS_m9, ↓zS_m10, ↓zS_m11, ↓zS_m12, ↓zS_m13, ↓zS_m14, ↓zS_m15, ↓zS_m16, ↓zS_m17, ↓zS_m18, ↓zS_m19, ↓zS_m20, ↓zS_m21, ↓zS_m22, ↓zS_m23, ↓zS_m24, ↓zS_m25, ↓zS_m26, ↓zS_m27, ↓zS_m28, ↓zS_m29, ↓bf_0_2, ↓bf_0_4, ↓bf_0_6, ↓bf_0_7, ↓bf_0_8, ↓bf_0_9, ↓bf_3_2, ↓bf_5_0, ↓bf_5_2, ↓bf_5_3, ↓bf_5_5, ↓bf_5_6, ↓bf_1121_0, ↓bf_1121_8, ↓bf_1121_9, ↓bf_1121_10, ↓bf_1121_13, ↓bf_1122_1, ↓bf_1181_1, ↓bf_1178_1, ↓bf_1178_2, ↓bf_1178_8, ↓bf_1178_9, ↓bf_1178_11, ↓bf_1185_2, ↓bf_1185_4, ↓bf_1185_5, ↓bf_1185_6, ↓bf_1185_7, ↓bf_1185_8, ↓bf_1185_9, ↓bf_1185_14, ↓bf_1185_16, ↓bf_1185_17, ↓bf_1185_18, ↓bf_1277_0, ↓bf_1277_1, ↓bf_1278_0, ↓bf_1278_2, ↓bf_1285_3, ↓bf_1285_4, ↓bf_1285_14, ↓bf_1285_15, ↓bf_1285_16, ↓bf_1285_17, ↓bf_1285_18, ↓bf_1285_19, ↓bf_1285_20, ↓bf_1285_21, ↓bf_1285_22, ↓bf_1285_23, ↓bf_1285_24, ↓bf_1285_25, ↓bf_1285_27, ↓bf_1285_28, ↓bf_1285_29, ↓bf_1285_30, ↓bf_2, ↓bf_2_, ↓bf_1126, ↓bf_1126_, ↓bf_s0, ↓bf_s1, ↓bf_s2, ↓bf_s3, ↓bf_s4, ↓bf_s5, ↓bf_s6, ↓bf_s7, ↓bf_s10, ↓bf_tx, ↓bf_tx_, ↓bf_mt, ↓bf_mt_, ↓bf_ms, ↓bf_ms_, ↓bf_nd, ↓bf_nd_, ↓bf_tk, ↓bf_tk_, ↓bf_txA4, ↓bf_txA5, ↓bf_msA3, ↓bf_msA4, ↓bf_msA5, ↓bf_msA6, ↓bf_ndA4, ↓bf_ndA5, ↓bf_tkA4, ↓bf_tkA5, ↓bf_m5, ↓bf_m6, ↓bf_m7, ↓bf_m8, ↓bf_m9, ↓bf_m10, ↓bf_m11, ↓bf_m12, ↓bf_m13, ↓bf_m14, ↓bf_m15, ↓bf_m16, ↓bf_m17, ↓bf_m18, ↓bf_m19, ↓bf_m20, ↓bf_m21, ↓bf_m22, ↓bf_m23, ↓bf_m24, ↓bf_m25, ↓bf_m26, ↓bf_m27, ↓bf_m28, ↓bf_m29, ↓bf_m30, ↓bf_m31, ↓bf_m32, ↓bf_m33, mI_R, sI_R, sL_R, i1ne0, e4, nI_1, ↓zoL_e, ↓zob_e, ↓reduceIte, zoS_e, zob_e, nI_lt0, nI_lt00, nI_cl, nle_f, or_self, or_false, false_or]
        exact fin (x + 1) rfl
theorem i32_rem {a b : Nat} (ha : a < 2147483648) (hb : b < 2147483648) (h0 : 0 < b) : nI a - nI a / nI b * nI b = nI (a % b) := by
  have e1 : (nI a / nI b).toInt = (a / b : Nat) := by
    rw [Int32.toInt_div_of_ne_right, nI_toInt ha, nI_toInt hb]
    · rfl
    · intro e
      have := congrArg Int32.toInt e
      rw [nI_toInt hb, show (-1 : Int32).toInt = -1 by decide] at this
      omega
  have e2 : nI a / nI b = nI (a / b) := i32_ext (by rw [e1, nI_toInt (Nat.lt_of_le_of_lt (Nat.div_le_self a b) ha)])
  have e3 := Nat.div_add_mod a b
  rw [e2, nI_mul, nI_sub (Nat.div_mul_le_self a b)]
  congr 1
  rw [Nat.mul_comm]
  omega
theorem i32_rem0 {a b : Nat} (ha : a < 2147483648) (hb : b < 2147483648) (h0 : 0 < b) : (nI a - nI a / nI b * nI b = 0) = (a % b = 0) := by
  rw [i32_rem ha hb h0]
  have := Nat.mod_lt a h0
  exact propext (nI_eqD (by omega) (by decide))
theorem sgn_tok {t : Nat → Int32} {n p q : Nat} {c : Int32} (h : sgn t n c p = .ok q) : wp t n q = q ∧ q ≤ n := by
  unfold sgn at h
  by_cases hc : p < n ∧ t p = c
  · rw [if_pos hc] at h
    obtain rfl := Except.ok.inj h
    exact ⟨wp_id (by omega), wp_2 (by omega)⟩
  · rw [if_neg hc] at h
    cases h
theorem nam_tok {t : Nat → Int32} {n i p q : Nat} (h : nam t n i p = .ok q) : wp t n q = q ∧ q ≤ n := by
  unfold nam at h
  by_cases hc : wrd t n i p = true
  · rw [if_pos hc] at h
    exact sgn_tok h
  · rw [if_neg hc] at h
    cases h
/-- what the class's reader has done when it goes on -/
def rdK (mm : zMem) (n q : Nat) (m : zMem) : Prop := rdS m n q ∧ wp (mm.1 1) n q = q ∧ rw4 mm m
theorem c_need' {W H : Nat} {mm m0 : zMem} {n p : Nat} (h : rdS mm n p) (c : Int32) (hw : rw4 m0 mm) : oc (sgn (mm.1 1) n c p) (F_XReader_need (sh0 W H) mm 3 c) (T_XReader_need (sh0 W H) mm 3 c) (fun q m => rdS m n q ∧ wp (mm.1 1) n q = q ∧ m = rdP mm q) (rdW m0) := by
  have hx := c_need (W := W) (H := H) h c
  cases hs : sgn (mm.1 1) n c p with
  | error e =>
    rw [hs] at hx
    obtain ⟨x1, m, x2, x3⟩ := hx
    exact ⟨x1, m, x2, rdW_E hw x3⟩
  | ok q =>
    rw [hs] at hx
    obtain ⟨m, x1, x2, x3⟩ := hx
    exact ⟨m, x1, by rw [x3]; exact rdP_S h x2, (sgn_tok hs).1, x3⟩
theorem c_needName' {W H : Nat} {mm m0 : zMem} {n p i : Nat} (h : rdS mm n p) (hi : i < 67) (hw : rw4 m0 mm) : oc (nam (mm.1 1) n i p) (F_XReader_needName (sh0 W H) mm 3 i) (T_XReader_needName (sh0 W H) mm 3 i) (fun q m => rdS m n q ∧ wp (mm.1 1) n q = q ∧ m = rdP mm q) (rdW m0) := by
  have hx := c_needName (W := W) (H := H) h hi
  cases hs : nam (mm.1 1) n i p with
  | error e =>
    rw [hs] at hx
    obtain ⟨x1, m, x2, x3⟩ := hx
    exact ⟨x1, m, x2, rdW_E hw x3⟩
  | ok q =>
    rw [hs] at hx
    obtain ⟨m, x1, x2, x3⟩ := hx
    exact ⟨m, x1, by rw [x3]; exact rdP_S h x2, (nam_tok hs).1, x3⟩
/-- the end of a list -/
theorem c_fin {W H : Nat} {mm m0 : zMem} {n p cnt unit : Nat} (h : rdS mm n p) (hw : rw4 m0 mm) (hu : 0 < unit) (hu2 : unit < 2147483648) (hc : cnt < 2147483648) : oc (fin (mm.1 1) n unit cnt p)
    (Option.bind (F_XReader_sees (sh0 W H) mm 3 93) (fun p41 => (if p41.1 = 0 then Option.bind (F_XReader_need (sh0 W H) p41.2 3 93) (fun p45 => some (nI cnt, p45)) else (if nI cnt = 0 then none else (if nI unit = 0 then none else (if (nI cnt - nI cnt / nI unit * nI unit) = 0 then Option.bind (F_XReader_need (sh0 W H) p41.2 3 93) (fun p56 => some (nI cnt, p56)) else none))))))
    (Option.bind (F_XReader_sees (sh0 W H) mm 3 93) (fun p42 => (if p42.1 = 0 then zoX (F_XReader_need (sh0 W H) p42.2 3 93) (T_XReader_need (sh0 W H) p42.2 3 93) (fun _ => none) else (if nI cnt = 0 then T_XReader_refuse (sh0 W H) p42.2 3 3 (p42.2.1 3 5) else (if nI unit = 0 then none else (if (nI cnt - nI cnt / nI unit * nI unit) = 0 then zoX (F_XReader_need (sh0 W H) p42.2 3 93) (T_XReader_need (sh0 W H) p42.2 3 93) (fun _ => none) else T_XReader_refuse (sh0 W H) p42.2 3 3 (p42.2.1 3 5)))))))
    (fun q r => r.1 = nI cnt ∧ rdS r.2 n q ∧ wp (mm.1 1) n q = q ∧ rw4 m0 r.2 ∧ r.2.1 4 = mm.1 4) (rdW m0) := by
  have h5 := h.2.2.1
  have hx := c_need' (W := W) (H := H) h 93 hw
  have hu0 : ¬ nI unit = 0 := nI_ne0 hu hu2
  have hce : (nI cnt = 0) = (cnt = 0) := propext (nI_eqD hc (by decide))
  simp only [c_sees h, zob_e, hu0, ↓reduceIte, i32_rem0 hc hu2 hu, hce, h5]
  unfold fin
  have hneed : ∀ s, s = sgn (mm.1 1) n 93 p → oc s (Option.bind (F_XReader_need (sh0 W H) mm 3 93) (fun p45 => some (nI cnt, p45))) (zoX (F_XReader_need (sh0 W H) mm 3 93) (T_XReader_need (sh0 W H) mm 3 93) (fun _ => none)) (fun q r => r.1 = nI cnt ∧ rdS r.2 n q ∧ wp (mm.1 1) n q = q ∧ rw4 m0 r.2 ∧ r.2.1 4 = mm.1 4) (rdW m0) := by
    intro s hs
    rw [hs]
    cases hs2 : sgn (mm.1 1) n 93 p with
    | error e =>
      rw [hs2] at hx
      obtain ⟨x1, m, x2, x3⟩ := hx
      rw [x1, x2]
      exact ⟨rfl, m, rfl, x3⟩
    | ok q =>
      rw [hs2] at hx
      obtain ⟨m, x1, x2, x3, x4⟩ := hx
      rw [x1]
      exact ⟨_, rfl, rfl, x2, x3, by rw [x4]; exact rw4_P hw, by rw [x4]; exact rdP_o (by decide)⟩
  by_cases hc1 : p < n ∧ mm.1 1 p = 93
  · rw [if_pos hc1, if_pos hc1]
    simp only [i1ne0, ↓reduceIte]
    by_cases hz : cnt = 0
    · rw [if_pos (Or.inl hz), if_pos hz, if_pos hz]
      obtain ⟨m, e1, e2⟩ := c_refuse (W := W) (H := H) (mm := mm) 3 p
      exact ⟨rfl, m, e1, rdW_E hw e2⟩
    · rw [if_neg hz, if_neg hz]
      by_cases hm : cnt % unit = 0
      · rw [if_neg (by omega), if_pos hm, if_pos hm]
        exact hneed _ (by unfold sgn; rw [if_pos hc1])
      · rw [if_pos (Or.inr hm), if_neg hm, if_neg hm]
        obtain ⟨m, e1, e2⟩ := c_refuse (W := W) (H := H) (mm := mm) 3 p
        exact ⟨rfl, m, e1, rdW_E hw e2⟩
  · rw [if_neg hc1, if_neg hc1]
    simp only [i0eq0, ↓reduceIte]
    exact hneed _ (by unfold sgn; rw [if_neg hc1])
