/-! PURE: both packers put numbers of bits -/
section ZCD
variable {W H : Nat}
def hiB (v : Nat) : Nat → List Nat
  | 0 => []
  | n + 1 => (v / 2 ^ n % 2) :: hiB v n
def loB (v : Nat) : Nat → Nat → List Nat
  | _, 0 => []
  | i, d + 1 => (v / 2 ^ i % 2) :: loB v (i + 1) d
theorem hiB_l {v : Nat} : ∀ n, (hiB v n).length = n := by
  intro n
  induction n with
  | zero => rfl
  | succ n ih => rw [hiB, List.length_cons, ih]
theorem loB_l {v : Nat} : ∀ d i, (loB v i d).length = d := by
  intro d
  induction d with
  | zero => intro i; rfl
  | succ d ih => intro i; rw [loB, List.length_cons, ih]
theorem sm32 : ∀ i : Fin 32, ((nI i.val &&& 31).toBitVec.smod 32).toNat = i.val := by decide +kernel
theorem bitI {v i : Nat} (hv : v < 2147483648) (hi : i < 32) : (nI v >>> (nI i &&& 31)) &&& 1 = nI (v / 2 ^ i % 2) := by
  have h := and_msk (x := nI v >>> (nI i &&& 31)) (k := 1) (s := 2) (by decide) rfl
  have h' : (nI v >>> (nI i &&& 31)) &&& 1 = nI ((nI v >>> (nI i &&& 31)).toInt % (2 : Nat)).toNat := h
  rw [h', i32_shr _ _ i (sm32 ⟨i, hi⟩), nI_toInt hv]
  rfl
theorem bit_2 {v i : Nat} : v / 2 ^ i % 2 < 2 := Nat.mod_lt _ (by decide)
theorem app_c {a b : List Nat} {x : Nat} : (a ++ [x]) ++ b = a ++ (x :: b) := by rw [List.append_assoc, List.singleton_append]
theorem c_hi4 {P : List Int32} {v : Nat} (hv : v < 2147483648) : ∀ (n fuel : Nat) (m : zMem) (bs : List Nat), n ≤ 31 → n < fuel → RF m.2.2 → cBt P bs m → P.length + (bs.length + n) / 8 < 7958 → zok (L_XPacker_putHighFirst_4 (sh0 W H) fuel 5 (nI v) (nI n - 1) m) (fun q => cQ m q.2.2.2 ∧ cBt P (bs ++ hiB v n) q.2.2.2) := by
  intro n
  induction n with
  | zero =>
    intro fuel m bs hn hf hR h hB
    obtain ⟨fu, rfl⟩ : ∃ fu, fuel = fu + 1 := ⟨fuel - 1, by omega⟩
    rw [L_XPacker_putHighFirst_4, if_pos (by decide)]
    refine zok_s ⟨cQ_r, ?_⟩
    rw [hiB, List.append_nil]
    exact h
  | succ n ih =>
    intro fuel m bs hn hf hR h hB
    obtain ⟨fu, rfl⟩ : ∃ fu, fuel = fu + 1 := ⟨fuel - 1, by omega⟩
    have e1 : nI (n + 1) - 1 = nI n := nI_sub (b := 1) (by omega)
    have e2 : nI n + (-1) = nI n - 1 := by rw [Int32.sub_eq_add_neg]
    rw [L_XPacker_putHighFirst_4, e1, if_neg (nI_pos (by omega)), zoS_h sh_5, bitI hv (by omega), e2]
    refine zok_b (c_bit hR h bit_2 (by omega)) (fun m1 h1 => ?_)
    refine zok_w (ih fu m1 (bs ++ [v / 2 ^ n % 2]) (by omega) (by omega) (by rw [h1.1.1]; exact hR) h1.2 (by rw [List.length_append]; show P.length + (bs.length + 1 + n) / 8 < _; omega)) (fun q hq => ⟨cQ_t h1.1 hq.1, ?_⟩)
    have := hq.2
    rw [app_c] at this
    exact this
theorem m_hi4 {P : List Int32} {v : Nat} (hv : v < 2147483648) : ∀ (n fuel : Nat) (m : zMem) (bs : List Nat), n ≤ 31 → n < fuel → RF m.2.2 → mBt P bs m → P.length + (bs.length + n) / 8 < 8190 → zok (L_MPacker_highFirst_4 (sh0 W H) fuel 1278 (nI v) (nI n - 1) m) (fun q => mQ m q.2.2.2 ∧ mBt P (bs ++ hiB v n) q.2.2.2) := by
  intro n
  induction n with
  | zero =>
    intro fuel m bs hn hf hR h hB
    obtain ⟨fu, rfl⟩ : ∃ fu, fuel = fu + 1 := ⟨fuel - 1, by omega⟩
    rw [L_MPacker_highFirst_4, if_pos (by decide)]
    refine zok_s ⟨mQ_r, ?_⟩
    rw [hiB, List.append_nil]
    exact h
  | succ n ih =>
    intro fuel m bs hn hf hR h hB
    obtain ⟨fu, rfl⟩ : ∃ fu, fuel = fu + 1 := ⟨fuel - 1, by omega⟩
    have e1 : nI (n + 1) - 1 = nI n := nI_sub (b := 1) (by omega)
    have e2 : nI n + (-1) = nI n - 1 := by rw [Int32.sub_eq_add_neg]
    rw [L_MPacker_highFirst_4, e1, if_neg (nI_pos (by omega)), zoS_h sh_1278, bitI hv (by omega), e2]
    refine zok_b (m_bit hR h bit_2 (by omega)) (fun m1 h1 => ?_)
    refine zok_w (ih fu m1 (bs ++ [v / 2 ^ n % 2]) (by omega) (by omega) (by rw [h1.1.1]; exact hR) h1.2 (by rw [List.length_append]; show P.length + (bs.length + 1 + n) / 8 < _; omega)) (fun q hq => ⟨mQ_t h1.1 hq.1, ?_⟩)
    have := hq.2
    rw [app_c] at this
    exact this
theorem c_hi {m : zMem} {P : List Int32} {bs : List Nat} {v n : Nat} (hR : RF m.2.2) (h : cBt P bs m) (hv : v < 2147483648) (hn : n ≤ 31) (hB : P.length + (bs.length + n) / 8 < 7958) : zok (F_XPacker_putHighFirst (sh0 W H) m 5 (nI v) (nI n)) (fun m' => cQ m m' ∧ cBt P (bs ++ hiB v n) m') := by
  unfold F_XPacker_putHighFirst
  rw [zoL_e]
  exact zok_b (c_hi4 hv n zfuel m bs hn (zf_lt (by omega)) hR h hB) (fun q hq => zok_s hq)
theorem m_hi {m : zMem} {P : List Int32} {bs : List Nat} {v n : Nat} (hR : RF m.2.2) (h : mBt P bs m) (hv : v < 2147483648) (hn : n ≤ 31) (hB : P.length + (bs.length + n) / 8 < 8190) : zok (F_MPacker_highFirst (sh0 W H) m 1278 (nI v) (nI n)) (fun m' => mQ m m' ∧ mBt P (bs ++ hiB v n) m') := by
  unfold F_MPacker_highFirst
  rw [zoL_e]
  exact zok_b (m_hi4 hv n zfuel m bs hn (zf_lt (by omega)) hR h hB) (fun q hq => zok_s hq)
theorem c_lo2 {P : List Int32} {v N : Nat} (hv : v < 2147483648) (hN : N ≤ 31) : ∀ (d i fuel : Nat) (m : zMem) (bs : List Nat), i + d = N → d < fuel → RF m.2.2 → cBt P bs m → P.length + (bs.length + d) / 8 < 7958 → zok (L_XPacker_putLowFirst_2 (sh0 W H) fuel 5 (nI v) (nI N) (nI i) m) (fun q => cQ m q.2.2.2.2 ∧ cBt P (bs ++ loB v i d) q.2.2.2.2) := by
  intro d
  induction d with
  | zero =>
    intro i fuel m bs hn hf hR h hB
    obtain ⟨fu, rfl⟩ : ∃ fu, fuel = fu + 1 := ⟨fuel - 1, by omega⟩
    rw [L_XPacker_putLowFirst_2, if_pos (by rw [nI_leD (by omega) (by omega)]; omega)]
    refine zok_s ⟨cQ_r, ?_⟩
    rw [loB, List.append_nil]
    exact h
  | succ d ih =>
    intro i fuel m bs hn hf hR h hB
    obtain ⟨fu, rfl⟩ : ∃ fu, fuel = fu + 1 := ⟨fuel - 1, by omega⟩
    rw [L_XPacker_putLowFirst_2, if_neg (by rw [nI_leD (by omega) (by omega)]; omega), zoS_h sh_5, bitI hv (by omega), nI_p1]
    refine zok_b (c_bit hR h bit_2 (by omega)) (fun m1 h1 => ?_)
    refine zok_w (ih (i + 1) fu m1 (bs ++ [v / 2 ^ i % 2]) (by omega) (by omega) (by rw [h1.1.1]; exact hR) h1.2 (by rw [List.length_append]; show P.length + (bs.length + 1 + d) / 8 < _; omega)) (fun q hq => ⟨cQ_t h1.1 hq.1, ?_⟩)
    have := hq.2
    rw [app_c] at this
    exact this
theorem m_lo2 {P : List Int32} {v N : Nat} (hv : v < 2147483648) (hN : N ≤ 31) : ∀ (d i fuel : Nat) (m : zMem) (bs : List Nat), i + d = N → d < fuel → RF m.2.2 → mBt P bs m → P.length + (bs.length + d) / 8 < 8190 → zok (L_MPacker_lowFirst_2 (sh0 W H) fuel 1278 (nI v) (nI N) (nI i) m) (fun q => mQ m q.2.2.2.2 ∧ mBt P (bs ++ loB v i d) q.2.2.2.2) := by
  intro d
  induction d with
  | zero =>
    intro i fuel m bs hn hf hR h hB
    obtain ⟨fu, rfl⟩ : ∃ fu, fuel = fu + 1 := ⟨fuel - 1, by omega⟩
    rw [L_MPacker_lowFirst_2, if_pos (by rw [nI_leD (by omega) (by omega)]; omega)]
    refine zok_s ⟨mQ_r, ?_⟩
    rw [loB, List.append_nil]
    exact h
  | succ d ih =>
    intro i fuel m bs hn hf hR h hB
    obtain ⟨fu, rfl⟩ : ∃ fu, fuel = fu + 1 := ⟨fuel - 1, by omega⟩
    rw [L_MPacker_lowFirst_2, if_neg (by rw [nI_leD (by omega) (by omega)]; omega), zoS_h sh_1278, bitI hv (by omega), nI_p1]
    refine zok_b (m_bit hR h bit_2 (by omega)) (fun m1 h1 => ?_)
    refine zok_w (ih (i + 1) fu m1 (bs ++ [v / 2 ^ i % 2]) (by omega) (by omega) (by rw [h1.1.1]; exact hR) h1.2 (by rw [List.length_append]; show P.length + (bs.length + 1 + d) / 8 < _; omega)) (fun q hq => ⟨mQ_t h1.1 hq.1, ?_⟩)
    have := hq.2
    rw [app_c] at this
    exact this
theorem c_lo {m : zMem} {P : List Int32} {bs : List Nat} {v n : Nat} (hR : RF m.2.2) (h : cBt P bs m) (hv : v < 2147483648) (hn : n ≤ 31) (hB : P.length + (bs.length + n) / 8 < 7958) : zok (F_XPacker_putLowFirst (sh0 W H) m 5 (nI v) (nI n)) (fun m' => cQ m m' ∧ cBt P (bs ++ loB v 0 n) m') := by
  unfold F_XPacker_putLowFirst
  exact zok_b (show zok (L_XPacker_putLowFirst_2 (sh0 W H) zfuel 5 (nI v) (nI n) 0 m) _ from c_lo2 hv hn n 0 zfuel m bs (by omega) (zf_lt (by omega)) hR h hB) (fun q hq => zok_s hq)
theorem m_lo {m : zMem} {P : List Int32} {bs : List Nat} {v n : Nat} (hR : RF m.2.2) (h : mBt P bs m) (hv : v < 2147483648) (hn : n ≤ 31) (hB : P.length + (bs.length + n) / 8 < 8190) : zok (F_MPacker_lowFirst (sh0 W H) m 1278 (nI v) (nI n)) (fun m' => mQ m m' ∧ mBt P (bs ++ loB v 0 n) m') := by
  unfold F_MPacker_lowFirst
  exact zok_b (show zok (L_MPacker_lowFirst_2 (sh0 W H) zfuel 1278 (nI v) (nI n) 0 m) _ from m_lo2 hv hn n 0 zfuel m bs (by omega) (zf_lt (by omega)) hR h hB) (fun q hq => zok_s hq)
/-- low bits are those of the remainder -/
theorem loB_m {v k : Nat} : ∀ d i, i + d ≤ k → loB (v % 2 ^ k) i d = loB v i d := by
  intro d
  induction d with
  | zero => intro i _; rfl
  | succ d ih =>
    intro i hi
    rw [loB, loB, ih (i + 1) (by omega)]
    congr 1
    have e : 2 ^ k = 2 ^ i * (2 * 2 ^ (k - i - 1)) := by
      rw [← Nat.mul_assoc, ← Nat.pow_succ, ← Nat.pow_add]
      congr 1
      omega
    rw [e, Nat.mod_mul_right_div_self, Nat.mod_mul_right_mod]
/-- a sign's bits -/
def sgB (s : Nat) : List Nat := if s < 144 then hiB (48 + s) 8 else if s < 256 then hiB (256 + s) 9 else if s < 280 then hiB (s - 256) 7 else hiB (s - 88) 8
theorem sgB_l {s : Nat} : (sgB s).length ≤ 9 := by
  unfold sgB
  split
  · rw [hiB_l]; decide
  · split
    · rw [hiB_l]; decide
    · split
      · rw [hiB_l]; decide
      · rw [hiB_l]; decide
theorem c_sign {m : zMem} {P : List Int32} {bs : List Nat} {s : Nat} (hR : RF m.2.2) (h : cBt P bs m) (hs : s < 286) (hB : P.length + (bs.length + 9) / 8 < 7958) : zok (F_XPacker_putSign (sh0 W H) m 5 (nI s)) (fun m' => cQ m m' ∧ cBt P (bs ++ sgB s) m') := by
  have e1 : (192 : Int32) + nI s - 280 = nI (192 + s - 280) ∨ s < 88 := by
    by_cases c : s < 88
    · exact Or.inr c
    · left
      rw [show (192 : Int32) = nI 192 from rfl, nI_pp]
      exact nI_sub (b := 280) (by omega)
  unfold F_XPacker_putSign sgB
  by_cases c1 : s < 144
  · rw [if_neg (by rw [show (144 : Int32) = nI 144 from rfl, nI_leD (by decide) (by omega)]; omega), if_pos c1, zoS_h sh_5, show (48 : Int32) + nI s = nI (48 + s) from nI_pp 48 s]
    exact zok_b (c_hi (n := 8) hR h (by omega) (by decide) (by omega)) (fun m1 h1 => zok_s h1)
  rw [if_pos (by rw [show (144 : Int32) = nI 144 from rfl, nI_leD (by decide) (by omega)]; omega), if_neg c1]
  by_cases c2 : s < 256
  · rw [if_neg (by rw [show (256 : Int32) = nI 256 from rfl, nI_leD (by decide) (by omega)]; omega), if_pos c2, zoS_h sh_5, show (400 : Int32) + nI s - 144 = nI (256 + s) by rw [show (400 : Int32) = nI 400 from rfl, nI_pp, show (144 : Int32) = nI 144 from rfl, nI_sub (by omega), show 400 + s - 144 = 256 + s by omega]]
    exact zok_b (c_hi (n := 9) hR h (by omega) (by decide) (by omega)) (fun m1 h1 => zok_s h1)
  rw [if_pos (by rw [show (256 : Int32) = nI 256 from rfl, nI_leD (by decide) (by omega)]; omega), if_neg c2]
  by_cases c3 : s < 280
  · rw [if_neg (by rw [show (280 : Int32) = nI 280 from rfl, nI_leD (by decide) (by omega)]; omega), if_pos c3, zoS_h sh_5, show nI s - 256 = nI (s - 256) from nI_sub (b := 256) (by omega)]
    exact zok_b (c_hi (n := 7) hR h (by omega) (by decide) (by omega)) (fun m1 h1 => zok_s h1)
  · rw [if_pos (by rw [show (280 : Int32) = nI 280 from rfl, nI_leD (by decide) (by omega)]; omega), if_neg c3, zoS_h sh_5, show (192 : Int32) + nI s - 280 = nI (s - 88) by rw [show (192 : Int32) = nI 192 from rfl, nI_pp, show (280 : Int32) = nI 280 from rfl, nI_sub (by omega), show 192 + s - 280 = s - 88 by omega]]
    exact zok_b (c_hi (n := 8) hR h (by omega) (by decide) (by omega)) (fun m1 h1 => zok_s h1)
theorem m_one {m : zMem} {P : List Int32} {bs : List Nat} {s : Nat} (hR : RF m.2.2) (h : mBt P bs m) (hs : s < 256) (hB : P.length + (bs.length + 9) / 8 < 8190) : zok (F_MPacker_one (sh0 W H) m 1278 (nI s)) (fun m' => mQ m m' ∧ mBt P (bs ++ sgB s) m') := by
  unfold F_MPacker_one sgB
  by_cases c1 : s < 144
  · rw [if_neg (by rw [show (144 : Int32) = nI 144 from rfl, nI_leD (by decide) (by omega)]; omega), if_pos c1, zoS_h sh_1278, show (48 : Int32) + nI s = nI (48 + s) from nI_pp 48 s]
    exact zok_b (m_hi (n := 8) hR h (by omega) (by decide) (by omega)) (fun m1 h1 => zok_s h1)
  · rw [if_pos (by rw [show (144 : Int32) = nI 144 from rfl, nI_leD (by decide) (by omega)]; omega), if_neg c1, if_pos hs, zoS_h sh_1278, show (400 : Int32) + nI s - 144 = nI (256 + s) by rw [show (400 : Int32) = nI 400 from rfl, nI_pp, show (144 : Int32) = nI 144 from rfl, nI_sub (by omega), show 400 + s - 144 = 256 + s by omega]]
    exact zok_b (m_hi (n := 9) hR h (by omega) (by decide) (by omega)) (fun m1 h1 => zok_s h1)
end ZCD
