/-! PURE: lengths and distances -/
section ZLD
variable {W H : Nat}
def fL (k : Nat) : Nat := 3 + 2 ^ (k + 2)
def fD (k : Nat) : Nat := 1 + 2 ^ (k + 1)
def kL (n : Nat) : Nat := if n < 19 then 1 else if n < 35 then 2 else if n < 67 then 3 else if n < 131 then 4 else 5
def kD (n : Nat) : Nat := if n < 9 then 1 else if n < 17 then 2 else if n < 33 then 3 else if n < 65 then 4 else if n < 129 then 5 else if n < 257 then 6 else if n < 513 then 7 else if n < 1025 then 8 else if n < 2049 then 9 else if n < 4097 then 10 else if n < 8193 then 11 else 12
theorem kL_v {n : Nat} (h1 : 11 ≤ n) (h2 : n < 258) : (1 ≤ kL n ∧ kL n ≤ 5) ∧ fL (kL n) ≤ n ∧ n < fL (kL n + 1) := by
  unfold kL
  split
  · refine ⟨by decide, ?_, ?_⟩ <;> (unfold fL; omega)
  · split
    · refine ⟨by decide, ?_, ?_⟩ <;> (unfold fL; omega)
    · split
      · refine ⟨by decide, ?_, ?_⟩ <;> (unfold fL; omega)
      · split
        · refine ⟨by decide, ?_, ?_⟩ <;> (unfold fL; omega)
        · refine ⟨by decide, ?_, ?_⟩ <;> (unfold fL; omega)
theorem kD_v {n : Nat} (h1 : 5 ≤ n) (h2 : n < 7000) : (1 ≤ kD n ∧ kD n ≤ 12) ∧ fD (kD n) ≤ n ∧ n < fD (kD n + 1) := by
  unfold kD
  repeat' split
  all_goals (refine ⟨by decide, ?_, ?_⟩ <;> (unfold fD; omega))
theorem fL_s (k : Nat) : fL (k + 1) = fL k + 4 * 2 ^ k := by
  unfold fL
  have e1 : 2 ^ (k + 2) = 2 ^ k * 4 := Nat.pow_add 2 k 2
  have e2 : 2 ^ (k + 1 + 2) = 2 ^ k * 8 := Nat.pow_add 2 k 3
  omega
theorem fD_s (k : Nat) : fD (k + 1) = fD k + 2 * 2 ^ k := by
  unfold fD
  rw [Nat.pow_add, Nat.pow_add, Nat.pow_succ]
  omega
theorem fL_m {a b : Nat} (h : a ≤ b) : fL a ≤ fL b := by
  unfold fL
  have := Nat.pow_le_pow_right (n := 2) (by decide) (show a + 2 ≤ b + 2 by omega)
  omega
theorem fD_m {a b : Nat} (h : a ≤ b) : fD a ≤ fD b := by
  unfold fD
  have := Nat.pow_le_pow_right (n := 2) (by decide) (show a + 1 ≤ b + 1 by omega)
  omega
theorem shl4 : ∀ k : Fin 6, (4 : Int32) <<< (nI k.val &&& 31) = nI (4 * 2 ^ k.val) := by decide +kernel
theorem shl2 : ∀ k : Fin 14, (2 : Int32) <<< (nI k.val &&& 31) = nI (2 * 2 ^ k.val) := by decide +kernel
theorem shl1 : ∀ k : Fin 15, (1 : Int32) <<< (nI k.val &&& 31) = nI (2 ^ k.val) := by decide +kernel
theorem nI_shrK {a k : Nat} (ha : a < 2147483648) (hk : k < 32) : nI a >>> (nI k &&& 31) = nI (a / 2 ^ k) := by
  apply i32_ext
  have : a / 2 ^ k ≤ a := Nat.div_le_self _ _
  rw [i32_shr _ _ k (sm32 ⟨k, hk⟩), nI_toInt ha, nI_toInt (by omega)]
  rfl
theorem c_putLength_38 {m : zMem} {o n : Nat} (hn : n < 258) (hK : 1 ≤ kL n ∧ kL n ≤ 5) (h1 : fL (kL n) ≤ n) (h2 : n < fL (kL n + 1)) : ∀ (d k fuel : Nat), k + d = kL n → 1 ≤ k → d < fuel → L_XPacker_putLength_38 (sh0 W H) fuel o (nI n) (nI k) (nI (fL k)) m = some (o, nI n, nI (kL n), nI (fL (kL n)), m) := by
  intro d
  induction d with
  | zero =>
    intro k fuel hk k1 hf
    obtain ⟨fu, rfl⟩ : ∃ fu, fuel = fu + 1 := ⟨fuel - 1, by omega⟩
    obtain rfl : k = kL n := by omega
    rw [L_XPacker_putLength_38, shl4 ⟨kL n, by omega⟩, nI_pp, ← fL_s]
    have b : fL (kL n + 1) ≤ fL 6 := fL_m (by omega)
    have b2 : fL 6 < 20000 := by unfold fL; decide
    by_cases c : (5 : Int32) ≤ nI (kL n)
    · rw [if_pos c]
    · rw [if_neg c, if_pos (by rw [nI_ltD (by omega) (by omega)]; exact h2)]
  | succ d ih =>
    intro k fuel hk k1 hf
    obtain ⟨fu, rfl⟩ : ∃ fu, fuel = fu + 1 := ⟨fuel - 1, by omega⟩
    have b : fL (k + 1) ≤ fL (kL n) := fL_m (by omega)
    rw [L_XPacker_putLength_38, if_neg (by rw [show (5 : Int32) = nI 5 from rfl, nI_leD (by decide) (by omega)]; omega), shl4 ⟨k, by omega⟩, nI_pp, ← fL_s, if_neg (by rw [nI_ltD (by omega) (by omega)]; omega), zoL_e, nI_p1]
    exact ih (k + 1) fu (by omega) (by omega) (by omega)
theorem c_putDistance_18 {m : zMem} {o n : Nat} (hn : n < 7000) (hK : 1 ≤ kD n ∧ kD n ≤ 12) (h1 : fD (kD n) ≤ n) (h2 : n < fD (kD n + 1)) : ∀ (d k fuel : Nat), k + d = kD n → 1 ≤ k → d < fuel → L_XPacker_putDistance_18 (sh0 W H) fuel o (nI n) (nI k) (nI (fD k)) m = some (o, nI n, nI (kD n), nI (fD (kD n)), m) := by
  intro d
  induction d with
  | zero =>
    intro k fuel hk k1 hf
    obtain ⟨fu, rfl⟩ : ∃ fu, fuel = fu + 1 := ⟨fuel - 1, by omega⟩
    obtain rfl : k = kD n := by omega
    rw [L_XPacker_putDistance_18, shl2 ⟨kD n, by omega⟩, nI_pp, ← fD_s]
    have b : fD (kD n + 1) ≤ fD 13 := fD_m (by omega)
    have b2 : fD 13 < 20000 := by unfold fD; decide
    by_cases c : (13 : Int32) ≤ nI (kD n)
    · rw [if_pos c]
    · rw [if_neg c, if_pos (by rw [nI_ltD (by omega) (by omega)]; exact h2)]
  | succ d ih =>
    intro k fuel hk k1 hf
    obtain ⟨fu, rfl⟩ : ∃ fu, fuel = fu + 1 := ⟨fuel - 1, by omega⟩
    have b : fD (k + 1) ≤ fD (kD n) := fD_m (by omega)
    rw [L_XPacker_putDistance_18, if_neg (by rw [show (13 : Int32) = nI 13 from rfl, nI_leD (by decide) (by omega)]; omega), shl2 ⟨k, by omega⟩, nI_pp, ← fD_s, if_neg (by rw [nI_ltD (by omega) (by omega)]; omega), zoL_e, nI_p1]
    exact ih (k + 1) fu (by omega) (by omega) (by omega)
/-- a length's and a distance's bits -/
def lnS (n : Nat) : Nat := 261 + 4 * kL n + (n - fL (kL n)) / 2 ^ kL n
def lnB (n : Nat) : List Nat := if n < 11 then sgB (257 + n - 3) else if n = 258 then sgB 285 else sgB (lnS n) ++ loB (n - fL (kL n)) 0 (kL n)
def dsS (d : Nat) : Nat := 2 + 2 * kD d + (d - fD (kD d)) / 2 ^ kD d
def dsB (d : Nat) : List Nat := if d < 5 then hiB (d - 1) 5 else hiB (dsS d) 5 ++ loB (d - fD (kD d)) 0 (kD d)
theorem lnS_b {n : Nat} (h1 : 11 ≤ n) (h2 : n < 258) : (n - fL (kL n)) / 2 ^ kL n < 4 ∧ 265 ≤ lnS n ∧ lnS n < 286 := by
  obtain ⟨⟨a1, a2⟩, a3, a4⟩ := kL_v h1 h2
  rw [fL_s] at a4
  have : (n - fL (kL n)) / 2 ^ kL n < 4 := Nat.div_lt_of_lt_mul (by rw [Nat.mul_comm]; omega)
  unfold lnS
  generalize (n - fL (kL n)) / 2 ^ kL n = e at *
  exact ⟨this, by omega, by omega⟩
theorem dsS_b {n : Nat} (h1 : 5 ≤ n) (h2 : n < 7000) : (n - fD (kD n)) / 2 ^ kD n < 2 ∧ dsS n < 32 := by
  obtain ⟨⟨a1, a2⟩, a3, a4⟩ := kD_v h1 h2
  rw [fD_s] at a4
  have : (n - fD (kD n)) / 2 ^ kD n < 2 := Nat.div_lt_of_lt_mul (by rw [Nat.mul_comm]; omega)
  exact ⟨this, by unfold dsS; omega⟩
theorem sgB_l8 {s : Nat} (h : 256 ≤ s) : (sgB s).length ≤ 8 ∧ (s < 280 → (sgB s).length = 7) := by
  unfold sgB
  rw [if_neg (by omega), if_neg (by omega)]
  split
  · rw [hiB_l]; exact ⟨by decide, fun _ => rfl⟩
  · rw [hiB_l]; exact ⟨by decide, fun q => absurd q (by assumption)⟩
theorem ld_l {n d : Nat} (h3 : 3 ≤ n) (hn : n ≤ 258) (hd : d < 7000) : (lnB n).length ≤ 13 ∧ (dsB d).length ≤ 17 ∧ (lnB n).length + (dsB d).length ≤ 9 * n := by
  have a1 : (dsB d).length ≤ 17 := by
    unfold dsB
    split
    · rw [hiB_l]; decide
    · rw [List.length_append, hiB_l, loB_l]
      have := (kD_v (n := d) (by omega) hd).1
      omega
  have a2 : (lnB n).length ≤ 13 ∧ (n < 11 → (lnB n).length = 7) := by
    unfold lnB
    split
    · have := (sgB_l8 (s := 257 + n - 3) (by omega)).2 (by omega)
      omega
    · split
      · have := (sgB_l8 (s := 285) (by decide)).1
        omega
      · rw [List.length_append, loB_l]
        have b := (lnS_b (n := n) (by omega) (by omega)).2
        have := (sgB_l8 (s := lnS n) (by omega)).1
        have := (kL_v (n := n) (by omega) (by omega)).1
        omega
  refine ⟨a2.1, a1, ?_⟩
  by_cases c : n < 11
  · have := a2.2 c
    omega
  · omega
theorem c_len {m : zMem} {P : List Int32} {bs : List Nat} {n : Nat} (hR : RF m.2.2) (h : cBt P bs m) (h3 : 3 ≤ n) (hn : n ≤ 258) (hB : P.length + (bs.length + 13) / 8 < 7958) : zok (F_XPacker_putLength (sh0 W H) m 5 (nI n)) (fun m' => cQ m m' ∧ cBt P (bs ++ lnB n) m') := by
  unfold F_XPacker_putLength lnB
  by_cases c1 : n < 11
  · rw [if_neg (by rw [show (11 : Int32) = nI 11 from rfl, nI_leD (by decide) (by omega)]; omega), if_pos c1, zoS_h sh_5, show (257 : Int32) + nI n - 3 = nI (257 + n - 3) by rw [show (257 : Int32) = nI 257 from rfl, nI_pp]; exact nI_sub (b := 3) (by omega)]
    exact zok_b (c_sign hR h (by omega) (by omega)) (fun m1 h1 => zok_s h1)
  rw [if_pos (by rw [show (11 : Int32) = nI 11 from rfl, nI_leD (by decide) (by omega)]; omega), if_neg c1]
  by_cases c2 : n = 258
  · rw [if_pos (show nI n = 258 by rw [c2]; rfl), if_pos c2, zoS_h sh_5]
    exact zok_b (c_sign (s := 285) hR h (by decide) (by omega)) (fun m1 h1 => zok_s h1)
  obtain ⟨a1, a2, a3⟩ := kL_v (n := n) (by omega) (by omega)
  obtain ⟨b1, b2, b3⟩ := lnS_b (n := n) (by omega) (by omega)
  have hl := c_putLength_38 (W := W) (H := H) (m := m) (o := 5) (n := n) (by omega) a1 a2 a3 (kL n - 1) 1 zfuel (by omega) (by decide) (zf_lt (by omega))
  have hl' : L_XPacker_putLength_38 (sh0 W H) zfuel 5 (nI n) 1 11 m = some (5, nI n, nI (kL n), nI (fL (kL n)), m) := hl
  rw [if_neg (show ¬ (nI n = 258) from fun q => c2 ((nI_eqD (b := 258) (by omega) (by decide)).mp q)), if_neg c2, zob_h hl']
  dsimp only
  rw [zoS_h sh_5, nI_sub a2, nI_shrK (by omega) (by omega), nI_4mul, show (261 : Int32) + nI (4 * kL n) = nI (261 + 4 * kL n) from nI_pp 261 _, nI_pp, zoL_e]
  refine zok_b (c_sign (s := lnS n) hR h b3 (by omega)) (fun m1 h1 => ?_)
  rw [zoS_h sh_5]
  refine zok_b (c_lo (by rw [h1.1.1]; exact hR) h1.2 (by omega) (by omega) (by rw [List.length_append]; have := (sgB_l8 (s := lnS n) (by omega)).1; omega)) (fun m2 h2 => zok_s ⟨cQ_t h1.1 h2.1, ?_⟩)
  have := h2.2
  rw [List.append_assoc] at this
  exact this
theorem c_dis {m : zMem} {P : List Int32} {bs : List Nat} {d : Nat} (hR : RF m.2.2) (h : cBt P bs m) (h1 : 1 ≤ d) (hd : d < 7000) (hB : P.length + (bs.length + 17) / 8 < 7958) : zok (F_XPacker_putDistance (sh0 W H) m 5 (nI d)) (fun m' => cQ m m' ∧ cBt P (bs ++ dsB d) m') := by
  unfold F_XPacker_putDistance dsB
  by_cases c1 : d < 5
  · rw [if_neg (by rw [show (5 : Int32) = nI 5 from rfl, nI_leD (by decide) (by omega)]; omega), if_pos c1, zoS_h sh_5, show nI d - 1 = nI (d - 1) from nI_sub (b := 1) h1]
    exact zok_b (c_hi (n := 5) hR h (by omega) (by decide) (by omega)) (fun m1 h1 => zok_s h1)
  obtain ⟨a1, a2, a3⟩ := kD_v (n := d) (by omega) (by omega)
  obtain ⟨b1, b2⟩ := dsS_b (n := d) (by omega) (by omega)
  have hl := c_putDistance_18 (W := W) (H := H) (m := m) (o := 5) (n := d) (by omega) a1 a2 a3 (kD d - 1) 1 zfuel (by omega) (by decide) (zf_lt (by omega))
  have hl' : L_XPacker_putDistance_18 (sh0 W H) zfuel 5 (nI d) 1 5 m = some (5, nI d, nI (kD d), nI (fD (kD d)), m) := hl
  rw [if_pos (by rw [show (5 : Int32) = nI 5 from rfl, nI_leD (by decide) (by omega)]; omega), if_neg c1, zob_h hl']
  dsimp only
  rw [zoS_h sh_5, nI_sub a2, nI_shrK (by omega) (by omega), nI_2mul, show (2 : Int32) + nI (2 * kD d) = nI (2 + 2 * kD d) from nI_pp 2 _, nI_pp, zoL_e]
  refine zok_b (c_hi (v := dsS d) (n := 5) hR h (by omega) (by decide) (by omega)) (fun m1 h1 => ?_)
  rw [zoS_h sh_5]
  refine zok_b (c_lo (by rw [h1.1.1]; exact hR) h1.2 (by omega) (by omega) (by rw [List.length_append, hiB_l]; omega)) (fun m2 h2 => zok_s ⟨cQ_t h1.1 h2.1, ?_⟩)
  have := h2.2
  rw [List.append_assoc] at this
  exact this
theorem m_run_32 {m : zMem} {o n : Nat} {s0 : Int32} (hlo : 11 ≤ n) (hn : n < 258) (hK : 1 ≤ kL n ∧ kL n ≤ 5) (h1 : fL (kL n) ≤ n) (h2 : n < fL (kL n + 1)) : ∀ (d k fuel : Nat), k + d = 6 → 1 ≤ k → d < fuel → L_MPacker_run_32 (sh0 W H) fuel o (nI n) (if kL n < k then nI (lnS n) else s0) (if kL n < k then nI (kL n) else 0) (if kL n < k then nI ((n - fL (kL n)) % 2 ^ kL n) else 0) (nI (fL k)) (nI k) m = some (o, nI n, nI (lnS n), nI (kL n), nI ((n - fL (kL n)) % 2 ^ kL n), nI (fL 6), nI 6, m) := by
  intro d
  induction d with
  | zero =>
    intro k fuel hk k1 hf
    obtain ⟨fu, rfl⟩ : ∃ fu, fuel = fu + 1 := ⟨fuel - 1, by omega⟩
    obtain rfl : k = 6 := by omega
    rw [L_MPacker_run_32, if_pos (by decide), if_pos (by omega), if_pos (by omega), if_pos (by omega)]
  | succ d ih =>
    intro k fuel hk k1 hf
    obtain ⟨fu, rfl⟩ : ∃ fu, fuel = fu + 1 := ⟨fuel - 1, by omega⟩
    have p0 : 0 < 2 ^ k := Nat.two_pow_pos k
    have pb : 2 ^ k ≤ 2 ^ 5 := Nat.pow_le_pow_right (by decide) (by omega)
    have fb : fL (k + 1) ≤ fL 6 := fL_m (by omega)
    have fb2 : fL 6 < 100000 := by unfold fL; decide
    have fk : fL (k + 1) = fL k + 4 * 2 ^ k := fL_s k
    rw [L_MPacker_run_32, if_neg (by rw [show (5 : Int32) = nI 5 from rfl, nI_ltD (by decide) (by omega)]; omega), if_neg (by rw [show (11 : Int32) = nI 11 from rfl, nI_ltD (by omega) (by decide)]; omega), if_neg (by rw [show (258 : Int32) = nI 258 from rfl, nI_leD (by decide) (by omega)]; omega), shl1 ⟨k, by omega⟩, zoL_e, nI_4mul, nI_pp, ← fk]
    by_cases c1 : n < fL k
    · have ck : ¬ fL k ≤ fL (kL n) := by omega
      have kk' : kL n < k := by
        by_cases e : k ≤ kL n
        · exact absurd (fL_m e) ck
        · omega
      rw [if_pos (by rw [nI_ltD (by omega) (by omega)]; exact c1), zoL_e, if_pos kk', if_pos kk', if_pos kk', nI_p1]
      have := ih (k + 1) fu (by omega) (by omega) (by omega)
      rw [if_pos (by omega), if_pos (by omega), if_pos (by omega)] at this
      exact this
    rw [if_neg (by rw [nI_ltD (by omega) (by omega)]; exact c1)]
    by_cases c2 : fL (k + 1) ≤ n
    · have kk' : k < kL n := by
        by_cases e : kL n ≤ k
        · have := fL_m (show kL n + 1 ≤ k + 1 by omega)
          omega
        · omega
      rw [if_pos (by rw [nI_leD (by omega) (by omega)]; exact c2), zoL_e, if_neg (by omega), if_neg (by omega), if_neg (by omega), nI_p1]
      have := ih (k + 1) fu (by omega) (by omega) (by omega)
      rw [if_neg (by omega), if_neg (by omega), if_neg (by omega)] at this
      exact this
    · have kk' : k = kL n := by
        by_cases e : k < kL n
        · have := fL_m (show k + 1 ≤ kL n by omega)
          omega
        · by_cases e2 : kL n < k
          · have := fL_m (show kL n + 1 ≤ k by omega)
            omega
          · omega
      have nz : ¬ nI (2 ^ k) = 0 := fun q => by
        have := (nI_eqD (a := 2 ^ k) (b := 0) (by omega) (by decide)).mp q
        omega
      rw [if_neg (by rw [nI_leD (by omega) (by omega)]; exact c2), if_neg nz, nI_sub (show fL k ≤ n by omega), nI_div (by omega) (by omega) p0, nI_4mul, show (261 : Int32) + nI (4 * k) = nI (261 + 4 * k) from nI_pp 261 _, nI_pp, zoL_e, if_neg nz, zoL_e, nI_rm (by omega) (by omega) p0, zoL_e, nI_p1]
      have := ih (k + 1) fu (by omega) (by omega) (by omega)
      rw [if_pos (by omega), if_pos (by omega), if_pos (by omega)] at this
      rw [kk']
      rw [kk'] at this
      exact this
theorem m_distance_15 {m : zMem} {o n : Nat} {s0 : Int32} (hlo : 5 ≤ n) (hn : n < 7000) (hK : 1 ≤ kD n ∧ kD n ≤ 12) (h1 : fD (kD n) ≤ n) (h2 : n < fD (kD n + 1)) : ∀ (d k fuel : Nat), k + d = 14 → 1 ≤ k → d < fuel → L_MPacker_distance_15 (sh0 W H) fuel o (nI n) (if kD n < k then nI (dsS n) else s0) (if kD n < k then nI (kD n) else 0) (if kD n < k then nI ((n - fD (kD n)) % 2 ^ kD n) else 0) (nI (fD k)) (nI k) m = some (o, nI n, nI (dsS n), nI (kD n), nI ((n - fD (kD n)) % 2 ^ kD n), nI (fD 14), nI 14, m) := by
  intro d
  induction d with
  | zero =>
    intro k fuel hk k1 hf
    obtain ⟨fu, rfl⟩ : ∃ fu, fuel = fu + 1 := ⟨fuel - 1, by omega⟩
    obtain rfl : k = 14 := by omega
    rw [L_MPacker_distance_15, if_pos (by decide), if_pos (by omega), if_pos (by omega), if_pos (by omega)]
  | succ d ih =>
    intro k fuel hk k1 hf
    obtain ⟨fu, rfl⟩ : ∃ fu, fuel = fu + 1 := ⟨fuel - 1, by omega⟩
    have p0 : 0 < 2 ^ k := Nat.two_pow_pos k
    have pb : 2 ^ k ≤ 2 ^ 13 := Nat.pow_le_pow_right (by decide) (by omega)
    have fb : fD (k + 1) ≤ fD 14 := fD_m (by omega)
    have fb2 : fD 14 < 100000 := by unfold fD; decide
    have fk : fD (k + 1) = fD k + 2 * 2 ^ k := fD_s k
    rw [L_MPacker_distance_15, if_neg (by rw [show (13 : Int32) = nI 13 from rfl, nI_ltD (by decide) (by omega)]; omega), if_neg (by rw [show (5 : Int32) = nI 5 from rfl, nI_ltD (by omega) (by decide)]; omega), shl1 ⟨k, by omega⟩, zoL_e, nI_2mul, nI_pp, ← fk]
    by_cases c1 : n < fD k
    · have ck : ¬ fD k ≤ fD (kD n) := by omega
      have kk' : kD n < k := by
        by_cases e : k ≤ kD n
        · exact absurd (fD_m e) ck
        · omega
      rw [if_pos (by rw [nI_ltD (by omega) (by omega)]; exact c1), zoL_e, if_pos kk', if_pos kk', if_pos kk', nI_p1]
      have := ih (k + 1) fu (by omega) (by omega) (by omega)
      rw [if_pos (by omega), if_pos (by omega), if_pos (by omega)] at this
      exact this
    rw [if_neg (by rw [nI_ltD (by omega) (by omega)]; exact c1)]
    by_cases c2 : fD (k + 1) ≤ n
    · have kk' : k < kD n := by
        by_cases e : kD n ≤ k
        · have := fD_m (show kD n + 1 ≤ k + 1 by omega)
          omega
        · omega
      rw [if_pos (by rw [nI_leD (by omega) (by omega)]; exact c2), zoL_e, if_neg (by omega), if_neg (by omega), if_neg (by omega), nI_p1]
      have := ih (k + 1) fu (by omega) (by omega) (by omega)
      rw [if_neg (by omega), if_neg (by omega), if_neg (by omega)] at this
      exact this
    · have kk' : k = kD n := by
        by_cases e : k < kD n
        · have := fD_m (show k + 1 ≤ kD n by omega)
          omega
        · by_cases e2 : kD n < k
          · have := fD_m (show kD n + 1 ≤ k by omega)
            omega
          · omega
      have nz : ¬ nI (2 ^ k) = 0 := fun q => by
        have := (nI_eqD (a := 2 ^ k) (b := 0) (by omega) (by decide)).mp q
        omega
      rw [if_neg (by rw [nI_leD (by omega) (by omega)]; exact c2), if_neg nz, nI_sub (show fD k ≤ n by omega), nI_div (by omega) (by omega) p0, nI_2mul, show (2 : Int32) + nI (2 * k) = nI (2 + 2 * k) from nI_pp 2 _, nI_pp, zoL_e, if_neg nz, zoL_e, nI_rm (by omega) (by omega) p0, zoL_e, nI_p1]
      have := ih (k + 1) fu (by omega) (by omega) (by omega)
      rw [if_pos (by omega), if_pos (by omega), if_pos (by omega)] at this
      rw [kk']
      rw [kk'] at this
      exact this
end ZLD
