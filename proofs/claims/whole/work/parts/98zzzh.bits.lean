/-! PURE: both packers put bits -/
section ZBI
variable {W H : Nat}
def byN (bs : List Nat) (j : Nat) : Nat := bs.getD (8 * j) 0 + 2 * bs.getD (8 * j + 1) 0 + 4 * bs.getD (8 * j + 2) 0 + 8 * bs.getD (8 * j + 3) 0 + 16 * bs.getD (8 * j + 4) 0 + 32 * bs.getD (8 * j + 5) 0 + 64 * bs.getD (8 * j + 6) 0 + 128 * bs.getD (8 * j + 7) 0
def bOK (bs : List Nat) : Prop := ∀ i, bs.getD i 0 < 2
theorem gD_out {bs : List Nat} {i : Nat} (h : bs.length ≤ i) : bs.getD i 0 = 0 := by
  rw [List.getD_eq_getElem?_getD, List.getElem?_eq_none h]
  rfl
theorem gD_s {bs : List Nat} {b i : Nat} : (bs ++ [b]).getD i 0 = bs.getD i 0 + if i = bs.length then b else 0 := by
  by_cases h : i < bs.length
  · rw [List.getD_eq_getElem?_getD, List.getElem?_append_left h, ← List.getD_eq_getElem?_getD, if_neg (by omega)]
    rfl
  · rw [gD_out (show bs.length ≤ i by omega), List.getD_eq_getElem?_getD, List.getElem?_append_right (by omega)]
    by_cases e : i = bs.length
    · rw [if_pos e, e, Nat.sub_self, Nat.zero_add]
      rfl
    · rw [if_neg e, List.getElem?_eq_none (by show 1 ≤ _; omega)]
      rfl
theorem bOK_s {bs : List Nat} {b : Nat} (h : bOK bs) (hb : b < 2) : bOK (bs ++ [b]) := by
  intro i
  rw [gD_s]
  by_cases e : i = bs.length
  · rw [if_pos e, gD_out (by omega)]
    omega
  · rw [if_neg e]
    exact h i
theorem byN_s {bs : List Nat} {b j : Nat} : byN (bs ++ [b]) j = byN bs j + if j = bs.length / 8 then b * 2 ^ (bs.length % 8) else 0 := by
  unfold byN
  rw [gD_s, gD_s, gD_s, gD_s, gD_s, gD_s, gD_s, gD_s]
  generalize bs.length = n
  by_cases e : j = n / 8
  · rw [if_pos e]
    rcases (show n % 8 = 0 ∨ n % 8 = 1 ∨ n % 8 = 2 ∨ n % 8 = 3 ∨ n % 8 = 4 ∨ n % 8 = 5 ∨ n % 8 = 6 ∨ n % 8 = 7 by omega) with r | r | r | r | r | r | r | r <;> rw [r]
    · rw [if_pos (show 8 * j = n by omega), if_neg (by omega), if_neg (by omega), if_neg (by omega), if_neg (by omega), if_neg (by omega), if_neg (by omega), if_neg (by omega)]; omega
    · rw [if_neg (by omega), if_pos (show 8 * j + 1 = n by omega), if_neg (by omega), if_neg (by omega), if_neg (by omega), if_neg (by omega), if_neg (by omega), if_neg (by omega)]; omega
    · rw [if_neg (by omega), if_neg (by omega), if_pos (show 8 * j + 2 = n by omega), if_neg (by omega), if_neg (by omega), if_neg (by omega), if_neg (by omega), if_neg (by omega)]; omega
    · rw [if_neg (by omega), if_neg (by omega), if_neg (by omega), if_pos (show 8 * j + 3 = n by omega), if_neg (by omega), if_neg (by omega), if_neg (by omega), if_neg (by omega)]; omega
    · rw [if_neg (by omega), if_neg (by omega), if_neg (by omega), if_neg (by omega), if_pos (show 8 * j + 4 = n by omega), if_neg (by omega), if_neg (by omega), if_neg (by omega)]; omega
    · rw [if_neg (by omega), if_neg (by omega), if_neg (by omega), if_neg (by omega), if_neg (by omega), if_pos (show 8 * j + 5 = n by omega), if_neg (by omega), if_neg (by omega)]; omega
    · rw [if_neg (by omega), if_neg (by omega), if_neg (by omega), if_neg (by omega), if_neg (by omega), if_neg (by omega), if_pos (show 8 * j + 6 = n by omega), if_neg (by omega)]; omega
    · rw [if_neg (by omega), if_neg (by omega), if_neg (by omega), if_neg (by omega), if_neg (by omega), if_neg (by omega), if_neg (by omega), if_pos (show 8 * j + 7 = n by omega)]; omega
  · rw [if_neg e, if_neg (by omega), if_neg (by omega), if_neg (by omega), if_neg (by omega), if_neg (by omega), if_neg (by omega), if_neg (by omega), if_neg (by omega)]
    omega
theorem byN_lt {bs : List Nat} (h : bOK bs) : byN bs (bs.length / 8) < 2 ^ (bs.length % 8) := by
  unfold byN
  have g := fun t (ht : bs.length ≤ 8 * (bs.length / 8) + t) => gD_out ht
  have k := fun t => h (8 * (bs.length / 8) + t)
  have k0 := k 0
  have k1 := k 1
  have k2 := k 2
  have k3 := k 3
  have k4 := k 4
  have k5 := k 5
  have k6 := k 6
  have k7 := k 7
  rw [Nat.add_zero] at k0
  rcases (show bs.length % 8 = 0 ∨ bs.length % 8 = 1 ∨ bs.length % 8 = 2 ∨ bs.length % 8 = 3 ∨ bs.length % 8 = 4 ∨ bs.length % 8 = 5 ∨ bs.length % 8 = 6 ∨ bs.length % 8 = 7 by omega) with r | r | r | r | r | r | r | r <;> rw [r]
  · rw [gD_out (i := 8 * (bs.length / 8)) (by omega), g 1 (by omega), g 2 (by omega), g 3 (by omega), g 4 (by omega), g 5 (by omega), g 6 (by omega), g 7 (by omega)]; decide
  · rw [g 1 (by omega), g 2 (by omega), g 3 (by omega), g 4 (by omega), g 5 (by omega), g 6 (by omega), g 7 (by omega)]; omega
  · rw [g 2 (by omega), g 3 (by omega), g 4 (by omega), g 5 (by omega), g 6 (by omega), g 7 (by omega)]; omega
  · rw [g 3 (by omega), g 4 (by omega), g 5 (by omega), g 6 (by omega), g 7 (by omega)]; omega
  · rw [g 4 (by omega), g 5 (by omega), g 6 (by omega), g 7 (by omega)]; omega
  · rw [g 5 (by omega), g 6 (by omega), g 7 (by omega)]; omega
  · rw [g 6 (by omega), g 7 (by omega)]; omega
  · rw [g 7 (by omega)]; omega
theorem byN_0 {bs : List Nat} {j : Nat} (h : bs.length ≤ 8 * j) : byN bs j = 0 := by
  unfold byN
  rw [gD_out (by omega), gD_out (by omega), gD_out (by omega), gD_out (by omega), gD_out (by omega), gD_out (by omega), gD_out (by omega), gD_out (by omega)]
theorem shl_b : ∀ r : Fin 8, ∀ b : Fin 2, nI b.val <<< (nI r.val &&& 31) = nI (b.val * 2 ^ r.val) := by decide +kernel
theorem or_b {r v b : Nat} (hr : r < 8) (hv : v < 2 ^ r) (hb : b < 2) : nI v ||| (nI b <<< (nI r &&& 31)) = nI (v + b * 2 ^ r) := by
  have p : 2 ^ r ≤ 2 ^ 7 := Nat.pow_le_pow_right (by decide) (by omega)
  have hm : b * 2 ^ r ≤ 1 * 2 ^ r := Nat.mul_le_mul_right _ (by omega)
  rw [shl_b ⟨r, hr⟩ ⟨b, hb⟩, Int32.or_comm, nI_or (c := b) r rfl hv (by omega), Nat.add_comm]
theorem or_m : ∀ r : Fin 8, ∀ v : Fin 128, ∀ b : Fin 2, v.val < 2 ^ r.val → vp_nar .byte ((((st8 (nI v.val)) ||| ((nI b.val <<< (nI r.val &&& 31)).toInt8.toInt32))).toInt8.toInt32) = st8 (nI (v.val + b.val * 2 ^ r.val)) := by decide +kernel
/-- the class's bits behind the bytes P -/
def cBt (P : List Int32) (bs : List Nat) (m : zMem) : Prop := m.1 5 1 = nI (P.length + bs.length / 8) ∧ (∀ k, k < P.length → m.1 6 k = P.getD k 0) ∧ (∀ j, j < bs.length / 8 → m.1 6 (P.length + j) = st8 (nI (byN bs j))) ∧ m.1 5 9 = nI (byN bs (bs.length / 8)) ∧ m.1 5 10 = nI (bs.length % 8) ∧ bOK bs
def mBt (P : List Int32) (bs : List Nat) (m : zMem) : Prop := m.1 1278 3 = nI (P.length + (bs.length + 7) / 8) ∧ (∀ k, k < P.length → m.1 1280 k = P.getD k 0) ∧ (∀ j, j < (bs.length + 7) / 8 → m.1 1280 (P.length + j) = st8 (nI (byN bs j))) ∧ m.1 1278 4 = nI (bs.length % 8) ∧ bOK bs
def cQ (m m' : zMem) : Prop := m'.2 = m.2 ∧ (∀ k, k ≠ 5 → k ≠ 6 → m'.1 k = m.1 k) ∧ ∀ c, c ≠ 1 → c ≠ 9 → c ≠ 10 → m'.1 5 c = m.1 5 c
def mQ (m m' : zMem) : Prop := m'.2 = m.2 ∧ (∀ k, k ≠ 1278 → k ≠ 1280 → m'.1 k = m.1 k) ∧ ∀ c, c ≠ 3 → c ≠ 4 → m'.1 1278 c = m.1 1278 c
theorem cQ_r {m : zMem} : cQ m m := ⟨rfl, fun _ _ _ => rfl, fun _ _ _ _ => rfl⟩
theorem mQ_r {m : zMem} : mQ m m := ⟨rfl, fun _ _ _ => rfl, fun _ _ _ => rfl⟩
theorem cQ_t {m m' m'' : zMem} (h : cQ m m') (k : cQ m' m'') : cQ m m'' := ⟨k.1.trans h.1, fun x h1 h2 => (k.2.1 x h1 h2).trans (h.2.1 x h1 h2), fun x h1 h2 h3 => (k.2.2 x h1 h2 h3).trans (h.2.2 x h1 h2 h3)⟩
theorem mQ_t {m m' m'' : zMem} (h : mQ m m') (k : mQ m' m'') : mQ m m'' := ⟨k.1.trans h.1, fun x h1 h2 => (k.2.1 x h1 h2).trans (h.2.1 x h1 h2), fun x h1 h2 => (k.2.2 x h1 h2).trans (h.2.2 x h1 h2)⟩
theorem c_bit {m : zMem} {P : List Int32} {bs : List Nat} {b : Nat} (hR : RF m.2.2) (h : cBt P bs m) (hb : b < 2) (hB : P.length + bs.length / 8 < 7958) : zok (F_XPacker_putBit (sh0 W H) m 5 (nI b)) (fun m' => cQ m m' ∧ cBt P (bs ++ [b]) m') := by
  obtain ⟨h1, h2, h3, h4, h5, h6⟩ := h
  have lt := byN_lt h6
  have eo := or_b (r := bs.length % 8) (v := byN bs (bs.length / 8)) (b := b) (by omega) lt hb
  have ln : (bs ++ [b]).length = bs.length + 1 := by rw [List.length_append]; rfl
  have by0 : byN (bs ++ [b]) (bs.length / 8) = byN bs (bs.length / 8) + b * 2 ^ (bs.length % 8) := by rw [byN_s, if_pos rfl]
  have byj : ∀ j, j < bs.length / 8 → byN (bs ++ [b]) j = byN bs j := fun j hj => by rw [byN_s, if_neg (by omega)]; rfl
  have sx := sh_5 (W := W) (H := H)
  unfold F_XPacker_putBit
  rw [zoS_h sx, zoS_h sx, h4, h5, eo, zoL_e, zoS_h sx, zoL_e, zoS_h sx, mI_v, if_pos rfl, if_neg (show ¬ (10 = 9) by decide), h5, nI_p1, zoL_e, zoS_h sx, zoL_e, zoS_h sx]
  generalize hm1 : mI (mI m 5 9 (nI (byN bs (bs.length / 8) + b * 2 ^ (bs.length % 8)))) 5 10 (nI (bs.length % 8 + 1)) = m1
  have r1 : m1.2 = m.2 := by rw [← hm1]; rfl
  have o1 : ∀ a, a ≠ 5 → m1.1 a = m.1 a := fun a ha => by rw [← hm1, mI_o ha, mI_o ha]
  have v1 : ∀ c, m1.1 5 c = if c = 10 then nI (bs.length % 8 + 1) else if c = 9 then nI (byN bs (bs.length / 8) + b * 2 ^ (bs.length % 8)) else m.1 5 c := fun c => by rw [← hm1, mI_v, if_pos rfl, mI_v, if_pos rfl]
  have g10 : m1.1 5 10 = nI (bs.length % 8 + 1) := by rw [v1, if_pos rfl]
  have g9 : m1.1 5 9 = nI (byN bs (bs.length / 8) + b * 2 ^ (bs.length % 8)) := by rw [v1, if_neg (by decide), if_pos rfl]
  have g1 : m1.1 5 1 = nI (P.length + bs.length / 8) := by rw [v1, if_neg (by decide), if_neg (by decide)]; exact h1
  have R1 : RF m1.2.2 := by rw [r1]; exact hR
  rw [g10]
  by_cases c : bs.length % 8 = 7
  · rw [if_pos (by rw [c]; rfl), zoS_h sx, zoS_h sx, zob_h (rf_5_0 R1), sh_6, zoA_e (by decide), g1, if_neg (by show ¬ (nI 7958 ≤ nI _); rw [nI_leD (by decide) (by omega)]; omega), zoS_h sx, zob_h (rf_5_0 R1), zoS_h sx, zoS_h sx, g9, zoL_e, zoL_e, zoS_h sh_6, nI_ix hB (by decide), nI_cl (n := P.length + bs.length / 8) (by omega), zoL_e, zoS_h sx, mI_o (show 5 ≠ 6 by decide), g1, nI_p1, zoL_e, zoS_h sx, zoL_e, zoS_h sx, zoL_e, zoS_h sx, zoL_e]
    refine zok_s ⟨⟨r1, fun k k5 k6 => by rw [mI_o k5, mI_o k5, mI_o k5, mI_o k6, o1 k k5], fun d d1 d9 d10 => by rw [mI_v, if_pos rfl, if_neg d10, mI_v, if_pos rfl, if_neg d9, mI_v, if_pos rfl, if_neg d1, mI_o (by decide), v1, if_neg d10, if_neg d9]⟩, ?_, fun k hk => ?_, fun j hj => ?_, ?_, ?_, bOK_s h6 hb⟩
    · rw [mI_v, if_pos rfl, if_neg (by decide), mI_v, if_pos rfl, if_neg (by decide), mI_v, if_pos rfl, if_pos rfl, ln, show (bs.length + 1) / 8 = bs.length / 8 + 1 by omega, Nat.add_assoc]
    · rw [mI_o (by decide), mI_o (by decide), mI_o (by decide), mI_v, if_pos rfl, if_neg (by omega), o1 6 (by decide)]
      exact h2 k hk
    · rw [ln] at hj
      rw [mI_o (by decide), mI_o (by decide), mI_o (by decide), mI_v, if_pos rfl]
      by_cases e : j = bs.length / 8
      · rw [if_pos (by omega), e, by0]
        rfl
      · rw [if_neg (by omega), o1 6 (by decide), byj j (by omega)]
        exact h3 j (by omega)
    · rw [mI_v, if_pos rfl, if_neg (by decide), mI_v, if_pos rfl, if_pos rfl, byN_0 (by rw [ln]; omega)]
      rfl
    · rw [mI_v, if_pos rfl, if_pos rfl, ln, show (bs.length + 1) % 8 = 0 by omega]
      rfl
  · rw [if_neg (show ¬ (nI (bs.length % 8 + 1) = 8) from fun q => by have := (nI_eqD (a := bs.length % 8 + 1) (b := 8) (by omega) (by decide)).mp q; omega)]
    refine zok_s ⟨⟨r1, fun k k5 _ => o1 k k5, fun d _ d9 d10 => by rw [v1, if_neg d10, if_neg d9]⟩, ?_, fun k hk => by rw [o1 6 (by decide)]; exact h2 k hk, fun j hj => ?_, ?_, ?_, bOK_s h6 hb⟩
    · rw [g1, ln, show (bs.length + 1) / 8 = bs.length / 8 by omega]
    · rw [ln] at hj
      rw [o1 6 (by decide), byj j (by omega)]
      exact h3 j (by omega)
    · rw [g9, ln, show (bs.length + 1) / 8 = bs.length / 8 by omega, by0]
    · rw [g10, ln, show (bs.length + 1) % 8 = bs.length % 8 + 1 by omega]
theorem m_bit {m : zMem} {P : List Int32} {bs : List Nat} {b : Nat} (hR : RF m.2.2) (h : mBt P bs m) (hb : b < 2) (hB : P.length + bs.length / 8 < 8190) : zok (F_MPacker_bit (sh0 W H) m 1278 (nI b)) (fun m' => mQ m m' ∧ mBt P (bs ++ [b]) m') := by
  obtain ⟨h1, h2, h3, h4, h6⟩ := h
  have lt := byN_lt h6
  have ln : (bs ++ [b]).length = bs.length + 1 := by rw [List.length_append]; rfl
  have by0 : byN (bs ++ [b]) (bs.length / 8) = byN bs (bs.length / 8) + b * 2 ^ (bs.length % 8) := by rw [byN_s, if_pos rfl]
  have byj : ∀ j, j < bs.length / 8 → byN (bs ++ [b]) j = byN bs j := fun j hj => by rw [byN_s, if_neg (by omega)]; rfl
  have p7 : 2 ^ (bs.length % 8) ≤ 2 ^ 7 := Nat.pow_le_pow_right (by decide) (by omega)
  have om := or_m ⟨bs.length % 8, by omega⟩ ⟨byN bs (bs.length / 8), by omega⟩ ⟨b, hb⟩ lt
  have sx := sh_1278 (W := W) (H := H)
  have rem : nI (bs.length % 8 + 1) - nI (bs.length % 8 + 1) / 8 * 8 = nI ((bs.length % 8 + 1) % 8) := i32_rem (b := 8) (by omega) (by decide) (by decide)
  have last : ∀ (m1 : zMem), m1.1 1278 3 = nI (P.length + bs.length / 8 + 1) → m1.1 1278 4 = nI (bs.length % 8) → (∀ k, k < P.length → m1.1 1280 k = P.getD k 0) → (∀ j, j < bs.length / 8 + 1 → m1.1 1280 (P.length + j) = st8 (nI (byN bs j))) → mQ m m1 → mQ m (mI (mI m1 1280 (P.length + bs.length / 8) (st8 (nI (byN bs (bs.length / 8) + b * 2 ^ (bs.length % 8))))) 1278 4 (nI ((bs.length % 8 + 1) % 8))) ∧ mBt P (bs ++ [b]) (mI (mI m1 1280 (P.length + bs.length / 8) (st8 (nI (byN bs (bs.length / 8) + b * 2 ^ (bs.length % 8))))) 1278 4 (nI ((bs.length % 8 + 1) % 8))) := fun m1 a1 a2 a3 a4 a5 => by
    refine ⟨mQ_t a5 ⟨rfl, fun k k1 k2 => by rw [mI_o k1, mI_o k2], fun c c1 c2 => by rw [mI_v, if_pos rfl, if_neg c2, mI_o (by decide)]⟩, ?_, fun k hk => ?_, fun j hj => ?_, ?_, bOK_s h6 hb⟩
    · rw [mI_v, if_pos rfl, if_neg (by decide), mI_o (by decide), a1, ln, show (bs.length + 1 + 7) / 8 = bs.length / 8 + 1 by omega, Nat.add_assoc]
    · rw [mI_o (by decide), mI_v, if_pos rfl, if_neg (by omega)]
      exact a3 k hk
    · rw [ln] at hj
      rw [mI_o (by decide), mI_v, if_pos rfl]
      by_cases e : j = bs.length / 8
      · rw [if_pos (by omega), e, by0]
      · rw [if_neg (by omega), byj j (by omega)]
        exact a4 j (by omega)
    · rw [mI_v, if_pos rfl, if_pos rfl, ln, show (bs.length % 8 + 1) % 8 = (bs.length + 1) % 8 by omega]
  unfold F_MPacker_bit
  rw [zoS_h sx, h4]
  by_cases c : bs.length % 8 = 0
  · rw [if_pos (by rw [c]; rfl), zoS_h sx]
    have hput : F_MPacker_put (sh0 W H) m 1278 0 = some (mI (mI m 1280 (P.length + bs.length / 8) (st8 0)) 1278 3 (nI (P.length + bs.length / 8 + 1))) := by
      unfold F_MPacker_put
      rw [zoS_h sx, zob_h (rf_1278_2 hR), zoS_h sx, zoL_e, h1, show (bs.length + 7) / 8 = bs.length / 8 by omega, zoL_e, zoS_h sh_1280, nI_ix (by omega) (by decide), nI_cl (n := P.length + bs.length / 8) (by omega), zoL_e, zoS_h sx, mI_o (show 1278 ≠ 1280 by decide), h1, show (bs.length + 7) / 8 = bs.length / 8 by omega, nI_p1, zoL_e, zoS_h sx, zoL_e]
      rfl
    rw [zob_h hput]
    generalize hm1 : mI (mI m 1280 (P.length + bs.length / 8) (st8 0)) 1278 3 (nI (P.length + bs.length / 8 + 1)) = m1
    have r1 : m1.2 = m.2 := by rw [← hm1]; rfl
    have R1 : RF m1.2.2 := by rw [r1]; exact hR
    have a1 : m1.1 1278 3 = nI (P.length + bs.length / 8 + 1) := by rw [← hm1, mI_v, if_pos rfl, if_pos rfl]
    have a2 : m1.1 1278 4 = nI (bs.length % 8) := by rw [← hm1, mI_v, if_pos rfl, if_neg (by decide), mI_o (by decide)]; exact h4
    have a3 : ∀ k, k < P.length → m1.1 1280 k = P.getD k 0 := fun k hk => by rw [← hm1, mI_o (by decide), mI_v, if_pos rfl, if_neg (by omega)]; exact h2 k hk
    have a4 : ∀ j, j < bs.length / 8 + 1 → m1.1 1280 (P.length + j) = st8 (nI (byN bs j)) := fun j hj => by
      rw [← hm1, mI_o (by decide), mI_v, if_pos rfl]
      by_cases e : j = bs.length / 8
      · rw [if_pos (by omega), e, byN_0 (by omega)]
        rfl
      · rw [if_neg (by omega)]
        exact h3 j (by omega)
    have a5 : mQ m m1 := ⟨r1, fun k k1 k2 => by rw [← hm1, mI_o k1, mI_o k2], fun c c1 c2 => by rw [← hm1, mI_v, if_pos rfl, if_neg c1, mI_o (by decide)]⟩
    have e1 : nI (P.length + bs.length / 8 + 1) - 1 = nI (P.length + bs.length / 8) := nI_sub (b := 1) (by omega)
    rw [zoS_h sx, zob_h (rf_1278_2 R1), zoS_h sx, a1, e1, zoL_e, zoS_h sh_1280, nI_ix (by omega) (by decide), nI_cl (n := P.length + bs.length / 8) (by omega), zoS_h sx, a2, a4 (bs.length / 8) (by omega), zoL_e, zoS_h sh_1280, if_neg (fun q => q.elim (nI_pos (by omega)) (by omega)), om, zoL_e, zoS_h sx, mI_o (show 1278 ≠ 1280 by decide), a2, nI_p1, rem, zoL_e, zoS_h sx, zoL_e]
    exact zok_s (last m1 a1 a2 a3 a4 a5)
  · rw [if_neg (show ¬ (nI (bs.length % 8) = 0) from fun q => c ((nI_eqD (b := 0) (by omega) (by decide)).mp q))]
    have e0 : m.1 1278 3 = nI (P.length + bs.length / 8 + 1) := by rw [h1, show (bs.length + 7) / 8 = bs.length / 8 + 1 by omega, Nat.add_assoc]
    have e1 : nI (P.length + bs.length / 8 + 1) - 1 = nI (P.length + bs.length / 8) := nI_sub (b := 1) (by omega)
    have a4 : ∀ j, j < bs.length / 8 + 1 → m.1 1280 (P.length + j) = st8 (nI (byN bs j)) := fun j hj => h3 j (by omega)
    rw [zoS_h sx, zob_h (rf_1278_2 hR), zoS_h sx, e0, e1, zoL_e, zoS_h sh_1280, nI_ix (by omega) (by decide), nI_cl (n := P.length + bs.length / 8) (by omega), zoS_h sx, a4 (bs.length / 8) (by omega), zoL_e, zoS_h sh_1280, if_neg (fun q => q.elim (nI_pos (by omega)) (by omega)), om, zoL_e, zoS_h sx, mI_o (show 1278 ≠ 1280 by decide), h4, nI_p1, rem, zoL_e, zoS_h sx, zoL_e]
    exact zok_s (last m e0 h4 h2 a4 mQ_r)
end ZBI
