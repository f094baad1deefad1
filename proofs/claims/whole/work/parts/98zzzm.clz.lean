/-! PURE: the class finds runs by its keys -/
section ZKY
variable {W H : Nat}
def kyI (R : Nat → Nat) (q : Nat) : Int32 := (((nI (R q) <<< (8 &&& 31)) ^^^ (nI (R (q + 1)) <<< (4 &&& 31))) ^^^ nI (R (q + 2))) &&& 4095
def kyN (R : Nat → Nat) (q : Nat) : Nat := (kyI R q).toNatClampNeg
theorem ky_b {R : Nat → Nat} {q : Nat} : kyN R q < 4096 ∧ kyI R q = nI (kyN R q) := by
  have h := i32_and4095 (((nI (R q) <<< (8 &&& 31)) ^^^ (nI (R (q + 1)) <<< (4 &&& 31))) ^^^ nI (R (q + 2)))
  have h' : (kyI R q).toInt = (((nI (R q) <<< (8 &&& 31)) ^^^ (nI (R (q + 1)) <<< (4 &&& 31))) ^^^ nI (R (q + 2))).toInt % 4096 := h
  obtain ⟨e, f⟩ := i32_cl (x := kyI R q) (by omega)
  exact ⟨by unfold kyN; omega, e⟩
theorem ky_eq {R : Nat → Nat} {q p : Nat} (h0 : R q = R p) (h1 : R (q + 1) = R (p + 1)) (h2 : R (q + 2) = R (p + 2)) : kyN R q = kyN R p := by
  unfold kyN kyI
  rw [h0, h1, h2]
theorem c_key {m : zMem} {R : Nat → Nat} {N p : Nat} (hR : RF m.2.2) (h : rwI 8 R N m) (hN : N ≤ 6960) (hp : p + 2 < N) : F_XPacker_keyOf (sh0 W H) m 5 (nI p) = some (nI (kyN R p), m) := by
  unfold F_XPacker_keyOf
  rw [zoS_h sh_5, zob_h (rf_5_3 hR), zoS_h sh_8, nI_ix (by omega) (by decide), nI_cl (n := p) (by omega), zoS_h sh_5, zob_h (rf_5_3 hR), nI_p1, zoL_e, zoS_h sh_8, nI_ix (by omega) (by decide), nI_cl (n := p + 1) (by omega), zoS_h sh_5, zob_h (rf_5_3 hR), nI_p2, zoL_e, zoS_h sh_8, nI_ix (by omega) (by decide), nI_cl (n := p + 2) (by omega), (h p (by omega)).2, (h (p + 1) (by omega)).2, (h (p + 2) (by omega)).2, ← ky_b.2]
  rfl
/-- the latest place below x with the key k -/
def prv (R : Nat → Nat) (N k : Nat) : Nat → Int32
  | 0 => -1
  | x + 1 => if x + 2 < N ∧ kyN R x = k then nI x else prv R N k x
theorem prv_b {R : Nat → Nat} {N k : Nat} : ∀ x, (prv R N k x = -1 ∧ ∀ i, i < x → ¬ (i + 2 < N ∧ kyN R i = k)) ∨ ∃ q, q < x ∧ prv R N k x = nI q ∧ (q + 2 < N ∧ kyN R q = k) ∧ ∀ i, q < i → i < x → ¬ (i + 2 < N ∧ kyN R i = k) := by
  intro x
  induction x with
  | zero => exact Or.inl ⟨rfl, fun i hi => absurd hi (Nat.not_lt_zero _)⟩
  | succ x ih =>
    rw [prv]
    by_cases c : x + 2 < N ∧ kyN R x = k
    · rw [if_pos c]
      exact Or.inr ⟨x, by omega, rfl, c, fun i h1 h2 => by omega⟩
    · rw [if_neg c]
      rcases ih with ⟨a1, a2⟩ | ⟨q, a1, a2, a3, a4⟩
      · refine Or.inl ⟨a1, fun i hi => ?_⟩
        by_cases e : i = x
        · rw [e]; exact c
        · exact a2 i (by omega)
      · refine Or.inr ⟨q, by omega, a2, a3, fun i h1 h2 => ?_⟩
        by_cases e : i = x
        · rw [e]; exact c
        · exact a4 i h1 (by omega)
/-- the keys' places below x -/
def kTb (R : Nat → Nat) (N x : Nat) (m : zMem) : Prop := (∀ k, k < 4096 → m.1 9 k = prv R N k x) ∧ ∀ q, q < x → q + 2 < N → m.1 10 q = prv R N (kyN R q) q
/-- what the class's packing leaves -/
def cZ (m m' : zMem) : Prop := m'.2 = m.2 ∧ (∀ k, k ≠ 5 → k ≠ 6 → k ≠ 9 → k ≠ 10 → m'.1 k = m.1 k) ∧ ∀ c, c ≠ 1 → c ≠ 7 → c ≠ 8 → c ≠ 9 → c ≠ 10 → m'.1 5 c = m.1 5 c
theorem cZ_r {m : zMem} : cZ m m := ⟨rfl, fun _ _ _ _ _ => rfl, fun _ _ _ _ _ _ => rfl⟩
theorem cZ_t {m m' m'' : zMem} (h : cZ m m') (k : cZ m' m'') : cZ m m'' := ⟨k.1.trans h.1, fun x h1 h2 h3 h4 => (k.2.1 x h1 h2 h3 h4).trans (h.2.1 x h1 h2 h3 h4), fun x h1 h2 h3 h4 h5 => (k.2.2 x h1 h2 h3 h4 h5).trans (h.2.2 x h1 h2 h3 h4 h5)⟩
theorem cZ_q {m m' : zMem} (h : cQ m m') : cZ m m' := ⟨h.1, fun k h1 h2 _ _ => h.2.1 k h1 h2, fun c h1 _ _ h4 h5 => h.2.2 c h1 h4 h5⟩
theorem rwI_Z {R : Nat → Nat} {N : Nat} {m m' : zMem} (h : rwI 8 R N m) (k : cZ m m') : rwI 8 R N m' := fun i hi => by
  rw [k.2.1 8 (by decide) (by decide) (by decide) (by decide)]
  exact h i hi
theorem c_rem {m : zMem} {R : Nat → Nat} {N x : Nat} (hR : RF m.2.2) (h : rwI 8 R N m) (hN : N ≤ 6960) (h4 : m.1 5 4 = nI N) (hT : kTb R N x m) (hx : x < N) : zok (F_XPacker_remember (sh0 W H) m 5 (nI x)) (fun m' => (m'.2 = m.2 ∧ ∀ k, k ≠ 9 → k ≠ 10 → m'.1 k = m.1 k) ∧ kTb R N (x + 1) m') := by
  unfold F_XPacker_remember
  rw [zoS_h sh_5, h4, nI_p2]
  by_cases c : N ≤ x + 2
  · rw [if_pos (by rw [nI_leD (by omega) (by omega)]; omega)]
    refine zok_s ⟨⟨rfl, fun _ _ _ => rfl⟩, fun k hk => ?_, fun q hq h2 => hT.2 q (by omega) h2⟩
    rw [prv, if_neg (by omega)]
    exact hT.1 k hk
  · obtain ⟨kb, _⟩ := ky_b (R := R) (q := x)
    rw [if_neg (by rw [nI_leD (by omega) (by omega)]; omega), zoS_h sh_5, zob_h (c_key hR h hN (by omega))]
    dsimp only
    rw [zoS_h sh_5, zob_h (rf_5_6 hR), zoS_h sh_5, zob_h (rf_5_5 hR), zoS_h sh_9, nI_ix (by omega) (by decide), nI_cl (n := kyN R x) (by omega), zoL_e, zoS_h sh_10, nI_ix (by omega) (by decide), nI_cl (n := x) (by omega), zoL_e, zoS_h sh_5, zob_h (rf_5_5 (show RF (mI m 10 x _).2.2 from hR)), zoS_h sh_9, if_neg (fun q => q.elim (nI_pos (by omega)) (by omega)), zoL_e]
    refine zok_s ⟨⟨rfl, fun k h9 h10 => by rw [mI_o h9, mI_o h10]⟩, fun k hk => ?_, fun q hq h2 => ?_⟩
    · rw [mI_v, if_pos rfl, prv]
      by_cases e : k = kyN R x
      · rw [if_pos e, if_pos ⟨by omega, e.symm⟩]
      · rw [if_neg e, if_neg (fun q => e q.2.symm), mI_o (by decide)]
        exact hT.1 k hk
    · rw [mI_o (by decide), mI_v, if_pos rfl]
      by_cases e : q = x
      · rw [if_pos e, e]
        exact hT.1 _ kb
      · rw [if_neg e]
        exact hT.2 q (by omega) h2
theorem c_rem101 {R : Nat → Nat} {N y : Nat} (hN : N ≤ 6960) (hy : y ≤ N) : ∀ (d x fuel : Nat) (m : zMem), x + d = y → d < fuel → RF m.2.2 → rwI 8 R N m → m.1 5 4 = nI N → kTb R N x m → zok (L_XPacker_packRows_101 (sh0 W H) fuel 5 (nI x) (nI y) m) (fun q => q.1 = 5 ∧ q.2.1 = nI y ∧ (q.2.2.2.2 = m.2 ∧ ∀ k, k ≠ 9 → k ≠ 10 → q.2.2.2.1 k = m.1 k) ∧ kTb R N y q.2.2.2) := by
  intro d
  induction d with
  | zero =>
    intro x fuel m hx hf hR h h4 hT
    obtain ⟨fu, rfl⟩ : ∃ fu, fuel = fu + 1 := ⟨fuel - 1, by omega⟩
    obtain rfl : x = y := by omega
    rw [L_XPacker_packRows_101, if_pos (by rw [nI_leD (by omega) (by omega)]; omega)]
    exact zok_s ⟨rfl, rfl, ⟨rfl, fun _ _ _ => rfl⟩, hT⟩
  | succ d ih =>
    intro x fuel m hx hf hR h h4 hT
    obtain ⟨fu, rfl⟩ : ∃ fu, fuel = fu + 1 := ⟨fuel - 1, by omega⟩
    rw [L_XPacker_packRows_101, if_neg (by rw [nI_leD (by omega) (by omega)]; omega), zoS_h sh_5]
    refine zok_b (c_rem hR h hN h4 hT (by omega)) (fun m1 g1 => ?_)
    rw [nI_p1]
    obtain ⟨⟨r1, o1⟩, t1⟩ := g1
    refine zok_w (ih (x + 1) fu m1 (by omega) (by omega) (by rw [r1]; exact hR) (fun k hk => by rw [o1 8 (by decide) (by decide)]; exact h k hk) (by rw [o1 5 (by decide) (by decide)]; exact h4) t1) (fun q hq => ⟨hq.1, hq.2.1, ⟨hq.2.2.1.1.trans r1, fun k h1 h2 => (hq.2.2.1.2 k h1 h2).trans (o1 k h1 h2)⟩, hq.2.2.2⟩)
/-- the class's run so far beside the best of those above x -/
def rnI (p : Nat) (S : Nat × Nat) (m : zMem) : Prop := 2 ≤ S.1 ∧ ∃ r, r ≤ 258 ∧ m.1 5 7 = nI r ∧ (3 ≤ S.1 → r = S.1 ∧ S.2 < p ∧ m.1 5 8 = nI (p - S.2)) ∧ (S.1 < 3 → r ≤ 2)
theorem al_3 {R : Nat → Nat} {N p q : Nat} (hp : p + 2 < N) (hq : q < p) (h : ¬ (q + 2 < N ∧ kyN R q = kyN R p)) : alN R N p q ≤ 2 := by
  by_cases c : alN R N p q ≤ 2
  · exact c
  · exfalso
    have hb := (alN_b (R := R) (N := N) (p := p) (q := q)).2
    exact h ⟨by omega, ky_eq (hb 0 (by omega)) (hb 1 (by omega)) (hb 2 (by omega))⟩
theorem c_fr38 {R : Nat → Nat} {N p : Nat} {m0 : zMem} (hN : N ≤ 6960) (hp : p + 2 < N) (hR0 : RF m0.2.2) (h0 : rwI 8 R N m0) (hT : ∀ q, q < p → q + 2 < N → m0.1 10 q = prv R N (kyN R q) q) : ∀ (d x t fuel : Nat) (m : zMem) (S : Nat × Nat), x ≤ d → x ≤ p → t + x ≤ p → d < fuel → (m.2 = m0.2 ∧ (∀ k, k ≠ 5 → m.1 k = m0.1 k) ∧ ∀ c, c ≠ 7 → c ≠ 8 → m.1 5 c = m0.1 5 c) → rnI p S m → zok (L_XPacker_findRun_38 (sh0 W H) fuel 5 (nI p) (nI (limN N p)) (prv R N (kyN R p) x) (nI t) m) (fun z => (z.2.2.2.2.2.2 = m0.2 ∧ (∀ k, k ≠ 5 → z.2.2.2.2.2.1 k = m0.1 k) ∧ ∀ c, c ≠ 7 → c ≠ 8 → z.2.2.2.2.2.1 5 c = m0.1 5 c) ∧ rnI p (bmS (alN R N p) x S) z.2.2.2.2.2) := by
  have hl : limN N p ≤ N - p ∧ limN N p ≤ 258 ∧ 3 ≤ limN N p := ⟨Nat.min_le_right _ _, Nat.min_le_left _ _, by unfold limN; omega⟩
  intro d
  induction d with
  | zero =>
    intro x t fuel m S hx hxp ht hf hF hS
    obtain ⟨fu, rfl⟩ : ∃ fu, fuel = fu + 1 := ⟨fuel - 1, by omega⟩
    obtain rfl : x = 0 := by omega
    rw [L_XPacker_findRun_38, prv]
    by_cases c : p ≤ t
    · rw [if_pos (by rw [nI_leD (by omega) (by omega)]; omega)]
      exact zok_s ⟨hF, hS⟩
    · rw [if_neg (by rw [nI_leD (by omega) (by omega)]; omega), if_pos (by decide)]
      exact zok_s ⟨hF, hS⟩
  | succ d ih =>
    intro x t fuel m S hx hxp ht hf hF hS
    obtain ⟨fu, rfl⟩ : ∃ fu, fuel = fu + 1 := ⟨fuel - 1, by omega⟩
    obtain ⟨r0, o0, c0⟩ := hF
    have Rm : RF m.2.2 := by rw [r0]; exact hR0
    have hm : rwI 8 R N m := fun k hk => by rw [o0 8 (by decide)]; exact h0 k hk
    have skip : ∀ q, q ≤ x → (∀ i, q ≤ i → i < x → ¬ (i + 2 < N ∧ kyN R i = kyN R p)) → bmS (alN R N p) x S = bmS (alN R N p) q S := fun q hq hno => bmS_skip x q hq (fun i h1 h2 => Nat.le_trans (al_3 hp (by omega) (hno i h1 h2)) hS.1)
    rw [L_XPacker_findRun_38]
    by_cases c : p ≤ t
    · obtain rfl : x = 0 := by omega
      rw [if_pos (by rw [nI_leD (by omega) (by omega)]; omega)]
      exact zok_s ⟨⟨r0, o0, c0⟩, hS⟩
    rw [if_neg (by rw [nI_leD (by omega) (by omega)]; omega)]
    rcases prv_b (R := R) (N := N) (k := kyN R p) x with ⟨a1, a2⟩ | ⟨q, a1, a2, a3, a4⟩
    · rw [a1, if_pos (by decide), skip 0 (by omega) (fun i _ h2 => a2 i h2)]
      exact zok_s ⟨⟨r0, o0, c0⟩, hS⟩
    · rw [a2, if_neg (nI_pos (by omega)), zoS_h sh_5]
      obtain ⟨s2, r, r258, e7, e8, e9⟩ := hS
      have hab := (alN_b (R := R) (N := N) (p := p) (q := q)).1
      have e10 : m.1 10 q = prv R N (kyN R p) q := by rw [o0 10 (by decide), hT q (by omega) a3.1, a3.2]
      have sk : bmS (alN R N p) x S = bmS (alN R N p) q (if S.1 < alN R N p q then (alN R N p q, q) else S) := by
        rw [skip (q + 1) (by omega) (fun i h1 h2 => a4 i (by omega) h2), bmS]
      rw [e7]
      by_cases cm : limN N p ≤ r
      · have h3 : 3 ≤ S.1 := by
          by_cases e : 3 ≤ S.1
          · exact e
          · have := e9 (by omega); omega
        have hr := (e8 h3).1
        rw [if_pos (by rw [nI_leD (by omega) (by omega)]; omega), bmS_skip x 0 (by omega) (fun i _ hi => by have := (alN_b (R := R) (N := N) (p := p) (q := i)).1; omega)]
        exact zok_s ⟨⟨r0, o0, c0⟩, s2, r, r258, e7, e8, e9⟩
      · have hsm : F_XPacker_sameFrom (sh0 W H) m 5 (nI q) (nI p) (nI (limN N p)) = some (nI (alN R N p q), m) := by
          unfold F_XPacker_sameFrom
          rw [zob_h (show L_XPacker_sameFrom_3 (sh0 W H) zfuel 5 (nI q) (nI p) (nI (limN N p)) 0 m = _ from c_same (W := W) (H := H) Rm hm hN (by omega) (by omega) (limN N p) 0 zfuel (by omega) (zf_lt (by omega)))]
          rfl
        rw [if_neg (by rw [nI_leD (by omega) (by omega)]; omega), zoS_h sh_5, zob_h hsm]
        dsimp only
        rw [zoS_h sh_5, e7, sk]
        by_cases cl : alN R N p q ≤ r
        · have hno : ¬ S.1 < alN R N p q := by
            by_cases e : 3 ≤ S.1
            · have := (e8 e).1; omega
            · have := e9 (by omega); omega
          rw [if_pos (by rw [nI_leD (by omega) (by omega)]; omega), zoS_h sh_5, zob_h (rf_5_6 Rm), zoS_h sh_10, nI_ix (by omega) (by decide), nI_cl (n := q) (by omega), e10, zoL_e, nI_p1, if_neg hno]
          exact ih q (t + 1) fu m S (by omega) (by omega) (by omega) (by omega) ⟨r0, o0, c0⟩ ⟨s2, r, r258, e7, e8, e9⟩
        · rw [if_neg (by rw [nI_leD (by omega) (by omega)]; omega), zoS_h sh_5, zoL_e, nI_sub (show q ≤ p by omega), zoL_e, zoS_h sh_5, zoL_e, zoS_h sh_5, zob_h (rf_5_6 (show RF (mI (mI m 5 7 _) 5 8 _).2.2 from Rm)), zoS_h sh_10, nI_ix (by omega) (by decide), nI_cl (n := q) (by omega), mI_o (show 10 ≠ 5 by decide), mI_o (show 10 ≠ 5 by decide), e10, zoL_e, nI_p1]
          have hF2 : (mI (mI m 5 7 (nI (alN R N p q))) 5 8 (nI (p - q))).2 = m0.2 ∧ (∀ k, k ≠ 5 → (mI (mI m 5 7 (nI (alN R N p q))) 5 8 (nI (p - q))).1 k = m0.1 k) ∧ ∀ c, c ≠ 7 → c ≠ 8 → (mI (mI m 5 7 (nI (alN R N p q))) 5 8 (nI (p - q))).1 5 c = m0.1 5 c := ⟨r0, fun k hk => by rw [mI_o hk, mI_o hk, o0 k hk], fun c h7 h8 => by rw [mI_v, if_pos rfl, if_neg h8, mI_v, if_pos rfl, if_neg h7, c0 c h7 h8]⟩
          have g7 : (mI (mI m 5 7 (nI (alN R N p q))) 5 8 (nI (p - q))).1 5 7 = nI (alN R N p q) := by rw [mI_v, if_pos rfl, if_neg (by decide), mI_v, if_pos rfl, if_pos rfl]
          have g8 : (mI (mI m 5 7 (nI (alN R N p q))) 5 8 (nI (p - q))).1 5 8 = nI (p - q) := by rw [mI_v, if_pos rfl, if_pos rfl]
          by_cases cu : S.1 < alN R N p q
          · rw [if_pos cu]
            exact ih q (t + 1) fu _ (alN R N p q, q) (by omega) (by omega) (by omega) (by omega) hF2 ⟨by show 2 ≤ alN R N p q; omega, alN R N p q, by omega, g7, fun _ => ⟨rfl, by show q < p; omega, g8⟩, fun e => by have : alN R N p q < 3 := e; omega⟩
          · rw [if_neg cu]
            have h3 : S.1 < 3 := by
              by_cases e : 3 ≤ S.1
              · have := (e8 e).1; omega
              · omega
            exact ih q (t + 1) fu _ S (by omega) (by omega) (by omega) (by omega) hF2 ⟨s2, alN R N p q, by omega, g7, fun e => by omega, fun _ => by omega⟩
theorem min_258 {a : Nat} (ha : a < 2147483648) : zx_min 258 (nI a) = nI (min 258 a) := min_nI (a := 258) (by decide) ha
theorem c_find {m : zMem} {R : Nat → Nat} {N p : Nat} (hN : N ≤ 6960) (hp : p < N) (hR : RF m.2.2) (h : rwI 8 R N m) (h4 : m.1 5 4 = nI N) (hT : kTb R N p m) : zok (F_XPacker_findRun (sh0 W H) m 5 (nI p)) (fun m' => (m'.2 = m.2 ∧ (∀ k, k ≠ 5 → m'.1 k = m.1 k) ∧ ∀ c, c ≠ 7 → c ≠ 8 → m'.1 5 c = m.1 5 c) ∧ rnI p (bst R N p) m') := by
  have hl : limN N p ≤ N - p ∧ limN N p ≤ 258 ∧ (3 ≤ limN N p ↔ p + 2 < N) := ⟨Nat.min_le_right _ _, Nat.min_le_left _ _, by unfold limN; omega⟩
  have e4 : zx_min 258 (nI N - nI p) = nI (limN N p) := by
    rw [nI_sub (show p ≤ N by omega), min_258 (by omega)]
    rfl
  unfold F_XPacker_findRun
  rw [zoS_h sh_5, h4, e4, zoL_e, zoS_h sh_5, zoL_e]
  have F1 : (mI m 5 7 0).2 = m.2 ∧ (∀ k, k ≠ 5 → (mI m 5 7 0).1 k = m.1 k) ∧ ∀ c, c ≠ 7 → c ≠ 8 → (mI m 5 7 0).1 5 c = m.1 5 c := ⟨rfl, fun k hk => mI_o hk, fun c h7 _ => by rw [mI_v, if_pos rfl, if_neg h7]⟩
  have S1 : rnI p (2, 0) (mI m 5 7 0) := ⟨by decide, 0, by decide, by rw [mI_v, if_pos rfl, if_pos rfl]; rfl, fun e => absurd e (by decide), fun _ => by decide⟩
  by_cases c : p + 2 < N
  · have R1 : RF (mI m 5 7 0).2.2 := hR
    have r1 : rwI 8 R N (mI m 5 7 0) := fun k hk => by rw [mI_o (by decide)]; exact h k hk
    obtain ⟨kb, _⟩ := ky_b (R := R) (q := p)
    rw [if_pos (by rw [show (3 : Int32) = nI 3 from rfl, nI_leD (by decide) (by omega)]; omega), zoS_h sh_5, zob_h (rf_5_5 R1), zoS_h sh_5, zob_h (c_key R1 r1 hN c)]
    dsimp only
    rw [zoS_h sh_9, nI_ix (by omega) (by decide), nI_cl (n := kyN R p) (by omega), mI_o (show 9 ≠ 5 by decide), hT.1 _ kb, zoL_e]
    refine zok_b (show zok (L_XPacker_findRun_38 (sh0 W H) zfuel 5 (nI p) (nI (limN N p)) (prv R N (kyN R p) p) 0 (mI m 5 7 0)) _ from c_fr38 (W := W) (H := H) (m0 := m) hN c hR h hT.2 p p 0 zfuel (mI m 5 7 0) (2, 0) (Nat.le_refl _) (Nat.le_refl _) (by omega) (zf_lt (by omega)) F1 S1) (fun z hz => zok_s hz)
  · rw [if_neg (by rw [show (3 : Int32) = nI 3 from rfl, nI_leD (by decide) (by omega)]; omega)]
    refine zok_s ⟨F1, ?_⟩
    have : bst R N p = (2, 0) := by
      unfold bst
      rw [bmS_skip p 0 (by omega) (fun i _ hi => by
        have := (alN_b (R := R) (N := N) (p := p) (q := i)).1
        show _ ≤ 2
        omega)]
      rfl
    rw [this]
    exact S1
end ZKY
