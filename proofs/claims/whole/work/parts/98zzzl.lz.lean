/-! PURE: what the packers look for -/
section ZLZ
variable {W H : Nat}
/-- how far two places are alike -/
def alk (R : Nat → Nat) (q p : Nat) : Nat → Nat → Nat
  | 0, n => n
  | d + 1, n => if R (q + n) = R (p + n) then alk R q p d (n + 1) else n
def limN (N p : Nat) : Nat := min 258 (N - p)
def alN (R : Nat → Nat) (N p q : Nat) : Nat := alk R q p (limN N p) 0
theorem alk_b {R : Nat → Nat} {q p : Nat} : ∀ d n, n ≤ alk R q p d n ∧ alk R q p d n ≤ n + d ∧ ∀ i, n ≤ i → i < alk R q p d n → R (q + i) = R (p + i) := by
  intro d
  induction d with
  | zero => intro n; exact ⟨Nat.le_refl _, Nat.le_refl _, fun i h1 h2 => by unfold alk at h2; omega⟩
  | succ d ih =>
    intro n
    rw [alk]
    by_cases c : R (q + n) = R (p + n)
    · rw [if_pos c]
      obtain ⟨a1, a2, a3⟩ := ih (n + 1)
      refine ⟨by omega, by omega, fun i h1 h2 => ?_⟩
      by_cases e : i = n
      · rw [e]; exact c
      · exact a3 i (by omega) h2
    · rw [if_neg c]
      exact ⟨Nat.le_refl _, by omega, fun i h1 h2 => by omega⟩
theorem alN_b {R : Nat → Nat} {N p q : Nat} : alN R N p q ≤ limN N p ∧ ∀ i, i < alN R N p q → R (q + i) = R (p + i) := by
  obtain ⟨_, a2, a3⟩ := alk_b (R := R) (q := q) (p := p) (limN N p) 0
  exact ⟨by unfold alN; omega, fun i hi => a3 i (by omega) hi⟩
/-- the rows' bytes in a memory -/
def rwI (A : Nat) (R : Nat → Nat) (N : Nat) (m : zMem) : Prop := ∀ k, k < N → R k < 256 ∧ m.1 A k = nI (R k)
theorem rw_eq {R : Nat → Nat} {A N a b : Nat} {m : zMem} (h : rwI A R N m) (ha : a < N) (hb : b < N) : (m.1 A a = m.1 A b) ↔ R a = R b := by
  obtain ⟨a1, a2⟩ := h a ha
  obtain ⟨b1, b2⟩ := h b hb
  rw [a2, b2]
  exact nI_eqD (by omega) (by omega)
theorem c_same {m : zMem} {R : Nat → Nat} {N q p : Nat} (hR : RF m.2.2) (h : rwI 8 R N m) (hN : N ≤ 6960) (hq : q < p) (hp : p ≤ N) : ∀ (d n fuel : Nat), n + d = limN N p → d < fuel → L_XPacker_sameFrom_3 (sh0 W H) fuel 5 (nI q) (nI p) (nI (limN N p)) (nI n) m = some (5, nI q, nI p, nI (limN N p), nI (alk R q p d n), m) := by
  have hl : limN N p ≤ N - p ∧ limN N p ≤ 258 := ⟨Nat.min_le_right _ _, Nat.min_le_left _ _⟩
  intro d
  induction d with
  | zero =>
    intro n fuel hn hf
    obtain ⟨fu, rfl⟩ : ∃ fu, fuel = fu + 1 := ⟨fuel - 1, by omega⟩
    rw [L_XPacker_sameFrom_3, if_pos (by rw [nI_leD (by omega) (by omega)]; omega)]
    rfl
  | succ d ih =>
    intro n fuel hn hf
    obtain ⟨fu, rfl⟩ : ∃ fu, fuel = fu + 1 := ⟨fuel - 1, by omega⟩
    rw [L_XPacker_sameFrom_3, if_neg (by rw [nI_leD (by omega) (by omega)]; omega), zoS_h sh_5, zob_h (rf_5_3 hR), nI_pp, zoL_e, zoS_h sh_8, nI_ix (by omega) (by decide), nI_cl (n := q + n) (by omega), zoS_h sh_5, zob_h (rf_5_3 hR), nI_pp, zoL_e, zoS_h sh_8, nI_ix (by omega) (by decide), nI_cl (n := p + n) (by omega), alk]
    by_cases c : R (q + n) = R (p + n)
    · rw [if_pos ((rw_eq h (by omega) (by omega)).mpr c), if_pos c, nI_p1]
      exact ih (n + 1) fu (by omega) (by omega)
    · rw [if_neg (fun e => c ((rw_eq h (by omega) (by omega)).mp e)), if_neg c]
theorem m_alike {m : zMem} {R : Nat → Nat} {N q p : Nat} (hR : RF m.2.2) (h : rwI 1279 R N m) (hN : N ≤ 6960) (h1 : m.1 1278 1 = nI N) (hq : q < p) (hp : p ≤ N) : ∀ (d n fuel : Nat), n + d = limN N p → d < fuel → L_MPacker_alike_2 (sh0 W H) fuel 1278 (nI q) (nI p) (nI n) m = some (1278, nI q, nI p, nI (alk R q p d n), m) := by
  have hl : limN N p ≤ N - p ∧ limN N p ≤ 258 ∧ (limN N p = 258 ∨ limN N p = N - p) := ⟨Nat.min_le_right _ _, Nat.min_le_left _ _, by unfold limN; omega⟩
  intro d
  induction d with
  | zero =>
    intro n fuel hn hf
    obtain ⟨fu, rfl⟩ : ∃ fu, fuel = fu + 1 := ⟨fuel - 1, by omega⟩
    rw [L_MPacker_alike_2]
    by_cases c : 258 ≤ n
    · rw [if_pos (by rw [show (258 : Int32) = nI 258 from rfl, nI_leD (by decide) (by omega)]; omega)]
      rfl
    · rw [if_neg (by rw [show (258 : Int32) = nI 258 from rfl, nI_leD (by decide) (by omega)]; omega), zoS_h sh_1278, h1, nI_pp, if_pos (by rw [nI_leD (by omega) (by omega)]; omega)]
      rfl
  | succ d ih =>
    intro n fuel hn hf
    obtain ⟨fu, rfl⟩ : ∃ fu, fuel = fu + 1 := ⟨fuel - 1, by omega⟩
    rw [L_MPacker_alike_2, if_neg (by rw [show (258 : Int32) = nI 258 from rfl, nI_leD (by decide) (by omega)]; omega), zoS_h sh_1278, h1, nI_pp, if_neg (by rw [nI_leD (by omega) (by omega)]; omega), zoS_h sh_1278, zob_h (rf_1278_0 hR), nI_pp, zoL_e, zoS_h sh_1279, nI_ix (by omega) (by decide), nI_cl (n := q + n) (by omega), zoS_h sh_1278, zob_h (rf_1278_0 hR), zoL_e, zoS_h sh_1279, nI_ix (by omega) (by decide), nI_cl (n := p + n) (by omega), alk]
    by_cases c : R (q + n) = R (p + n)
    · rw [if_pos ((rw_eq h (by omega) (by omega)).mpr c), if_pos c, nI_p1]
      exact ih (n + 1) fu (by omega) (by omega)
    · rw [if_neg (fun e => c ((rw_eq h (by omega) (by omega)).mp e)), if_neg c]
/-- the best place below q -/
def bmS (al : Nat → Nat) : Nat → Nat × Nat → Nat × Nat
  | 0, s => s
  | q + 1, s => bmS al q (if s.1 < al q then (al q, q) else s)
theorem bmS_skip {al : Nat → Nat} {s : Nat × Nat} : ∀ (x q : Nat), q ≤ x → (∀ i, q ≤ i → i < x → al i ≤ s.1) → bmS al x s = bmS al q s := by
  intro x
  induction x with
  | zero => intro q hq _; rw [show q = 0 by omega]
  | succ x ih =>
    intro q hq h
    by_cases e : q = x + 1
    · rw [e]
    · rw [bmS, if_neg (by have := h x (by omega) (by omega); omega)]
      exact ih q (by omega) (fun i h1 h2 => h i h1 (by omega))
theorem bmS_b {al : Nat → Nat} {L p : Nat} (hal : ∀ q, q < p → al q ≤ L) : ∀ (x : Nat) (s : Nat × Nat), x ≤ p → 2 ≤ s.1 → (3 ≤ s.1 → s.1 ≤ L ∧ s.2 < p) → 2 ≤ (bmS al x s).1 ∧ (3 ≤ (bmS al x s).1 → (bmS al x s).1 ≤ L ∧ (bmS al x s).2 < p) := by
  intro x
  induction x with
  | zero => intro s _ h1 h2; exact ⟨h1, h2⟩
  | succ x ih =>
    intro s hx h1 h2
    rw [bmS]
    by_cases c : s.1 < al x
    · rw [if_pos c]
      exact ih (al x, x) (by omega) (by show 2 ≤ al x; omega) (fun _ => ⟨hal x (by omega), by show x < p; omega⟩)
    · rw [if_neg c]
      exact ih s (by omega) h1 h2
theorem m_pk39 {m : zMem} {R : Nat → Nat} {N p : Nat} (hR : RF m.2.2) (h : rwI 1279 R N m) (hN : N ≤ 6960) (h1 : m.1 1278 1 = nI N) (hp : p ≤ N) : ∀ (q fuel : Nat) (s : Nat × Nat), q ≤ p → q < fuel → s.1 ≤ 258 → L_MPacker_pack_39 (sh0 W H) fuel 1278 (nI p) (nI s.1) (nI s.2) (nI q - 1) m = some (1278, nI p, nI (bmS (alN R N p) q s).1, nI (bmS (alN R N p) q s).2, -1, m) := by
  intro q
  induction q with
  | zero =>
    intro fuel s hq hf hs
    obtain ⟨fu, rfl⟩ : ∃ fu, fuel = fu + 1 := ⟨fuel - 1, by omega⟩
    rw [L_MPacker_pack_39, if_pos (by decide)]
    rfl
  | succ q ih =>
    intro fuel s hq hf hs
    obtain ⟨fu, rfl⟩ : ∃ fu, fuel = fu + 1 := ⟨fuel - 1, by omega⟩
    have e1 : nI (q + 1) - 1 = nI q := nI_sub (b := 1) (by omega)
    have e2 : nI q + (-1) = nI q - 1 := by rw [Int32.sub_eq_add_neg]
    have hb := (alN_b (R := R) (N := N) (p := p) (q := q)).1
    have hl : limN N p ≤ 258 := Nat.min_le_left _ _
    have ha : F_MPacker_alike (sh0 W H) m 1278 (nI q) (nI p) = some (nI (alN R N p q), m) := by
      unfold F_MPacker_alike
      rw [zob_h (show L_MPacker_alike_2 (sh0 W H) zfuel 1278 (nI q) (nI p) 0 m = _ from m_alike (W := W) (H := H) hR h hN h1 (by omega) hp (limN N p) 0 zfuel (by omega) (zf_lt (by omega)))]
      rfl
    have far : ¬ (nI q < nI p - 32768) := by
      rw [i32_lt, i32_sub (by rw [nI_toInt (by omega)]; show -2147483648 ≤ (p : Int) - 32768; omega) (by rw [nI_toInt (by omega)]; show (p : Int) - 32768 ≤ _; omega), nI_toInt (by omega), nI_toInt (by omega), show (32768 : Int32).toInt = 32768 from rfl]
      omega
    rw [L_MPacker_pack_39, e1, if_neg (nI_pos (by omega)), if_neg far, zoS_h sh_1278, zob_h ha, e2, bmS]
    dsimp only
    by_cases c : s.1 < alN R N p q
    · rw [if_neg (by rw [nI_leD (by omega) (by omega)]; omega), if_pos c]
      exact ih fu (alN R N p q, q) (by omega) (by omega) (by show alN R N p q ≤ 258; omega)
    · rw [if_pos (by rw [nI_leD (by omega) (by omega)]; omega), if_neg c]
      exact ih fu s (by omega) (by omega) hs
/-- what is put from place p on -/
def bst (R : Nat → Nat) (N p : Nat) : Nat × Nat := bmS (alN R N p) p (2, 0)
theorem bst_b {R : Nat → Nat} {N p : Nat} : 2 ≤ (bst R N p).1 ∧ (3 ≤ (bst R N p).1 → (bst R N p).1 ≤ limN N p ∧ (bst R N p).2 < p) := bmS_b (fun q _ => (alN_b (R := R) (N := N) (p := p) (q := q)).1) p (2, 0) (Nat.le_refl _) (by decide) (fun q => absurd q (by decide))
def pkB (R : Nat → Nat) (N : Nat) : Nat → Nat → List Nat
  | 0, _ => []
  | f + 1, p => if N ≤ p then [] else if 3 ≤ (bst R N p).1 then (lnB (bst R N p).1 ++ dsB (p - (bst R N p).2)) ++ pkB R N f (p + (bst R N p).1) else sgB (R p) ++ pkB R N f (p + 1)
theorem m_pk22 {P : List Int32} {R : Nat → Nat} {N C : Nat} (hN : N ≤ 6960) (hC : P.length + (C + 40) / 8 < 8190) : ∀ (d p fuel : Nat) (m : zMem) (bs : List Nat), N ≤ p + d → p ≤ N → d < fuel → RF m.2.2 → rwI 1279 R N m → m.1 1278 1 = nI N → mBt P bs m → bs.length + 9 * (N - p) ≤ C → zok (L_MPacker_pack_22 (sh0 W H) fuel 1278 (nI p) m) (fun q => q.1 = 1278 ∧ mQ m q.2.2 ∧ mBt P (bs ++ pkB R N d p) q.2.2 ∧ (bs ++ pkB R N d p).length ≤ C) := by
  intro d
  induction d with
  | zero =>
    intro p fuel m bs hd hp hf hR h h1 hb hc
    obtain ⟨fu, rfl⟩ : ∃ fu, fuel = fu + 1 := ⟨fuel - 1, by omega⟩
    rw [L_MPacker_pack_22, zoS_h sh_1278, h1, if_pos (by rw [nI_leD (by omega) (by omega)]; omega)]
    refine zok_s ⟨rfl, mQ_r, ?_⟩
    rw [pkB, List.append_nil]
    exact ⟨hb, by omega⟩
  | succ d ih =>
    intro p fuel m bs hd hp hf hR h h1 hb hc
    obtain ⟨fu, rfl⟩ : ∃ fu, fuel = fu + 1 := ⟨fuel - 1, by omega⟩
    rw [L_MPacker_pack_22, zoS_h sh_1278, h1, pkB]
    by_cases c : N ≤ p
    · rw [if_pos (by rw [nI_leD (by omega) (by omega)]; omega), if_pos c, List.append_nil]
      exact zok_s ⟨rfl, mQ_r, hb, by omega⟩
    rw [if_neg (by rw [nI_leD (by omega) (by omega)]; omega), if_neg c, zoL_e, zob_h (show L_MPacker_pack_39 (sh0 W H) zfuel 1278 (nI p) 2 0 (nI p - 1) m = _ from m_pk39 (W := W) (H := H) hR h hN h1 hp p zfuel (2, 0) (Nat.le_refl _) (zf_lt (by omega)) (by decide))]
    dsimp only
    obtain ⟨b2, b3⟩ := bst_b (R := R) (N := N) (p := p)
    have hl : limN N p ≤ N - p ∧ limN N p ≤ 258 := ⟨Nat.min_le_right _ _, Nat.min_le_left _ _⟩
    change 2 ≤ (bmS (alN R N p) p (2, 0)).1 at b2
    unfold bst at b3 ⊢
    generalize bmS (alN R N p) p (2, 0) = s at *
    have keep : ∀ (m2 : zMem), mQ m m2 → RF m2.2.2 ∧ rwI 1279 R N m2 ∧ m2.1 1278 1 = nI N := fun m2 g => ⟨by rw [g.1]; exact hR, fun k hk => by rw [g.2.1 1279 (by decide) (by decide)]; exact h k hk, by rw [g.2.2 1 (by decide) (by decide)]; exact h1⟩
    by_cases c3 : 3 ≤ s.1
    · obtain ⟨b4, b5⟩ := b3 c3
      obtain ⟨l1, l2, l3⟩ := ld_l (n := s.1) (d := p - s.2) c3 (by omega) (by omega)
      rw [if_neg (by rw [show (3 : Int32) = nI 3 from rfl, nI_ltD (by omega) (by decide)]; omega), if_pos c3, zoS_h sh_1278]
      refine zok_b (m_len hR hb c3 (by omega) (by omega)) (fun m1 g1 => ?_)
      rw [zoS_h sh_1278, nI_sub (show s.2 ≤ p by omega)]
      refine zok_b (m_dis (by rw [g1.1.1]; exact hR) g1.2 (by omega) (by omega) (by rw [List.length_append]; omega)) (fun m2 g2 => ?_)
      have G := mQ_t g1.1 g2.1
      obtain ⟨k1, k2, k3⟩ := keep m2 G
      rw [nI_pp, zoL_e]
      have g2' := g2.2
      rw [List.append_assoc] at g2'
      refine zok_w (ih (p + s.1) fu m2 (bs ++ (lnB s.1 ++ dsB (p - s.2))) (by omega) (by omega) (by omega) k1 k2 k3 g2' (by rw [List.length_append, List.length_append]; omega)) (fun q hq => ?_)
      rw [List.append_assoc] at hq
      exact ⟨hq.1, mQ_t G hq.2.1, hq.2.2⟩
    · obtain ⟨r1, r2⟩ := h p (by omega)
      have ls := sgB_l (s := R p)
      rw [if_pos (by rw [show (3 : Int32) = nI 3 from rfl, nI_ltD (by omega) (by decide)]; omega), if_neg c3, zoS_h sh_1278, zob_h (rf_1278_0 hR), zoS_h sh_1279, nI_ix (by omega) (by decide), nI_cl (n := p) (by omega), zoS_h sh_1278, r2, zoL_e]
      refine zok_b (m_one hR hb r1 (by omega)) (fun m1 g1 => ?_)
      obtain ⟨k1, k2, k3⟩ := keep m1 g1.1
      rw [nI_p1]
      refine zok_w (ih (p + 1) fu m1 (bs ++ sgB (R p)) (by omega) (by omega) (by omega) k1 k2 k3 g1.2 (by rw [List.length_append]; omega)) (fun q hq => ?_)
      rw [List.append_assoc] at hq
      exact ⟨hq.1, mQ_t g1.1 hq.2.1, hq.2.2⟩
end ZLZ
