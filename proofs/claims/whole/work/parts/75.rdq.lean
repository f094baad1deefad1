/-! PURE: the class's reader over a memory that is told cell by cell -/
def fS {α : Type} (f : Nat → α) (a : Nat) (g : α) : Nat → α := fun b => if b = a then g else f b
theorem fS_at {α : Type} (f : Nat → α) (a : Nat) (g : α) : fS f a g a = g := if_pos rfl
theorem fS_ne {α : Type} {f : Nat → α} {a b : Nat} {g : α} (h : b ≠ a) : fS f a g b = f b := if_neg h
theorem mC_sI (m : zMem) (a b sp dp n : Nat) : mC m a b sp dp n = sI m b (va_cpy (m.1 a) (m.1 b) sp dp n) := nrfl rfl
/-- the reader stands at q; of all other cells but its row it is told what they hold -/
def rdQ (mm : zMem) (s n q : Nat) (f : Nat → Nat → Int32) (m : zMem) : Prop := (rdS m n q ∧ wp (mm.1 1) n q = q ∧ m.2 = mm.2 ∧ ∀ a, a ≠ 3 → a ≠ 4 → m.1 a = f a) ∧ gS s ∧ (mm.2.2 3 7 = some s ∧ ∀ i, i < 8 → f (txA s i + 2) 0 = 0) ∧ ∀ a, ¬ (s < a ∧ a < s + 370) → f a = mm.1 a
def rdZ (mm : zMem) (s k q : Nat) (m : zMem) : Prop := m.1 3 0 = nI k ∧ m.1 3 1 = nI q ∧ m.2 = mm.2 ∧ (∀ a, a ≠ 3 → a ≠ 4 → ¬ (s ≤ a ∧ a < s + 370) → m.1 a = mm.1 a) ∧ ∀ i, i < 8 → m.1 (txA s i + 2) 0 = 0
section ZRQ
variable {W H : Nat} {mm m : zMem} {s n q : Nat} {f : Nat → Nat → Int32}
theorem rdQ_t (h : rdQ mm s n q f m) : m.1 1 = mm.1 1 := by
  rw [h.1.2.2.2 1 (by decide) (by decide), h.2.2.2 1 (by rcases h.2.1 with e | e | e <;> omega)]
theorem rdQ_S (h : rdQ mm s n q f m) : rdS m n q := h.1.1
theorem rdQ_R (h : rdQ mm s n q f m) : RF m.2.2 := h.1.1.1
theorem rdQ_7 (h : rdQ mm s n q f m) : m.2.2 3 7 = some s := by
  rw [h.1.2.2.1]
  exact h.2.2.1.1
theorem txs {s i : Nat} (hs : gS s) : txA s i + 2 ≠ 3 ∧ txA s i + 2 ≠ 4 := by
  unfold txA
  rcases hs with e | e | e <;> omega
theorem rdQ_g (h : rdQ mm s n q f m) : gS s := h.2.1
theorem rdQ_f (h : rdQ mm s n q f m) {a : Nat} (h3 : a ≠ 3) (h4 : a ≠ 4) : m.1 a = f a := h.1.2.2.2 a h3 h4
theorem rdQ_w (h : rdQ mm s n q f m) {m' : zMem} {q' : Nat} (hS : rdS m' n q') (ht : wp (mm.1 1) n q' = q') (hw : rw4 m m') : rdQ mm s n q' f m' := ⟨⟨hS, ht, hw.1.trans h.1.2.2.1, fun a h3 h4 => (hw.2 a h3 h4).trans (h.1.2.2.2 a h3 h4)⟩, h.2⟩
theorem rdZ_w (h : rdQ mm s n q f m) {m' : zMem} {k p : Nat} (e : rdW m k p m') : rdZ mm s k p m' := ⟨e.1, e.2.1, e.2.2.1.trans h.1.2.2.1, fun a h3 h4 hs => ((e.2.2.2 a h3 h4).trans (h.1.2.2.2 a h3 h4)).trans (h.2.2.2 a (fun q => hs ⟨Nat.le_of_lt q.1, q.2⟩)), fun i hi => by rw [e.2.2.2 _ (txs h.2.1).1 (txs h.2.1).2, h.1.2.2.2 _ (txs h.2.1).1 (txs h.2.1).2]; exact h.2.2.1.2 i hi⟩
theorem rdZ_e (h : rdQ mm s n q f m) {m' : zMem} {k p : Nat} (e : rdE m k p m') : rdZ mm s k p m' := rdZ_w h (rdW_E rw4_r e)
theorem q_need (h : rdQ mm s n q f m) (c : Int32) : oc (sgn (mm.1 1) n c q) (F_XReader_need (sh0 W H) m 3 c) (T_XReader_need (sh0 W H) m 3 c) (fun q' m' => rdQ mm s n q' f m') (rdZ mm s) := by
  have hx := c_need' (W := W) (H := H) (m0 := m) (rdQ_S h) c rw4_r
  rw [rdQ_t h] at hx
  cases hs : sgn (mm.1 1) n c q with
  | error e =>
    rw [hs] at hx
    obtain ⟨x1, m', x2, x3⟩ := hx
    exact ⟨x1, m', x2, rdZ_w h x3⟩
  | ok q' =>
    rw [hs] at hx
    obtain ⟨m', x1, x2, x3, x4⟩ := hx
    exact ⟨m', x1, rdQ_w h x2 x3 (by rw [x4]; exact rw4_P rw4_r)⟩
/-- a name and a number: the number, where it stands, and where it goes on -/
def nnum (t : Nat → Int32) (n i : Nat) (lo hi : Int) (p : Nat) : Except (Nat × Nat) (Int × Nat × Nat) := (nam t n i p).bind fun p1 => (num t n lo hi p1).map (fun a => (a.1, p1, a.2))
theorem q_number (h : rdQ mm s n q f m) {i : Nat} (hi67 : i < 67) {lo hi : Int32} (hlo : -100000000 < lo.toInt) (hhi : hi.toInt < 100000000) : oc (nnum (mm.1 1) n i lo.toInt hi.toInt q) (F_XReader_number (sh0 W H) m 3 i lo hi) (T_XReader_number (sh0 W H) m 3 i lo hi) (fun a r => r.1.toInt = a.1 ∧ lo.toInt ≤ a.1 ∧ a.1 ≤ hi.toInt ∧ r.2.1 3 6 = nI a.2.1 ∧ rdQ mm s n a.2.2 f r.2) (rdZ mm s) := by
  unfold F_XReader_number T_XReader_number nnum
  simp only [sh_3, zoS_e]
  have hx := c_needName' (W := W) (H := H) (m0 := m) (rdQ_S h) hi67 rw4_r
  rw [rdQ_t h] at hx
  cases hs : nam (mm.1 1) n i q with
  | error e =>
    rw [hs] at hx
    obtain ⟨x1, m', x2, x3⟩ := hx
    rw [x1, x2]
    exact ⟨rfl, m', rfl, rdZ_w h x3⟩
  | ok p1 =>
    rw [hs] at hx
    obtain ⟨m', x1, x2, x3, x4⟩ := hx
    have hq : rdQ mm s n p1 f m' := rdQ_w h x2 x3 (by rw [x4]; exact rw4_P rw4_r)
    have hy := c_snum (W := W) (H := H) x2 (lo := lo) (hi := hi)
    rw [rdQ_t hq, snum_eq hlo hhi] at hy
    rw [x1]
    simp only [zob_e, zoX_s]
    show oc ((num (mm.1 1) n lo.toInt hi.toInt p1).map (fun a => (a.1, p1, a.2))) _ _ _ _
    cases hs2 : num (mm.1 1) n lo.toInt hi.toInt p1 with
    | error e =>
      rw [hs2] at hy
      obtain ⟨y1, m2, y2, y3⟩ := hy
      rw [y1, y2]
      exact ⟨rfl, m2, rfl, rdZ_e hq y3⟩
    | ok a =>
      rw [hs2] at hy
      obtain ⟨⟨x, m2⟩, y1, y2, y3, y4⟩ := hy
      obtain ⟨t1, t2, t3, t4⟩ := num_ok x2.2.2.2.2.2.1 hs2
      simp only at y2 y3 y4
      rw [y1]
      refine ⟨_, rfl, y2, t3, t4, ?_, ?_⟩
      · show m2.1 3 6 = nI p1
        rw [y4, rdN_6]
      · refine rdQ_w hq (m' := m2) (q' := a.2) (by rw [y4]; exact rdN_S x2 y3) t1 (by rw [y4]; exact rw4_N rw4_r)
theorem q_numbers (h : rdQ mm s n q f m) {i most unit : Nat} {lo hi grow : Int32} {gb : Bool} (hi67 : i < 67) (hm : most ≤ 3072) (hu : 0 < unit) (hu2 : unit ≤ 3072) (hlo : -100000000 < lo.toInt) (hhi : hi.toInt < 100000000) (hg : grow = b32 gb) : oc (lst (mm.1 1) n i most unit lo.toInt hi.toInt gb q) (F_XReader_numbers (sh0 W H) m 3 i (nI most) (nI unit) lo hi grow) (T_XReader_numbers (sh0 W H) m 3 i (nI most) (nI unit) lo hi grow) (fun a r => r.1 = nI a.1 ∧ a.1 ≤ most ∧ a.1 ≠ 0 ∧ a.1 % unit = 0 ∧ rdQ mm s n a.2.2 f r.2 ∧ ∀ j, j < a.1 → r.2.1 4 j = a.2.1 j) (rdZ mm s) := by
  have hx := c_numbers (W := W) (H := H) (rdQ_S h) hi67 hm hu hu2 hlo hhi hg
  rw [rdQ_t h] at hx
  cases hs : lst (mm.1 1) n i most unit lo.toInt hi.toInt gb q with
  | error e =>
    rw [hs] at hx
    obtain ⟨x1, m', x2, x3⟩ := hx
    exact ⟨x1, m', x2, rdZ_w h x3⟩
  | ok a =>
    rw [hs] at hx
    obtain ⟨r, x1, x2, x3, x4, x5, x6, x7, x8, x9⟩ := hx
    exact ⟨r, x1, x2, x3, x4, x5, rdQ_w h x6 x7 x8, x9⟩
theorem q_put (h : rdQ mm s n q f m) {a j : Nat} {v : Int32} (ha : s < a ∧ a < s + 370) (hx : ∀ i, i < 8 → txA s i + 2 ≠ a) : rdQ mm s n q (fS f a (upd (f a) j v)) (mI m a j v) := by
  have hg := h.2.1
  have h11 : 11 ≤ a := by rcases hg with e | e | e <;> omega
  refine ⟨⟨?_, h.1.2.1, h.1.2.2.1, fun b h3 h4 => ?_⟩, hg, ⟨h.2.2.1.1, fun i hi => by rw [fS_ne (hx i hi)]; exact h.2.2.1.2 i hi⟩, fun b hb => ?_⟩
  · obtain ⟨hR, h4, h5, ht, hn, hp, hz⟩ := h.1.1
    rw [mI_sI]
    exact ⟨hR, by rw [sI_ne (by omega)]; exact h4, by rw [sI_ne (by omega)]; exact h5, ht, hn, hp, by rw [sI_ne (by omega)]; exact hz⟩
  · rw [mI_sI]
    by_cases e : b = a
    · subst e
      rw [sI_at, fS_at, h.1.2.2.2 b h3 h4]
    · rw [sI_ne e, fS_ne e, h.1.2.2.2 b h3 h4]
  · rw [fS_ne (fun e => hb (by rw [e]; exact ha))]
    exact h.2.2.2 b hb
theorem q_copy (h : rdQ mm s n q f m) {a dp c : Nat} {g : Nat → Int32} (ha : s < a ∧ a < s + 370) (hx : ∀ i, i < 8 → txA s i + 2 ≠ a) (hg4 : ∀ j, j < c → m.1 4 j = g j) : rdQ mm s n q (fS f a (va_cpy g (f a) 0 dp c)) (mC m 4 a 0 dp c) := by
  have hg := h.2.1
  have h11 : 11 ≤ a := by rcases hg with e | e | e <;> omega
  refine ⟨⟨?_, h.1.2.1, ?_, fun b h3 h4 => ?_⟩, hg, ⟨h.2.2.1.1, fun i hi => by rw [fS_ne (hx i hi)]; exact h.2.2.1.2 i hi⟩, fun b hb => ?_⟩
  · obtain ⟨hR, h4, h5, ht, hn, hp, hz⟩ := h.1.1
    rw [mC_sI]
    exact ⟨hR, by rw [sI_ne (by omega)]; exact h4, by rw [sI_ne (by omega)]; exact h5, ht, hn, hp, by rw [sI_ne (by omega)]; exact hz⟩
  · rw [mC_sI]
    exact h.1.2.2.1
  · rw [mC_sI]
    by_cases e : b = a
    · subst e
      rw [sI_at, fS_at, h.1.2.2.2 b h3 h4]
      funext k
      unfold va_cpy
      by_cases hk : dp ≤ k ∧ k < dp + c
      · rw [if_pos hk, if_pos hk, hg4 _ (by omega)]
      · rw [if_neg hk, if_neg hk]
    · rw [sI_ne e, fS_ne e, h.1.2.2.2 b h3 h4]
  · rw [fS_ne (fun e => hb (by rw [e]; exact ha))]
    exact h.2.2.2 b hb
end ZRQ
