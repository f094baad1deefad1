/-! PURE: the five cuts -/
theorem stp_mem {S : (Nat → Int64) → Int64} {p q x : Nat → Int64} (h : x ∈ stp S p q) : (x = p ∧ 0 ≤ (S p).toInt) ∨ (x = itp p q (S p) (S q) ∧ 0 ≤ (S p).toInt ∧ (S q).toInt < 0) ∨ (x = itp q p (S q) (S p) ∧ 0 ≤ (S q).toInt ∧ (S p).toInt < 0) := by
  unfold stp inS at h
  by_cases a : 0 ≤ (S p).toInt
  · by_cases b : 0 ≤ (S q).toInt
    · simp [a, b] at h
      exact Or.inl ⟨h, a⟩
    · simp [a, b] at h
      rcases h with h | h
      · exact Or.inl ⟨h, a⟩
      · exact Or.inr (Or.inl ⟨h, a, by omega⟩)
  · by_cases b : 0 ≤ (S q).toInt
    · simp [a, b] at h
      exact Or.inr (Or.inr ⟨h, b, by omega⟩)
    · simp [a, b] at h
theorem cutG_mem {S : (Nat → Int64) → Int64} {f x : Nat → Int64} : ∀ l, x ∈ cutG S f l → ∃ p q, p ∈ l ∧ (q ∈ l ∨ q = f) ∧ x ∈ stp S p q := by
  intro l
  induction l with
  | nil => intro h; cases h
  | cons p t ih =>
    intro h
    cases t with
    | nil => exact ⟨p, f, by simp, Or.inr rfl, h⟩
    | cons q t =>
      rw [cutG_2] at h
      rcases List.mem_append.mp h with h | h
      · exact ⟨p, q, by simp, Or.inl (by simp), h⟩
      · obtain ⟨a, b, h1, h2, h3⟩ := ih h
        exact ⟨a, b, List.mem_cons_of_mem _ h1, h2.imp (List.mem_cons_of_mem _) id, h3⟩
theorem cutW_mem {S : (Nat → Int64) → Int64} {l : List (Nat → Int64)} {x : Nat → Int64} (h : x ∈ cutW S l) : ∃ p q, p ∈ l ∧ q ∈ l ∧ x ∈ stp S p q := by
  cases l with
  | nil => cases h
  | cons p t =>
    obtain ⟨a, b, h1, h2, h3⟩ := cutG_mem _ (show x ∈ cutG S p (p :: t) from h)
    exact ⟨a, b, h1, h2.elim id (fun e => by rw [e]; simp), h3⟩
theorem CB_in {w h f : Int} {j : Nat} {p : Nat → Int64} (hp : CB w h f j p) (s1 : j = 0 → 4096 ≤ (p 2).toInt) (s2 : j = 1 → 0 ≤ f * (p 0).toInt + w * (p 2).toInt) (s3 : j = 2 → 0 ≤ (-f) * (p 0).toInt + w * (p 2).toInt) (s4 : j = 3 → 0 ≤ f * (p 1).toInt + h * (p 2).toInt) (s5 : j = 4 → 0 ≤ (-f) * (p 1).toInt + h * (p 2).toInt) : CB w h f (j + 1) p := by
  obtain ⟨a0, a1, a2, a3, a4, a5, b1, b2, b3, b4, b5⟩ := hp
  refine ⟨a0, a1, a2, a3, a4, a5, fun k => ?_, fun k => ?_, fun k => ?_, fun k => ?_, fun k => ?_⟩
  · by_cases e : j = 0
    · exact s1 e
    · exact b1 (by omega)
  · by_cases e : j = 1
    · have := s2 e; subst e; omega
    · have := b2 (by omega); omega
  · by_cases e : j = 2
    · have := s3 e; subst e; omega
    · have := b3 (by omega); omega
  · by_cases e : j = 3
    · have := s4 e; subst e; omega
    · have := b4 (by omega); omega
  · by_cases e : j = 4
    · have := s5 e; subst e; omega
    · have := b5 (by omega); omega
set_option maxHeartbeats 4000000 in
theorem CB_itp {w h f : Int64} {j : Nat} {p q : Nat → Int64} (hw : whf w h f) (hj : j < 5) (hp : CB w.toInt h.toInt f.toInt j p) (hq : CB w.toInt h.toInt f.toInt j q) (ha : 0 ≤ (bes w h f j p).toInt) (hb : (bes w h f j q).toInt < 0) : CB w.toInt h.toInt f.toInt (j + 1) (itp p q (bes w h f j p) (bes w h f j q)) := by
  obtain ⟨ea, ea1, ea2⟩ := bes_i (j := j) hw hp.1 hp.2.1 hp.2.2.1
  obtain ⟨eb, eb1, eb2⟩ := bes_i (j := j) hw hq.1 hq.2.1 hq.2.2.1
  obtain ⟨a0, a1, a2, a3, a4, a5, b1, b2, b3, b4, b5⟩ := hp
  obtain ⟨c0, c1, c2, c3, c4, c5, d1, d2, d3, d4, d5⟩ := hq
  obtain ⟨w1, w2, w3⟩ := hw
  generalize bes w h f j p = A at ea ea1 ea2 ha ⊢
  generalize bes w h f j q = B at eb eb1 eb2 hb ⊢
  have t0 := itp_t (k := 0) ⟨ha, ea2⟩ ⟨hb, eb1⟩ (by decide) (by decide) a0 c0
  have t1 := itp_t (k := 1) ⟨ha, ea2⟩ ⟨hb, eb1⟩ (by decide) (by decide) a1 c1
  have t2 := itp_t (k := 2) ⟨ha, ea2⟩ ⟨hb, eb1⟩ (by decide) (by decide) a2 c2
  have t3 := itp_t (k := 3) ⟨ha, ea2⟩ ⟨hb, eb1⟩ (by decide) (by decide) a3 c3
  have t4 := itp_t (k := 4) ⟨ha, ea2⟩ ⟨hb, eb1⟩ (by decide) (by decide) a4 c4
  have t5 := itp_t (k := 5) ⟨ha, ea2⟩ ⟨hb, eb1⟩ (by decide) (by decide) a5 c5
  have own : ∀ (α β P0 P2 Q0 Q2 : Int), A.toInt = α * P0 + β * P2 → B.toInt = α * Q0 + β * Q2 → (A.toInt - B.toInt) * (-0) ≤ (-B.toInt) * (α * P0 + β * P2) + A.toInt * (α * Q0 + β * Q2) := fun α β P0 P2 Q0 Q2 h1 h2 => by
    rw [← h1, ← h2]
    have : (-B.toInt) * A.toInt + A.toInt * B.toInt = 0 := by grind
    omega
  refine ⟨t0.2, t1.2, t2.2, t3.2, t4.2, t5.2, fun k => ?_, fun k => ?_, fun k => ?_, fun k => ?_, fun k => ?_⟩
  · by_cases e : j = 0
    · subst e
      rw [if_pos rfl] at ea eb
      rw [t2.1]
      have : ((q 2).toInt - (p 2).toInt) * A.toInt = (A.toInt - B.toInt) * (-A.toInt) := by rw [ea, eb]; grind
      rw [this, Int.mul_ediv_cancel_left _ (by omega)]
      omega
    · exact (itp_t (k := 2) ⟨ha, ea2⟩ ⟨hb, eb1⟩ (lo := 4096) (hi := 16777216) (by decide) (by decide) ⟨b1 (by omega), a2.2⟩ ⟨d1 (by omega), c2.2⟩).2.1
  · rw [t0.1, t2.1]
    by_cases e : j = 1
    · subst e
      rw [if_neg (by decide), if_pos rfl] at ea eb
      have := itp_s (P0 := (p 0).toInt) (P2 := (p 2).toInt) (Q0 := (q 0).toInt) (Q2 := (q 2).toInt) (K := 0) ha hb (α := f.toInt) (β := w.toInt) (by omega) (by omega) (own _ _ _ _ _ _ ea eb)
      omega
    · have := itp_s (P0 := (p 0).toInt) (P2 := (p 2).toInt) (Q0 := (q 0).toInt) (Q2 := (q 2).toInt) ha hb (α := f.toInt) (β := w.toInt) (by omega) (by omega) (itp_k (P0 := (p 0).toInt) (P2 := (p 2).toInt) (Q0 := (q 0).toInt) (Q2 := (q 2).toInt) (K := 560 * ((j : Int) - 1)) ha hb (by have := b2 (by omega); omega) (by have := d2 (by omega); omega))
      omega
  · rw [t0.1, t2.1]
    by_cases e : j = 2
    · subst e
      rw [if_neg (by decide), if_neg (by decide), if_pos rfl] at ea eb
      have := itp_s (P0 := (p 0).toInt) (P2 := (p 2).toInt) (Q0 := (q 0).toInt) (Q2 := (q 2).toInt) (K := 0) ha hb (α := -f.toInt) (β := w.toInt) (by omega) (by omega) (own _ _ _ _ _ _ ea eb)
      omega
    · have := itp_s (P0 := (p 0).toInt) (P2 := (p 2).toInt) (Q0 := (q 0).toInt) (Q2 := (q 2).toInt) ha hb (α := -f.toInt) (β := w.toInt) (by omega) (by omega) (itp_k (P0 := (p 0).toInt) (P2 := (p 2).toInt) (Q0 := (q 0).toInt) (Q2 := (q 2).toInt) (K := 560 * ((j : Int) - 2)) ha hb (by have := b3 (by omega); omega) (by have := d3 (by omega); omega))
      omega
  · rw [t1.1, t2.1]
    by_cases e : j = 3
    · subst e
      rw [if_neg (by decide), if_neg (by decide), if_neg (by decide), if_pos rfl] at ea eb
      have := itp_s (P0 := (p 1).toInt) (P2 := (p 2).toInt) (Q0 := (q 1).toInt) (Q2 := (q 2).toInt) (K := 0) ha hb (α := f.toInt) (β := h.toInt) (by omega) (by omega) (own _ _ _ _ _ _ ea eb)
      omega
    · have := itp_s (P0 := (p 1).toInt) (P2 := (p 2).toInt) (Q0 := (q 1).toInt) (Q2 := (q 2).toInt) ha hb (α := f.toInt) (β := h.toInt) (by omega) (by omega) (itp_k (P0 := (p 1).toInt) (P2 := (p 2).toInt) (Q0 := (q 1).toInt) (Q2 := (q 2).toInt) (K := 560 * ((j : Int) - 3)) ha hb (by have := b4 (by omega); omega) (by have := d4 (by omega); omega))
      omega
  · rw [t1.1, t2.1]
    obtain rfl : j = 4 := by omega
    rw [if_neg (by decide), if_neg (by decide), if_neg (by decide), if_neg (by decide)] at ea eb
    have := itp_s (P0 := (p 1).toInt) (P2 := (p 2).toInt) (Q0 := (q 1).toInt) (Q2 := (q 2).toInt) (K := 0) ha hb (α := -f.toInt) (β := h.toInt) (by omega) (by omega) (own _ _ _ _ _ _ ea eb)
    omega
theorem CB_cut {w h f : Int64} {j : Nat} {l : List (Nat → Int64)} (hw : whf w h f) (hj : j < 5) (hl : ∀ p, p ∈ l → CB w.toInt h.toInt f.toInt j p) : ∀ x, x ∈ cutW (bes w h f j) l → CB w.toInt h.toInt f.toInt (j + 1) x := by
  intro x hx
  obtain ⟨p, q, hp, hq, hm⟩ := cutW_mem hx
  have bp := hl p hp
  have bq := hl q hq
  rcases stp_mem hm with ⟨rfl, h1⟩ | ⟨rfl, h1, h2⟩ | ⟨rfl, h1, h2⟩
  · obtain ⟨e, _, _⟩ := bes_i (j := j) hw bp.1 bp.2.1 bp.2.2.1
    rw [e] at h1
    refine CB_in bp (fun k => ?_) (fun k => ?_) (fun k => ?_) (fun k => ?_) (fun k => ?_)
    · subst k; rw [if_pos rfl] at h1; omega
    · subst k; rw [if_neg (by decide), if_pos rfl] at h1; exact h1
    · subst k; rw [if_neg (by decide), if_neg (by decide), if_pos rfl] at h1; exact h1
    · subst k; rw [if_neg (by decide), if_neg (by decide), if_neg (by decide), if_pos rfl] at h1; exact h1
    · subst k; rw [if_neg (by decide), if_neg (by decide), if_neg (by decide), if_neg (by decide)] at h1; exact h1
  · exact CB_itp hw hj bp bq h1 h2
  · exact CB_itp hw hj bq bp h1 h2
/-- a shape after j of the five cuts -/
def cutN (w h f : Int64) (l : List (Nat → Int64)) : Nat → List (Nat → Int64)
  | 0 => l
  | j + 1 => cutW (bes w h f j) (cutN w h f l j)
theorem cutN_B {w h f : Int64} {l : List (Nat → Int64)} (hw : whf w h f) (hl : ∀ p, p ∈ l → CB w.toInt h.toInt f.toInt 0 p) : ∀ j, j ≤ 5 → ∀ p, p ∈ cutN w h f l j → CB w.toInt h.toInt f.toInt j p := by
  intro j
  induction j with
  | zero => intro _; exact hl
  | succ j ih => intro hj; exact CB_cut hw (by omega) (ih (by omega))
theorem cutN_len {w h f : Int64} {l : List (Nat → Int64)} (hl : l.length = 3) : (cutN w h f l 0).length = 3 ∧ (cutN w h f l 1).length ≤ 4 ∧ (cutN w h f l 2).length ≤ 6 ∧ (cutN w h f l 3).length ≤ 9 ∧ (cutN w h f l 4).length ≤ 13 ∧ (cutN w h f l 5).length ≤ 19 := by
  have h0 : (cutN w h f l 0).length = 3 := hl
  have h1 := (cutW_len (S := bes w h f 0) (l := cutN w h f l 0)).1
  have h2 := (cutW_len (S := bes w h f 1) (l := cutN w h f l 1)).1
  have h3 := (cutW_len (S := bes w h f 2) (l := cutN w h f l 2)).1
  have h4 := (cutW_len (S := bes w h f 3) (l := cutN w h f l 3)).1
  have h5 := (cutW_len (S := bes w h f 4) (l := cutN w h f l 4)).1
  have e1 : cutN w h f l 1 = cutW (bes w h f 0) (cutN w h f l 0) := rfl
  have e2 : cutN w h f l 2 = cutW (bes w h f 1) (cutN w h f l 1) := rfl
  have e3 : cutN w h f l 3 = cutW (bes w h f 2) (cutN w h f l 2) := rfl
  have e4 : cutN w h f l 4 = cutW (bes w h f 3) (cutN w h f l 3) := rfl
  have e5 : cutN w h f l 5 = cutW (bes w h f 4) (cutN w h f l 4) := rfl
  rw [← e1] at h1
  rw [← e2] at h2
  rw [← e3] at h3
  rw [← e4] at h4
  rw [← e5] at h5
  omega
theorem cutN_19 {w h f : Int64} {l : List (Nat → Int64)} (hl : l.length = 3) {j : Nat} (hj : j ≤ 5) : (cutN w h f l j).length ≤ 19 ∧ (j < 5 → (cutN w h f l j).length ≤ 13) := by
  obtain ⟨h0, h1, h2, h3, h4, h5⟩ := cutN_len (w := w) (h := h) (f := f) hl
  rcases (show j = 0 ∨ j = 1 ∨ j = 2 ∨ j = 3 ∨ j = 4 ∨ j = 5 by omega) with rfl | rfl | rfl | rfl | rfl | rfl <;> omega
theorem cutN_03 {w h f : Int64} {l : List (Nat → Int64)} (hl : l.length = 3) : ∀ j, (cutN w h f l j).length = 0 ∨ 3 ≤ (cutN w h f l j).length := by
  intro j
  induction j with
  | zero => right; exact Nat.le_of_eq hl.symm
  | succ j ih =>
    show (cutW (bes w h f j) (cutN w h f l j)).length = 0 ∨ 3 ≤ (cutW (bes w h f j) (cutN w h f l j)).length
    rcases ih with e | e
    · left
      rw [List.length_eq_zero_iff.mp e]
      rfl
    · exact (cutW_len (S := bes w h f j)).2 e
