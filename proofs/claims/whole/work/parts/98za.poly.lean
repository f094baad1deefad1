/-! PURE: shapes that are cut -/
def bes (w h f : Int64) (which : Nat) (p : Nat → Int64) : Int64 := if which = 0 then p 2 - 4096 else if which = 1 then f * p 0 + w * p 2 else if which = 2 then w * p 2 - f * p 0 else if which = 3 then f * p 1 + h * p 2 else h * p 2 - f * p 1
def itp (p q : Nat → Int64) (a b : Int64) : Nat → Int64 := fun k => p k + zx_fdiv ((q k - p k) * a) (a - b)
def inS (s : Int64) : Bool := decide (0 ≤ s.toInt)
def stp (S : (Nat → Int64) → Int64) (p q : Nat → Int64) : List (Nat → Int64) := (if inS (S p) then [p] else []) ++ (if inS (S p) = inS (S q) then [] else [if inS (S p) then itp p q (S p) (S q) else itp q p (S q) (S p)])
def cutG (S : (Nat → Int64) → Int64) (first : Nat → Int64) : List (Nat → Int64) → List (Nat → Int64)
  | [] => []
  | p :: t => match t with
    | [] => stp S p first
    | q :: _ => stp S p q ++ cutG S first t
def cutW (S : (Nat → Int64) → Int64) (l : List (Nat → Int64)) : List (Nat → Int64) := match l with
  | [] => []
  | p :: _ => cutG S p l
theorem cutG_1 {S : (Nat → Int64) → Int64} {f p : Nat → Int64} : cutG S f [p] = stp S p f := rfl
theorem cutG_2 {S : (Nat → Int64) → Int64} {f p q : Nat → Int64} {t : List (Nat → Int64)} : cutG S f (p :: q :: t) = stp S p q ++ cutG S f (q :: t) := rfl
def nI1 (b : Bool) : Nat := if b then 1 else 0
def crs (S : (Nat → Int64) → Int64) (f : Nat → Int64) : List (Nat → Int64) → Nat
  | [] => 0
  | p :: t => match t with
    | [] => if inS (S p) = inS (S f) then 0 else 1
    | q :: _ => (if inS (S p) = inS (S q) then 0 else 1) + crs S f t
theorem crs_1 {S : (Nat → Int64) → Int64} {f p : Nat → Int64} : crs S f [p] = if inS (S p) = inS (S f) then 0 else 1 := rfl
theorem crs_2 {S : (Nat → Int64) → Int64} {f p q : Nat → Int64} {t : List (Nat → Int64)} : crs S f (p :: q :: t) = (if inS (S p) = inS (S q) then 0 else 1) + crs S f (q :: t) := rfl
def nin (S : (Nat → Int64) → Int64) : List (Nat → Int64) → Nat
  | [] => 0
  | p :: t => nI1 (inS (S p)) + nin S t
theorem nin_le {S : (Nat → Int64) → Int64} : ∀ l, nin S l ≤ l.length := by
  intro l
  induction l with
  | nil => exact Nat.le_refl _
  | cons p t ih =>
    rw [nin, List.length_cons]
    unfold nI1
    split <;> omega
theorem stp_len {S : (Nat → Int64) → Int64} {p q : Nat → Int64} : (stp S p q).length = nI1 (inS (S p)) + (if inS (S p) = inS (S q) then 0 else 1) := by
  unfold stp nI1
  rw [List.length_append]
  cases inS (S p) <;> cases inS (S q) <;> rfl
theorem cutG_len {S : (Nat → Int64) → Int64} {f : Nat → Int64} : ∀ l, l ≠ [] → (cutG S f l).length = nin S l + crs S f l := by
  intro l
  induction l with
  | nil => intro h; exact absurd rfl h
  | cons p t ih =>
    intro _
    cases t with
    | nil =>
      rw [cutG_1, stp_len, crs_1]
      rfl
    | cons q t =>
      rw [cutG_2, List.length_append, stp_len, ih (by simp), crs_2]
      show _ = nI1 (inS (S p)) + nin S (q :: t) + _
      omega
theorem crs_b {S : (Nat → Int64) → Int64} {f : Nat → Int64} : ∀ p t, crs S f (p :: t) + nI1 (!inS (S p)) + 2 * nin S (p :: t) ≤ 2 * (p :: t).length + nI1 (!inS (S f)) ∧ crs S f (p :: t) + nI1 (inS (S p)) ≤ 2 * nin S (p :: t) + nI1 (inS (S f)) ∧ crs S f (p :: t) % 2 = (if inS (S p) = inS (S f) then 0 else 1) ∧ (crs S f (p :: t) = 0 → ∀ x, x ∈ p :: t → inS (S x) = inS (S f)) := by
  intro p t
  induction t generalizing p with
  | nil =>
    rw [crs_1]
    have h1 : nin S [p] = nI1 (inS (S p)) := rfl
    rw [h1, show [p].length = 1 from rfl]
    refine ⟨?_, ?_, ?_, fun h x hx => ?_⟩
    · generalize inS (S p) = a
      generalize inS (S f) = b
      cases a <;> cases b <;> decide
    · generalize inS (S p) = a
      generalize inS (S f) = b
      cases a <;> cases b <;> decide
    · generalize inS (S p) = a
      generalize inS (S f) = b
      cases a <;> cases b <;> decide
    · simp at hx
      rw [hx]
      by_cases e : inS (S p) = inS (S f)
      · exact e
      · rw [if_neg e] at h; exact absurd h (by decide)
  | cons q t ih =>
    obtain ⟨i1, i2, i3, i4⟩ := ih q
    have hn : nin S (p :: q :: t) = nI1 (inS (S p)) + nin S (q :: t) := rfl
    have hl : (p :: q :: t).length = (q :: t).length + 1 := rfl
    rw [crs_2, hn, hl]
    refine ⟨?_, ?_, ?_, fun h x hx => ?_⟩
    · generalize (q :: t).length = L at i1 ⊢
      generalize nin S (q :: t) = N at i1 ⊢
      generalize crs S f (q :: t) = C at i1 ⊢
      generalize inS (S p) = a at i1 ⊢
      generalize inS (S q) = b at i1 ⊢
      generalize inS (S f) = c at i1 ⊢
      clear i2 i3 i4
      cases a <;> cases b <;> cases c <;> simp [nI1] at i1 ⊢ <;> omega
    · generalize nin S (q :: t) = N at i2 ⊢
      generalize crs S f (q :: t) = C at i2 ⊢
      generalize inS (S p) = a at i2 ⊢
      generalize inS (S q) = b at i2 ⊢
      generalize inS (S f) = c at i2 ⊢
      clear i1 i3 i4
      cases a <;> cases b <;> cases c <;> simp [nI1] at i2 ⊢ <;> omega
    · generalize crs S f (q :: t) = C at i3 ⊢
      generalize inS (S p) = a at i3 ⊢
      generalize inS (S q) = b at i3 ⊢
      generalize inS (S f) = c at i3 ⊢
      clear i1 i2 i4
      cases a <;> cases b <;> cases c <;> simp at i3 ⊢ <;> omega
    · have h0 : crs S f (q :: t) = 0 := by omega
      have e : inS (S p) = inS (S q) := by
        by_cases e : inS (S p) = inS (S q)
        · exact e
        · rw [if_neg e] at h; omega
      rcases List.mem_cons.mp hx with r | r
      · rw [r, e]; exact i4 h0 q (by simp)
      · exact i4 h0 x r
theorem nin_all {S : (Nat → Int64) → Int64} {b : Bool} : ∀ l : List (Nat → Int64), (∀ x, x ∈ l → inS (S x) = b) → nin S l = if b then l.length else 0 := by
  intro l
  induction l with
  | nil => intro _; cases b <;> rfl
  | cons p t ih =>
    intro h
    rw [nin, ih (fun x hx => h x (List.mem_cons_of_mem _ hx)), h p (by simp)]
    cases b with
    | true => show 1 + t.length = (p :: t).length; rw [List.length_cons]; omega
    | false => rfl
/-- how many corners a cut leaves -/
theorem cutW_len {S : (Nat → Int64) → Int64} {l : List (Nat → Int64)} : 2 * (cutW S l).length ≤ 3 * l.length ∧ (3 ≤ l.length → (cutW S l).length = 0 ∨ 3 ≤ (cutW S l).length) := by
  cases l with
  | nil => exact ⟨Nat.le_refl 0, fun h => absurd (show 3 ≤ 0 from h) (by decide)⟩
  | cons p t =>
    have e : (cutW S (p :: t)).length = nin S (p :: t) + crs S p (p :: t) := cutG_len _ (by simp)
    obtain ⟨b1, b2, b3, b4⟩ := crs_b (S := S) (f := p) p t
    have hle := nin_le (S := S) (p :: t)
    rw [e]
    rw [if_pos rfl] at b3
    have hall := fun e0 => nin_all (p :: t) (b4 e0)
    clear b4 e
    generalize (p :: t).length = L at *
    generalize nin S (p :: t) = N at *
    generalize crs S p (p :: t) = C at *
    generalize inS (S p) = a at *
    constructor
    · omega
    · intro h3
      by_cases e0 : C = 0
      · have := hall e0
        cases a with
        | true => right; simp at this; omega
        | false => left; simp at this; omega
      · right
        omega
