/-! PURE: the text: blanks, digits -/
def isW (b : Int32) : Bool := decide (b = 32) || (decide (b = 10) || (decide (b = 13) || decide (b = 9)))
def wsk (t : Nat → Int32) : Nat → Nat → Nat
  | 0, p => p
  | d + 1, p => if isW (t p) then wsk t d (p + 1) else p
/-- the next token's place -/
def wp (t : Nat → Int32) (n p : Nat) : Nat := wsk t (n - p) p
theorem wp_end {t : Nat → Int32} {n p : Nat} (h : n ≤ p) : wp t n p = p := by
  unfold wp
  rw [show n - p = 0 by omega]
  rfl
theorem wp_sp {t : Nat → Int32} {n p : Nat} (h : p < n) (hw : isW (t p) = true) : wp t n p = wp t n (p + 1) := by
  unfold wp
  rw [show n - p = (n - (p + 1)) + 1 by omega]
  show (if isW (t p) then wsk t (n - (p + 1)) (p + 1) else p) = _
  rw [if_pos hw]
theorem wp_no {t : Nat → Int32} {n p : Nat} (hw : isW (t p) = false) : wp t n p = p := by
  unfold wp
  cases h : n - p with
  | zero => rfl
  | succ d =>
    show (if isW (t p) then wsk t d (p + 1) else p) = _
    rw [hw]
    rfl
theorem wp_le {t : Nat → Int32} {n : Nat} : ∀ (d p : Nat), p + d = n → p ≤ wp t n p ∧ wp t n p ≤ n ∧ (wp t n p < n → isW (t (wp t n p)) = false) := by
  intro d
  induction d with
  | zero =>
    intro p h
    rw [wp_end (by omega)]
    exact ⟨Nat.le_refl _, by omega, fun h => by omega⟩
  | succ d ih =>
    intro p h
    by_cases hw : isW (t p) = true
    · rw [wp_sp (by omega) hw]
      obtain ⟨a, b, c⟩ := ih (p + 1) (by omega)
      exact ⟨by omega, b, c⟩
    · have hw' : isW (t p) = false := by simpa using hw
      rw [wp_no hw']
      exact ⟨Nat.le_refl _, by omega, fun _ => hw'⟩
theorem wp_1 {t : Nat → Int32} {n p : Nat} (h : p ≤ n) : p ≤ wp t n p := (wp_le (n - p) p (by omega)).1
theorem wp_2 {t : Nat → Int32} {n p : Nat} (h : p ≤ n) : wp t n p ≤ n := (wp_le (n - p) p (by omega)).2.1
theorem wp_3 {t : Nat → Int32} {n p : Nat} (h : p ≤ n) (h2 : wp t n p < n) : isW (t (wp t n p)) = false := (wp_le (n - p) p (by omega)).2.2 h2
theorem wp_id {t : Nat → Int32} {n p : Nat} (h : p ≤ n) : wp t n (wp t n p) = wp t n p := by
  by_cases h2 : wp t n p < n
  · exact wp_no (wp_3 h h2)
  · exact wp_end (by omega)
def isD (b : Int32) : Bool := decide (48 ≤ b) && decide (b ≤ 57)
def dgk (t : Nat → Int32) : Nat → Nat → Nat
  | 0, _ => 0
  | d + 1, p => if isD (t p) then dgk t d (p + 1) + 1 else 0
/-- how many digits stand there -/
def dg (t : Nat → Int32) (n p : Nat) : Nat := dgk t (n - p) p
theorem dg_end {t : Nat → Int32} {n p : Nat} (h : n ≤ p) : dg t n p = 0 := by
  unfold dg
  rw [show n - p = 0 by omega]
  rfl
theorem dg_yes {t : Nat → Int32} {n p : Nat} (h : p < n) (hw : isD (t p) = true) : dg t n p = dg t n (p + 1) + 1 := by
  unfold dg
  rw [show n - p = (n - (p + 1)) + 1 by omega]
  show (if isD (t p) then dgk t (n - (p + 1)) (p + 1) + 1 else 0) = _
  rw [if_pos hw]
theorem dg_no {t : Nat → Int32} {n p : Nat} (hw : isD (t p) = false) : dg t n p = 0 := by
  unfold dg
  cases h : n - p with
  | zero => rfl
  | succ d =>
    show (if isD (t p) then dgk t d (p + 1) + 1 else 0) = _
    rw [hw]
    rfl
theorem dg_le {t : Nat → Int32} {n : Nat} : ∀ (d p : Nat), p + d = n → p + dg t n p ≤ n := by
  intro d
  induction d with
  | zero =>
    intro p h
    rw [dg_end (by omega)]
    omega
  | succ d ih =>
    intro p h
    by_cases hw : isD (t p) = true
    · rw [dg_yes (by omega) hw]
      have := ih (p + 1) (by omega)
      omega
    · rw [dg_no (by simpa using hw)]
      omega
theorem dg_2 {t : Nat → Int32} {n p : Nat} (h : p ≤ n) : p + dg t n p ≤ n := dg_le (n - p) p (by omega)
/-- the value of digits, from a value on -/
def dv (t : Nat → Int32) : Nat → Nat → Int → Int
  | 0, _, a => a
  | c + 1, p, a => dv t c (p + 1) (10 * a + ((t p).toInt - 48))
theorem isD_rng {b : Int32} (h : isD b = true) : 48 ≤ b.toInt ∧ b.toInt ≤ 57 := by
  unfold isD at h
  simp only [Bool.and_eq_true, decide_eq_true_eq] at h
  have h1 := i32_le.mp h.1
  have h2 := i32_le.mp h.2
  exact ⟨h1, h2⟩
theorem isD_of {b : Int32} (h1 : 48 ≤ b.toInt) (h2 : b.toInt ≤ 57) : isD b = true := by
  unfold isD
  simp only [Bool.and_eq_true, decide_eq_true_eq]
  exact ⟨i32_le.mpr h1, i32_le.mpr h2⟩
theorem dv_ge {t : Nat → Int32} {n : Nat} : ∀ (c p : Nat) (a : Int), 0 ≤ a → c ≤ dg t n p → a ≤ dv t c p a := by
  intro c
  induction c with
  | zero => intro p a _ _; exact Int.le_refl _
  | succ c ih =>
    intro p a ha hc
    have hp : p < n := by
      refine Nat.lt_of_not_le (fun h => ?_)
      rw [dg_end h] at hc
      omega
    have hd : isD (t p) = true := by
      cases h : isD (t p) with
      | true => rfl
      | false => rw [dg_no h] at hc; omega
    have := isD_rng hd
    rw [dg_yes hp hd] at hc
    have := ih (p + 1) (10 * a + ((t p).toInt - 48)) (by omega) (by omega)
    show a ≤ dv t c (p + 1) (10 * a + ((t p).toInt - 48))
    omega
/-! what the text says, as both read it: a kind of error and its place, or what is there and where it goes on -/
def sgn (t : Nat → Int32) (n : Nat) (c : Int32) (p : Nat) : Except (Nat × Nat) Nat := if p < n ∧ t p = c then .ok (wp t n (p + 1)) else .error (1, p)
def wrd (t : Nat → Int32) (n i p : Nat) : Bool := decide (p + (ztxb i).length + 1 < n) && (decide (t p = 34) && (decide (t (p + (ztxb i).length + 1) = 34) && (List.range (ztxb i).length).all (fun j => decide (t (p + 1 + j) = ztxc i j))))
def nam (t : Nat → Int32) (n i p : Nat) : Except (Nat × Nat) Nat := if wrd t n i p then sgn t n 58 (wp t n (p + (ztxb i).length + 2)) else .error (1, p)
/-- where a number's digits begin -/
def nst (t : Nat → Int32) (n p : Nat) : Nat := if p < n ∧ t p = 45 then p + 1 else p
def nval (t : Nat → Int32) (n p : Nat) : Int := if p < n ∧ t p = 45 then -dv t (dg t n (nst t n p)) (nst t n p) 0 else dv t (dg t n (nst t n p)) (nst t n p) 0
def num (t : Nat → Int32) (n : Nat) (lo hi : Int) (p : Nat) : Except (Nat × Nat) (Int × Nat) := if dg t n (nst t n p) = 0 then .error (1, p) else if lo ≤ nval t n p ∧ nval t n p ≤ hi then .ok (nval t n p, wp t n (nst t n p + dg t n (nst t n p))) else .error (2, p)
def fin (t : Nat → Int32) (n unit cnt p : Nat) : Except (Nat × Nat) Nat := if p < n ∧ t p = 93 then (if cnt = 0 ∨ cnt % unit ≠ 0 then .error (3, p) else .ok (wp t n (p + 1))) else .error (1, p)
def lstGo (t : Nat → Int32) (n unit : Nat) (lo hi : Int) (grow : Bool) : Nat → Int → Nat → (Nat → Int32) → Nat → Except (Nat × Nat) (Nat × (Nat → Int32) × Nat)
  | 0, _, _, _, p => if dg t n (nst t n p) = 0 then .error (1, p) else .error (3, p)
  | rem + 1, least, cnt, g, p => match num t n least hi p with
    | .error e => .error e
    | .ok (v, p1) => if p1 < n ∧ t p1 = 44 then lstGo t n unit lo hi grow rem (if grow then v + 1 else lo) (cnt + 1) (upd g cnt (Int32.ofInt v)) (wp t n (p1 + 1)) else (fin t n unit (cnt + 1) p1).map (fun p2 => (cnt + 1, upd g cnt (Int32.ofInt v), p2))
def lst (t : Nat → Int32) (n i most unit : Nat) (lo hi : Int) (grow : Bool) (p : Nat) : Except (Nat × Nat) (Nat × (Nat → Int32) × Nat) := (nam t n i p).bind fun p1 => (sgn t n 91 p1).bind fun p2 => if p2 < n ∧ t p2 = 93 then .error (3, p2) else lstGo t n unit lo hi grow most lo 0 (fun _ => 0) p2
