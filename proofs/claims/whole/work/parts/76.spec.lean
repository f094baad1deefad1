/-! PURE: what a text says of things: the reference's draft, cell by cell -/
theorem oc_k {α β γ δ : Type} {s : Except (Nat × Nat) α} {F : Option β} {T : Option zMem} {P : α → β → Prop} {E : Nat → Nat → zMem → Prop} {s' : α → Except (Nat × Nat) γ} {KF : β → Option δ} {KT : β → Option zMem} {P' : γ → δ → Prop} (h : oc s F T P E) (k : ∀ a r, s = .ok a → P a r → oc (s' a) (KF r) (KT r) P' E) : oc (s.bind s') (Option.bind F KF) (zoX F T KT) P' E := by
  cases s with
  | error e =>
    obtain ⟨h1, m, h2, h3⟩ := h
    rw [h1]
    exact ⟨rfl, m, h2, h3⟩
  | ok a =>
    obtain ⟨r, h1, h2⟩ := h
    rw [h1]
    exact k a r rfl h2
theorem lpGo_rng {t : Nat → Int32} {n : Nat} {lo hi : Int} {gb : Bool} (h1 : -2147483648 ≤ lo) (h2 : hi ≤ 2147483647) : ∀ (rem : Nat) (least : Int) (cnt : Nat) (g : Nat → Int32) (p : Nat) (a : Bool × Nat × (Nat → Int32) × Nat), p ≤ n → lo ≤ least → (∀ j, j < cnt → lo ≤ (g j).toInt ∧ (g j).toInt ≤ hi) → (gb = true → (∀ j, j + 1 < cnt → (g j).toInt < (g (j + 1)).toInt) ∧ (0 < cnt → (g (cnt - 1)).toInt < least)) → lpGo t n lo hi gb rem least cnt g p = .ok a → (∀ j, j < a.2.1 → lo ≤ (a.2.2.1 j).toInt ∧ (a.2.2.1 j).toInt ≤ hi) ∧ (gb = true → ∀ j, j + 1 < a.2.1 → (a.2.2.1 j).toInt < (a.2.2.1 (j + 1)).toInt) := by
  intro rem
  induction rem with
  | zero =>
    intro least cnt g p a hp hl hr hg h
    obtain rfl := Except.ok.inj h
    exact ⟨hr, fun e => (hg e).1⟩
  | succ rem ih =>
    intro least cnt g p a hp hl hr hg h
    simp only [lpGo] at h
    cases hn : num t n least hi p with
    | error e => rw [hn] at h; cases h
    | ok b =>
      obtain ⟨v, p1⟩ := b
      rw [hn] at h
      obtain ⟨t1, t2, t3, t4⟩ := num_ok hp hn
      have ev : (Int32.ofInt v).toInt = v := Int32.toInt_ofInt_of_le (by omega) (by omega)
      have hr2 : ∀ j, j < cnt + 1 → lo ≤ (upd g cnt (Int32.ofInt v) j).toInt ∧ (upd g cnt (Int32.ofInt v) j).toInt ≤ hi := by
        intro j hj
        unfold upd
        by_cases e : j = cnt
        · rw [if_pos e, ev]
          omega
        · rw [if_neg e]
          exact hr j (by omega)
      have hg2 : gb = true → ∀ j, j + 1 < cnt + 1 → (upd g cnt (Int32.ofInt v) j).toInt < (upd g cnt (Int32.ofInt v) (j + 1)).toInt := by
        intro e j hj
        obtain ⟨g1, g2⟩ := hg e
        unfold upd
        rw [if_neg (show ¬ j = cnt by omega)]
        by_cases e2 : j + 1 = cnt
        · rw [if_pos e2, ev]
          have := g2 (by omega)
          rw [show cnt - 1 = j by omega] at this
          omega
        · rw [if_neg e2]
          exact g1 j (by omega)
      by_cases hc : p1 < n ∧ t p1 = 44
      · simp only [if_pos hc] at h
        refine ih _ _ _ _ a (wp_2 (by omega)) ?_ hr2 (fun e => ⟨hg2 e, fun _ => ?_⟩) h
        · split <;> omega
        · rw [if_pos e, show cnt + 1 - 1 = cnt by omega]
          show (if cnt = cnt then Int32.ofInt v else g cnt).toInt < v + 1
          rw [if_pos rfl, ev]
          omega
      · simp only [if_neg hc] at h
        obtain rfl := Except.ok.inj h
        exact ⟨hr2, hg2⟩
theorem bind_ok {α β : Type} {s : Except (Nat × Nat) α} {k : α → Except (Nat × Nat) β} {b : β} (h : s.bind k = .ok b) : ∃ a, s = .ok a ∧ k a = .ok b := by
  cases s with
  | error e => cases h
  | ok a => exact ⟨a, rfl, h⟩
theorem map_ok {α β : Type} {s : Except (Nat × Nat) α} {k : α → β} {b : β} (h : s.map k = .ok b) : ∃ a, s = .ok a ∧ k a = b := by
  cases s with
  | error e => cases h
  | ok a => exact ⟨a, rfl, Except.ok.inj h⟩
/-- a list's numbers are such as they may be -/
theorem lst_rng {t : Nat → Int32} {n i most unit : Nat} {lo hi : Int} {gb : Bool} {p : Nat} {a : Nat × (Nat → Int32) × Nat} (h1 : -2147483648 ≤ lo) (h2 : hi ≤ 2147483647) (h : lst t n i most unit lo hi gb p = .ok a) : (∀ j, j < a.1 → lo ≤ (a.2.1 j).toInt ∧ (a.2.1 j).toInt ≤ hi) ∧ (gb = true → ∀ j, j + 1 < a.1 → (a.2.1 j).toInt < (a.2.1 (j + 1)).toInt) := by
  unfold lst at h
  obtain ⟨p1, k1, h⟩ := bind_ok h
  obtain ⟨p2, k2, h⟩ := bind_ok h
  split at h
  · cases h
  · rw [lstGo_eq] at h
    obtain ⟨b, k3, h⟩ := bind_ok h
    have hr := lpGo_rng h1 h2 most lo 0 (fun _ => 0) p2 b (sgn_tok k2).2 (Int.le_refl _) (fun j hj => by omega) (fun _ => ⟨fun j hj => by omega, fun hj => by omega⟩) k3
    unfold lpTl at h
    split at h
    · split at h <;> cases h
    · obtain ⟨q, k4, h⟩ := map_ok h
      rw [← h]
      exact hr
/-- one number more, a list of numbers more -/
def gI (g : Nat → Nat → Int32) (a i : Nat) (v : Int32) : Nat → Nat → Int32 := fS g a (upd (g a) i v)
def gV (g : Nat → Nat → Int32) (a at0 cnt : Nat) (vals : Nat → Int32) : Nat → Nat → Int32 := fS g a (va_cpy vals (g a) 0 at0 cnt)
def oI (v : Int) : Int32 := Int32.ofInt v
section ZSP
variable (t : Nat → Int32) (n : Nat)
def sNode (k : Nat) (g : Nat → Nat → Int32) (p : Nat) : Except (Nat × Nat) ((Nat → Nat → Int32) × Nat) :=
  (nnum t n 27 (-1) ((k : Int) - 1) p).bind fun v1 => (sgn t n 44 v1.2.2).bind fun p2 =>
  (nnum t n 28 (-1) ((g 0 2).toInt - 1) p2).bind fun v2 => (sgn t n 44 v2.2.2).bind fun p4 =>
  (lst t n 10 3 3 (-4194304) 4194304 false p4).bind fun a => (sgn t n 44 a.2.2).bind fun p6 =>
  (lst t n 11 3 3 (-1048576) 1048576 false p6).bind fun b => (sgn t n 44 b.2.2).bind fun p8 =>
  (lst t n 29 3 3 (-1048576) 1048576 false p8).bind fun c =>
  .ok (gI (gV (gV (gV (gI (gI g 15 k (oI v1.1)) 16 k (oI v2.1)) 17 (3 * k) 3 a.2.1) 18 (3 * k) 3 b.2.1) 19 (3 * k) 3 c.2.1) 20 k 0, c.2.2)
def sMat (k : Nat) (g : Nat → Nat → Int32) (p : Nat) : Except (Nat × Nat) ((Nat → Nat → Int32) × Nat) :=
  (lst t n 19 4 4 0 255 false p).bind fun a => (sgn t n 44 a.2.2).bind fun p2 =>
  (nnum t n 20 (-1) ((g 0 0).toInt - 1) p2).bind fun v1 => (sgn t n 44 v1.2.2).bind fun p4 =>
  (nnum t n 21 0 1 p4).bind fun v2 =>
  .ok (gI (gI (gV g 5 (4 * k) 4 a.2.1) 6 k (oI v1.1)) 7 k (oI v2.1), v2.2.2)
def sMesh (k : Nat) (g : Nat → Nat → Int32) (p : Nat) : Except (Nat × Nat) ((Nat → Nat → Int32) × Nat) :=
  (nnum t n 22 0 ((g 0 1).toInt - 1) p).bind fun v1 => (sgn t n 44 v1.2.2).bind fun p2 =>
  (lst t n 23 384 3 (-1048576) 1048576 false p2).bind fun a => (sgn t n 44 a.2.2).bind fun p4 =>
  (lst t n 24 a.1 a.1 (-65536) 65536 false p4).bind fun b => (sgn t n 44 b.2.2).bind fun p6 =>
  (lst t n 25 (2 * (a.1 / 3)) (2 * (a.1 / 3)) (-131072) 131072 false p6).bind fun c => (sgn t n 44 c.2.2).bind fun p8 =>
  (lst t n 26 384 3 0 (((a.1 / 3 : Nat) : Int) - 1) false p8).bind fun d =>
  .ok (gI (gV (gV (gV (gI (gV (gI g 8 k (oI v1.1)) 11 (384 * k) a.1 a.2.1) 9 k (nI (a.1 / 3))) 12 (384 * k) b.1 b.2.1) 13 (256 * k) c.1 c.2.1) 14 (384 * k) d.1 d.2.1) 10 k (nI (d.1 / 3)), d.2.2)
def sTrack (k : Nat) (g : Nat → Nat → Int32) (p : Nat) : Except (Nat × Nat) ((Nat → Nat → Int32) × Nat) :=
  (nnum t n 30 0 ((g 0 3).toInt - 1) p).bind fun v1 => (sgn t n 44 v1.2.2).bind fun p2 =>
  (nnum t n 31 0 2 p2).bind fun v2 => (sgn t n 44 v2.2.2).bind fun p4 =>
  (nnum t n 32 0 2 p4).bind fun v3 => (sgn t n 44 v3.2.2).bind fun p6 =>
  (lst t n 33 32 1 0 1000000 true p6).bind fun a => (sgn t n 44 a.2.2).bind fun p8 =>
  (lst t n 34 (3 * a.1) (3 * a.1) (if v2.1 = 0 then -4194304 else -1048576) (if v2.1 = 0 then 4194304 else 1048576) false p8).bind fun b =>
  .ok (gV (gI (gV (gI (gI (gI g 21 k (oI v1.1)) 22 k (oI v2.1)) 23 k (oI v3.1)) 25 (32 * k) a.1 a.2.1) 24 k (nI a.1)) 26 (96 * k) b.1 b.2.1, b.2.2)
def sCamera (g : Nat → Nat → Int32) (p : Nat) : Except (Nat × Nat) ((Nat → Nat → Int32) × Nat) :=
  (sgn t n 123 p).bind fun p0 =>
  (lst t n 10 3 3 (-4194304) 4194304 false p0).bind fun a => (sgn t n 44 a.2.2).bind fun p2 =>
  (lst t n 11 3 3 (-1048576) 1048576 false p2).bind fun b => (sgn t n 44 b.2.2).bind fun p4 =>
  (nnum t n 12 8 512 p4).bind fun v => (sgn t n 125 v.2.2).bind fun p6 =>
  .ok (gI (gV (gV g 27 0 3 a.2.1) 28 0 3 b.2.1) 0 34 (oI v.1), p6)
def sLight (g : Nat → Nat → Int32) (p : Nat) : Except (Nat × Nat) ((Nat → Nat → Int32) × Nat) :=
  (sgn t n 123 p).bind fun p0 =>
  (lst t n 13 3 3 (-65536) 65536 false p0).bind fun a => (sgn t n 44 a.2.2).bind fun p2 =>
  (nnum t n 14 0 65536 p2).bind fun v => (sgn t n 125 v.2.2).bind fun p4 =>
  .ok (gI (gV g 29 0 3 a.2.1) 0 35 (oI v.1), p4)
end ZSP
