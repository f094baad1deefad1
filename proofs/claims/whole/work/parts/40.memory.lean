/-! MEMORY: the world by shapes and contents -/
abbrev zMem : Type := (Nat → Nat → Int32) × (Nat → Nat → Int64) × (Nat → Nat → Option Nat)
abbrev zSh : Type := Nat → Option (Nat × Nat)
def zfuel : Nat := 1000000
def mI (m : zMem) (k j : Nat) (v : Int32) : zMem := (fun a => if a = k then upd (m.1 a) j v else m.1 a, m.2.1, m.2.2)
def mL (m : zMem) (k j : Nat) (v : Int64) : zMem := (m.1, fun a => if a = k then vp_updL (m.2.1 a) j v else m.2.1 a, m.2.2)
def mR (m : zMem) (k j : Nat) (v : Option Nat) : zMem := (m.1, m.2.1, fun a => if a = k then (fun i => if i = j then v else m.2.2 a i) else m.2.2 a)
def zrf (b : Nat) (x : Option Nat) : Value := va_rf (x.map (fun y => b + y))
/-- an object's fields -/
def zfl (b c : Nat) (m : zMem) (k : Nat) : List Value := match c with
  | 0 => [.int (m.1 k 0), .int (m.1 k 1), zrf b (m.2.2 k 2), .int (m.1 k 3), zrf b (m.2.2 k 4), zrf b (m.2.2 k 5), zrf b (m.2.2 k 6), zrf b (m.2.2 k 7), zrf b (m.2.2 k 8), zrf b (m.2.2 k 9), .int (m.1 k 10), .int (m.1 k 11)]
  | 1 => [.int (m.1 k 0), .int (m.1 k 1), zrf b (m.2.2 k 2), .int (m.1 k 3), zrf b (m.2.2 k 4), zrf b (m.2.2 k 5), zrf b (m.2.2 k 6), zrf b (m.2.2 k 7), zrf b (m.2.2 k 8), zrf b (m.2.2 k 9), .int (m.1 k 10), .int (m.1 k 11), .int (m.1 k 12), .int (m.1 k 13), zrf b (m.2.2 k 14), .int (m.1 k 15), zrf b (m.2.2 k 16), zrf b (m.2.2 k 17), zrf b (m.2.2 k 18), .int (m.1 k 19)]
  | 2 => [.int (m.1 k 0), .int (m.1 k 1), .int (m.1 k 2), zrf b (m.2.2 k 3), zrf b (m.2.2 k 4), zrf b (m.2.2 k 5), zrf b (m.2.2 k 6)]
  | 3 => [.int (m.1 k 0), .int (m.1 k 1), .int (m.1 k 2), .int (m.1 k 3), zrf b (m.2.2 k 4), zrf b (m.2.2 k 5)]
  | 4 => [zrf b (m.2.2 k 0), .int (m.1 k 1), zrf b (m.2.2 k 2), zrf b (m.2.2 k 3), .int (m.1 k 4), zrf b (m.2.2 k 5), zrf b (m.2.2 k 6), .int (m.1 k 7), .int (m.1 k 8), .int (m.1 k 9), .int (m.1 k 10)]
  | 5 => [.int (m.1 k 0), zrf b (m.2.2 k 1), zrf b (m.2.2 k 2), zrf b (m.2.2 k 3), .int (m.1 k 4), .int (m.1 k 5), .int (m.1 k 6), .int (m.1 k 7), zrf b (m.2.2 k 8), zrf b (m.2.2 k 9), .int (m.1 k 10), zrf b (m.2.2 k 11), .int (m.1 k 12), .long (m.2.1 k 13), .int (m.1 k 14), .int (m.1 k 15), .int (m.1 k 16), .int (m.1 k 17)]
  | 6 => [.long (m.2.1 k 0), zrf b (m.2.2 k 1), .long (m.2.1 k 2), .long (m.2.1 k 3), .long (m.2.1 k 4), .long (m.2.1 k 5)]
  | 7 => [.int (m.1 k 0), .int (m.1 k 1), zrf b (m.2.2 k 2), zrf b (m.2.2 k 3), .int (m.1 k 4), .int (m.1 k 5), .int (m.1 k 6), zrf b (m.2.2 k 7)]
  | 8 => [zrf b (m.2.2 k 0), zrf b (m.2.2 k 1), zrf b (m.2.2 k 2), zrf b (m.2.2 k 3), zrf b (m.2.2 k 4), zrf b (m.2.2 k 5), zrf b (m.2.2 k 6), zrf b (m.2.2 k 7), .int (m.1 k 8), .int (m.1 k 9), zrf b (m.2.2 k 10)]
  | 9 => [zrf b (m.2.2 k 0), .int (m.1 k 1), zrf b (m.2.2 k 2), .int (m.1 k 3), .int (m.1 k 4), .int (m.1 k 5), .int (m.1 k 6), zrf b (m.2.2 k 7), zrf b (m.2.2 k 8), zrf b (m.2.2 k 9), zrf b (m.2.2 k 10), .int (m.1 k 11), .int (m.1 k 12), zrf b (m.2.2 k 13), zrf b (m.2.2 k 14)]
  | 10 => [.int (m.1 k 0), .int (m.1 k 1), .int (m.1 k 2), .int (m.1 k 3), zrf b (m.2.2 k 4), zrf b (m.2.2 k 5)]
  | 11 => [.int (m.1 k 0), .int (m.1 k 1), .int (m.1 k 2), .int (m.1 k 3), zrf b (m.2.2 k 4), zrf b (m.2.2 k 5)]
  | 12 => [zrf b (m.2.2 k 0), .int (m.1 k 1), zrf b (m.2.2 k 2), .int (m.1 k 3), .int (m.1 k 4), .int (m.1 k 5), zrf b (m.2.2 k 6)]
  | 13 => [.int (m.1 k 0), .int (m.1 k 1), .int (m.1 k 2), zrf b (m.2.2 k 3), zrf b (m.2.2 k 4), zrf b (m.2.2 k 5), .int (m.1 k 6), .int (m.1 k 7), .int (m.1 k 8), .int (m.1 k 9), .int (m.1 k 10), .int (m.1 k 11), .int (m.1 k 12), .long (m.2.1 k 13), zrf b (m.2.2 k 14), zrf b (m.2.2 k 15), zrf b (m.2.2 k 16), zrf b (m.2.2 k 17), zrf b (m.2.2 k 18), zrf b (m.2.2 k 19), zrf b (m.2.2 k 20), zrf b (m.2.2 k 21), zrf b (m.2.2 k 22), zrf b (m.2.2 k 23), zrf b (m.2.2 k 24), zrf b (m.2.2 k 25), .int (m.1 k 26), zrf b (m.2.2 k 27), zrf b (m.2.2 k 28), zrf b (m.2.2 k 29), zrf b (m.2.2 k 30)]
  | 14 => [zrf b (m.2.2 k 0), zrf b (m.2.2 k 1), .int (m.1 k 2), .int (m.1 k 3), .int (m.1 k 4), .int (m.1 k 5), .int (m.1 k 6), .int (m.1 k 7), .int (m.1 k 8), .int (m.1 k 9), .int (m.1 k 10)]
  | 15 => [.int (m.1 k 0), .int (m.1 k 1), .int (m.1 k 2), .int (m.1 k 3), .int (m.1 k 4), zrf b (m.2.2 k 5), zrf b (m.2.2 k 6), zrf b (m.2.2 k 7), zrf b (m.2.2 k 8), zrf b (m.2.2 k 9), zrf b (m.2.2 k 10), zrf b (m.2.2 k 11), zrf b (m.2.2 k 12), zrf b (m.2.2 k 13), zrf b (m.2.2 k 14), zrf b (m.2.2 k 15), zrf b (m.2.2 k 16), zrf b (m.2.2 k 17), zrf b (m.2.2 k 18), zrf b (m.2.2 k 19), zrf b (m.2.2 k 20), zrf b (m.2.2 k 21), zrf b (m.2.2 k 22), zrf b (m.2.2 k 23), zrf b (m.2.2 k 24), zrf b (m.2.2 k 25), zrf b (m.2.2 k 26), zrf b (m.2.2 k 27), zrf b (m.2.2 k 28), zrf b (m.2.2 k 29), zrf b (m.2.2 k 30), zrf b (m.2.2 k 31), zrf b (m.2.2 k 32), zrf b (m.2.2 k 33), .int (m.1 k 34), .int (m.1 k 35)]
  | _ => []
/-- a cell by its shape: an object's class, 100 and on an array of numbers, 200 and on one of references -/
def zco (tA : Nat → ClassId) (b : Nat) (s : Nat × Nat) (m : zMem) (k : Nat) : va_E :=
  if s.1 < 100 then .inr (s.1, zfl b s.1 m k)
  else if s.1 = 102 then .inl (tA 2, s.2, .inr (.inl (m.2.1 k)))
  else if s.1 < 200 then .inl (tA (s.1 - 100), s.2, .inl (m.1 k))
  else .inl (tA (s.1 - 200), s.2, .inr (.inr (.inr (.inr (fun j => (m.2.2 k j).map (fun y => b + y))))))
def zW (tA : Nat → ClassId) (b : Nat) (sh : zSh) (m : zMem) : zV := fun k => (sh k).map (fun s => zco tA b s m k)
theorem zfl_c {b c : Nat} {m m' : zMem} {k : Nat} (h1 : m'.1 k = m.1 k) (h2 : m'.2.1 k = m.2.1 k) (h3 : m'.2.2 k = m.2.2 k) : zfl b c m' k = zfl b c m k := by
  unfold zfl
  rw [h1, h2, h3]
theorem zco_c {tA : Nat → ClassId} {b : Nat} {s : Nat × Nat} {m m' : zMem} {k : Nat} (h1 : m'.1 k = m.1 k) (h2 : m'.2.1 k = m.2.1 k) (h3 : m'.2.2 k = m.2.2 k) : zco tA b s m' k = zco tA b s m k := by
  unfold zco
  rw [zfl_c h1 h2 h3, h1, h2, h3]
theorem zW_u {tA : Nat → ClassId} {b : Nat} {sh : zSh} {m m' : zMem} {k : Nat} {s : Nat × Nat} (hs : sh k = some s) (h : ∀ a, a ≠ k → m'.1 a = m.1 a ∧ m'.2.1 a = m.2.1 a ∧ m'.2.2 a = m.2.2 a) : zu (zW tA b sh m) k (zco tA b s m' k) = zW tA b sh m' := by
  funext a
  by_cases e : a = k
  · subst e
    rw [zu_s, zW, hs]
    rfl
  · rw [zu_n _ e, zW, zW]
    obtain ⟨h1, h2, h3⟩ := h a e
    cases sh a with
    | none => rfl
    | some s' => exact congrArg some (zco_c h1 h2 h3).symm
theorem mI_n {m : zMem} {k j : Nat} {v : Int32} (a : Nat) (h : a ≠ k) : (mI m k j v).1 a = m.1 a ∧ (mI m k j v).2.1 a = m.2.1 a ∧ (mI m k j v).2.2 a = m.2.2 a := ⟨if_neg h, rfl, rfl⟩
theorem mL_n {m : zMem} {k j : Nat} {v : Int64} (a : Nat) (h : a ≠ k) : (mL m k j v).1 a = m.1 a ∧ (mL m k j v).2.1 a = m.2.1 a ∧ (mL m k j v).2.2 a = m.2.2 a := ⟨rfl, if_neg h, rfl⟩
theorem mR_n {m : zMem} {k j : Nat} {v : Option Nat} (a : Nat) (h : a ≠ k) : (mR m k j v).1 a = m.1 a ∧ (mR m k j v).2.1 a = m.2.1 a ∧ (mR m k j v).2.2 a = m.2.2 a := ⟨rfl, rfl, if_neg h⟩
section ZMW
variable {tA : Nat → ClassId} {b : Nat} {sh : zSh} {m : zMem} {k len : Nat}
theorem zW_o {c : Nat} (hs : sh k = some (c, len)) (hc : c < 100) : zW tA b sh m k = some (.inr (c, zfl b c m k)) := by
  rw [zW, hs]
  exact congrArg some (if_pos hc)
theorem zW_a0 (hs : sh k = some (100, len)) : zW tA b sh m k = some (.inl (tA 0, len, .inl (m.1 k))) := by rw [zW, hs]; rfl
theorem zW_a1 (hs : sh k = some (101, len)) : zW tA b sh m k = some (.inl (tA 1, len, .inl (m.1 k))) := by rw [zW, hs]; rfl
theorem zW_a2 (hs : sh k = some (102, len)) : zW tA b sh m k = some (.inl (tA 2, len, .inr (.inl (m.2.1 k)))) := by rw [zW, hs]; rfl
theorem zW_a3 (hs : sh k = some (103, len)) : zW tA b sh m k = some (.inl (tA 3, len, .inl (m.1 k))) := by rw [zW, hs]; rfl
theorem zW_r4 (hs : sh k = some (204, len)) : zW tA b sh m k = some (.inl (tA 4, len, .inr (.inr (.inr (.inr (fun j => (m.2.2 k j).map (fun y => b + y))))))) := by simp [zW, hs, zco]
theorem zW_r5 (hs : sh k = some (205, len)) : zW tA b sh m k = some (.inl (tA 5, len, .inr (.inr (.inr (.inr (fun j => (m.2.2 k j).map (fun y => b + y))))))) := by simp [zW, hs, zco]
theorem zW_r6 (hs : sh k = some (206, len)) : zW tA b sh m k = some (.inl (tA 6, len, .inr (.inr (.inr (.inr (fun j => (m.2.2 k j).map (fun y => b + y))))))) := by simp [zW, hs, zco]
theorem zW_r7 (hs : sh k = some (207, len)) : zW tA b sh m k = some (.inl (tA 7, len, .inr (.inr (.inr (.inr (fun j => (m.2.2 k j).map (fun y => b + y))))))) := by simp [zW, hs, zco]
theorem zW_r8 (hs : sh k = some (208, len)) : zW tA b sh m k = some (.inl (tA 8, len, .inr (.inr (.inr (.inr (fun j => (m.2.2 k j).map (fun y => b + y))))))) := by simp [zW, hs, zco]
theorem zW_r9 (hs : sh k = some (209, len)) : zW tA b sh m k = some (.inl (tA 9, len, .inr (.inr (.inr (.inr (fun j => (m.2.2 k j).map (fun y => b + y))))))) := by simp [zW, hs, zco]
theorem zW_pI {c j : Nat} {v : Int32} (hs : sh k = some (c, len)) (hc : c < 100) (hz : (zfl b c m k).set j (.int v) = zfl b c (mI m k j v) k) : zu (zW tA b sh m) k (.inr (c, (zfl b c m k).set j (.int v))) = zW tA b sh (mI m k j v) := by
  rw [hz, ← zW_u hs mI_n]
  exact congrArg _ (if_pos hc).symm
theorem zW_pL {c j : Nat} {v : Int64} (hs : sh k = some (c, len)) (hc : c < 100) (hz : (zfl b c m k).set j (.long v) = zfl b c (mL m k j v) k) : zu (zW tA b sh m) k (.inr (c, (zfl b c m k).set j (.long v))) = zW tA b sh (mL m k j v) := by
  rw [hz, ← zW_u hs mL_n]
  exact congrArg _ (if_pos hc).symm
theorem zW_pR {c j : Nat} {v : Option Nat} (hs : sh k = some (c, len)) (hc : c < 100) (hz : (zfl b c m k).set j (zrf b v) = zfl b c (mR m k j v) k) : zu (zW tA b sh m) k (.inr (c, (zfl b c m k).set j (zrf b v))) = zW tA b sh (mR m k j v) := by
  rw [hz, ← zW_u hs mR_n]
  exact congrArg _ (if_pos hc).symm
theorem zW_s0 {j : Nat} {v : Int32} (hs : sh k = some (100, len)) : zu (zW tA b sh m) k (.inl (tA 0, len, .inl (upd (m.1 k) j v))) = zW tA b sh (mI m k j v) := by
  have e : zco tA b (100, len) (mI m k j v) k = .inl (tA 0, len, .inl (upd (m.1 k) j v)) := by
    show (.inl (tA 0, len, .inl ((mI m k j v).1 k)) : va_E) = _
    rw [show (mI m k j v).1 k = upd (m.1 k) j v from if_pos rfl]
  rw [← e]
  exact zW_u hs mI_n
theorem zW_s1 {j : Nat} {v : Int32} (hs : sh k = some (101, len)) : zu (zW tA b sh m) k (.inl (tA 1, len, .inl (upd (m.1 k) j v))) = zW tA b sh (mI m k j v) := by
  have e : zco tA b (101, len) (mI m k j v) k = .inl (tA 1, len, .inl (upd (m.1 k) j v)) := by
    show (.inl (tA 1, len, .inl ((mI m k j v).1 k)) : va_E) = _
    rw [show (mI m k j v).1 k = upd (m.1 k) j v from if_pos rfl]
  rw [← e]
  exact zW_u hs mI_n
theorem zW_s3 {j : Nat} {v : Int32} (hs : sh k = some (103, len)) : zu (zW tA b sh m) k (.inl (tA 3, len, .inl (upd (m.1 k) j v))) = zW tA b sh (mI m k j v) := by
  have e : zco tA b (103, len) (mI m k j v) k = .inl (tA 3, len, .inl (upd (m.1 k) j v)) := by
    show (.inl (tA 3, len, .inl ((mI m k j v).1 k)) : va_E) = _
    rw [show (mI m k j v).1 k = upd (m.1 k) j v from if_pos rfl]
  rw [← e]
  exact zW_u hs mI_n
theorem zW_s2 {j : Nat} {v : Int64} (hs : sh k = some (102, len)) : zu (zW tA b sh m) k (.inl (tA 2, len, .inr (.inl (vp_updL (m.2.1 k) j v)))) = zW tA b sh (mL m k j v) := by
  have e : zco tA b (102, len) (mL m k j v) k = .inl (tA 2, len, .inr (.inl (vp_updL (m.2.1 k) j v))) := by
    show (.inl (tA 2, len, .inr (.inl ((mL m k j v).2.1 k))) : va_E) = _
    rw [show (mL m k j v).2.1 k = vp_updL (m.2.1 k) j v from if_pos rfl]
  rw [← e]
  exact zW_u hs mL_n
end ZMW
/-! what a function's answer says of its steps -/
def zoS {α : Type} (s : Option (Nat × Nat)) (c : Nat) (K : Nat → Option α) : Option α := match s with
  | some (c', len) => if c' = c then K len else none
  | none => none
theorem zoS_s {α : Type} {s : Option (Nat × Nat)} {c : Nat} {K : Nat → Option α} {r : α} (h : zoS s c K = some r) : ∃ len, s = some (c, len) ∧ K len = some r := by
  unfold zoS at h
  split at h
  · rename_i c' len
    by_cases e : c' = c
    · rw [if_pos e] at h
      exact ⟨len, by rw [e], h⟩
    · rw [if_neg e] at h
      cases h
  · cases h
/-- an array of numbers, whatever they are -/
def zoA {α : Type} (s : Option (Nat × Nat)) (K : Nat → Nat → Option α) : Option α := match s with
  | some (c, len) => if 100 ≤ c ∧ c < 104 then K c len else none
  | none => none
def zoR {α : Type} (s : Option (Nat × Nat)) (K : Nat → Nat → Option α) : Option α := match s with
  | some (c, len) => if 204 ≤ c ∧ c < 210 then K c len else none
  | none => none
theorem zoR_s {α : Type} {s : Option (Nat × Nat)} {K : Nat → Nat → Option α} {r : α} (h : zoR s K = some r) : ∃ c len, (s = some (c, len) ∧ 204 ≤ c ∧ c < 210) ∧ K c len = some r := by
  unfold zoR at h
  split at h
  · rename_i c len
    by_cases e : 204 ≤ c ∧ c < 210
    · rw [if_pos e] at h
      exact ⟨c, len, ⟨rfl, e⟩, h⟩
    · rw [if_neg e] at h
      cases h
  · cases h
def zoL {α β : Type} (x : α) (f : α → Option β) : Option β := f x
theorem zoL_s {α β : Type} {x : α} {f : α → Option β} {r : β} (h : zoL x f = some r) : ∃ y, y = x ∧ f y = some r := ⟨x, rfl, h⟩
theorem zoB_s {α β : Type} {o : Option α} {f : α → Option β} {r : β} (h : Option.bind o f = some r) : ∃ y, o = some y ∧ f y = some r := Option.bind_eq_some_iff.mp h
theorem zoI_s {α : Type} {c : Prop} {_ : Decidable c} {x : Option α} {r : α} (h : (if c then none else x) = some r) : ¬ c ∧ x = some r := by
  by_cases e : c
  · rw [if_pos e] at h
    cases h
  · rw [if_neg e] at h
    exact ⟨e, h⟩
theorem zoT_s {α : Type} {c : Prop} {_ : Decidable c} {x : Option α} {r : α} (h : (if c then x else none) = some r) : c ∧ x = some r := by
  by_cases e : c
  · rw [if_pos e] at h
    exact ⟨e, h⟩
  · rw [if_neg e] at h
    cases h
section ZMR
variable {p : Program} {l : Launch} {e : Env} {R : Room} {s : State} {m : MethodId} {args : Array Value} {below : List Frame} {meth : Method} {c : Code} {Q : State → Prop}
variable {cc : ByteArray} {nL : Nat} {own : String} {D : va_G} {tA : Nat → ClassId} {b : Nat} {f : zV} {n cells slots pc : Nat} {L : List (Nat × Value)} {st : List Value}
theorem zr_pcn (pc' : Nat) (h : pc = pc') (kk : Z p l e R s m args below meth c D b nL Q f n cells slots pc' L st) : Z p l e R s m args below meth c D b nL Q f n cells slots pc L st := h ▸ kk
theorem zr_tor {o : Option Nat} {x : Nat} (h : o = some x) (kk : Z p l e R s m args below meth c D b nL Q f n cells slots pc L (.ref (b + x) :: st)) : Z p l e R s m args below meth c D b nL Q f n cells slots pc L (zrf b o :: st) := by
  rw [h]
  exact kk
theorem zr_aaldW {sh : zSh} {mm : zMem} {k t len x : Nat} {i : Int32} (F : zF p s m args meth c cc nL own D tA b) (hd : decode cc pc = .ok (.aaload, 1)) (hs : sh k = some (t, len) ∧ 204 ≤ t ∧ t < 210) (hi : vp_in i len) (hx : mm.2.2 k i.toNatClampNeg = some x) (kk : Z p l e R s m args below meth c D b nL Q (zW tA b sh mm) n cells slots (pc + 1) L (.ref (b + x) :: st)) : Z p l e R s m args below meth c D b nL Q (zW tA b sh mm) n cells slots pc L (.int i :: .ref (b + k) :: st) := by
  obtain ⟨hs, h1, h2⟩ := hs
  have hv : va_rf ((mm.2.2 k i.toNatClampNeg).map (fun y => b + y)) = .ref (b + x) := by rw [hx]; rfl
  rcases (show t = 204 ∨ t = 205 ∨ t = 206 ∨ t = 207 ∨ t = 208 ∨ t = 209 by omega) with rfl | rfl | rfl | rfl | rfl | rfl
  · exact zr_aald (v := .ref (b + x)) (g := fun j => (mm.2.2 k j).map (fun y => b + y)) F 4 hd (zW_r4 hs) rfl rfl hi hv kk
  · exact zr_aald (v := .ref (b + x)) (g := fun j => (mm.2.2 k j).map (fun y => b + y)) F 5 hd (zW_r5 hs) rfl rfl hi hv kk
  · exact zr_aald (v := .ref (b + x)) (g := fun j => (mm.2.2 k j).map (fun y => b + y)) F 6 hd (zW_r6 hs) rfl rfl hi hv kk
  · exact zr_aald (v := .ref (b + x)) (g := fun j => (mm.2.2 k j).map (fun y => b + y)) F 7 hd (zW_r7 hs) rfl rfl hi hv kk
  · exact zr_aald (v := .ref (b + x)) (g := fun j => (mm.2.2 k j).map (fun y => b + y)) F 8 hd (zW_r8 hs) rfl rfl hi hv kk
  · exact zr_aald (v := .ref (b + x)) (g := fun j => (mm.2.2 k j).map (fun y => b + y)) F 9 hd (zW_r9 hs) rfl rfl hi hv kk
theorem zr_lenW {sh : zSh} {mm : zMem} {k t len : Nat} (F : zF p s m args meth c cc nL own D tA b) (hd : decode cc pc = .ok (.arraylength, 1)) (hs : sh k = some (t, len) ∧ 100 ≤ t ∧ t < 104) (kk : Z p l e R s m args below meth c D b nL Q (zW tA b sh mm) n cells slots (pc + 1) L (.int (Int32.ofNat len) :: st)) : Z p l e R s m args below meth c D b nL Q (zW tA b sh mm) n cells slots pc L (.ref (b + k) :: st) := by
  obtain ⟨hs, h1, h2⟩ := hs
  rcases (show t = 100 ∨ t = 101 ∨ t = 102 ∨ t = 103 by omega) with rfl | rfl | rfl | rfl
  · exact zr_alen F 0 hd (zW_a0 hs) rfl rfl kk
  · exact zr_alen F 1 hd (zW_a1 hs) rfl rfl kk
  · exact zr_alen F 2 hd (zW_a2 hs) rfl rfl kk
  · exact zr_alen F 3 hd (zW_a3 hs) rfl rfl kk
theorem zr_ton {o : Option Nat} (h : o = none) (kk : Z p l e R s m args below meth c D b nL Q f n cells slots pc L (.null :: st)) : Z p l e R s m args below meth c D b nL Q f n cells slots pc L (zrf b o :: st) := by
  rw [h]
  exact kk
theorem zr_aloadN (F : zF p s m args meth c cc nL own D tA b) {i : Nat} (hd : decode cc pc = .ok (.aload i, 2)) (hl : zl L i = some .null) (kk : Z p l e R s m args below meth c D b nL Q f n cells slots (pc + 2) L (.null :: st)) : Z p l e R s m args below meth c D b nL Q f n cells slots pc L st := fun H locs ls hH hS hL => lv_aloadN F.hx F.hb hd (zl_at hL hl) (kk H locs ls hH hS hL)
theorem zr_aload_nN (F : zF p s m args meth c cc nL own D tA b) {i : Fin 4} (hd : decode cc pc = .ok (.aload_n i, 1)) (hl : zl L (i : Nat) = some .null) (kk : Z p l e R s m args below meth c D b nL Q f n cells slots (pc + 1) L (.null :: st)) : Z p l e R s m args below meth c D b nL Q f n cells slots pc L st := fun H locs ls hH hS hL => lv_aload_nN F.hx F.hb hd rfl (zl_at hL hl) (kk H locs ls hH hS hL)
theorem zr_astoreN (F : zF p s m args meth c cc nL own D tA b) {i : Nat} (hd : decode cc pc = .ok (.astore i, 2)) (hn : i < nL) (kk : Z p l e R s m args below meth c D b nL Q f n cells slots (pc + 2) (zs1 L i .null) st) : Z p l e R s m args below meth c D b nL Q f n cells slots pc L (.null :: st) := fun H locs ls hH hS hL => lv_astoreN (lv' := zs1 L i .null) F.hx F.hb hd hL hn rfl (fun ls' hL' => kk H locs ls' hH hS hL')
theorem zr_astore_nN (F : zF p s m args meth c cc nL own D tA b) {i : Fin 4} (hd : decode cc pc = .ok (.astore_n i, 1)) (hn : (i : Nat) < nL) (kk : Z p l e R s m args below meth c D b nL Q f n cells slots (pc + 1) (zs1 L (i : Nat) .null) st) : Z p l e R s m args below meth c D b nL Q f n cells slots pc L (.null :: st) := fun H locs ls hH hS hL => lv_astore_nN (lv' := zs1 L (i : Nat) .null) F.hx F.hb hd rfl hL hn rfl (fun ls' hL' => kk H locs ls' hH hS hL')
theorem zr_ifnonnullN (F : zF p s m args meth c cc nL own D tA b) {off : Int} (hd : decode cc pc = .ok (.ifnonnull off, 3)) (kk : Z p l e R s m args below meth c D b nL Q f n cells slots (pc + 3) L st) : Z p l e R s m args below meth c D b nL Q f n cells slots pc L (.null :: st) := fun H locs ls hH hS hL => lv_ifnonnullN F.hx F.hb hd (kk H locs ls hH hS hL)
/-- System.arraycopy of ints -/
theorem zr_copy (F : zF p s m args meth c cc nL own D tA b) {index k0 k1 n0 n1 : Nat} {g0 g1 : Nat → Int32} {sp dp z : Int32} (hd : decode cc pc = .ok (.invokestatic index, 3)) (w1 : Cond.methodLink own index arraycopyName ∈ gw) (w2 : Cond.native arraycopyName ∈ gw) (w3 : Cond.static arraycopyName ∈ gw) (w4 : Cond.initialized "java/lang/System" ∈ gw) (h0 : f k0 = some (.inl (tA 0, n0, .inl g0))) (h1 : f k1 = some (.inl (tA 0, n1, .inl g1))) (hsp : ¬ sp < 0) (hdp : ¬ dp < 0) (hz : ¬ z < 0) (h4 : sp.toNatClampNeg + z.toNatClampNeg ≤ n0) (h5 : dp.toNatClampNeg + z.toNatClampNeg ≤ n1) (hfr : 1 ≤ R.frames) (hlo : (st.map fun v => v.category).sum + (nativeFrameWords "java/lang/System" "arraycopy" 5 + 11) ≤ R.locals)
    (kk : Z p l e R s m args below meth c D b nL Q (zu f k1 (.inl (tA 0, n1, .inl (va_cpy g0 g1 sp.toNatClampNeg dp.toNatClampNeg z.toNatClampNeg)))) n cells slots (pc + 3) L st) : Z p l e R s m args below meth c D b nL Q f n cells slots pc L (.int z :: .int dp :: .ref (b + k1) :: .int sp :: .ref (b + k0) :: st) := by
  intro H locs ls hH hS hL T hT X
  have nn : ∀ y : Int32, ¬ y < 0 → y.toInt = (y.toNatClampNeg : Int) := by
    intro y hy
    have hy0 : (0 : Int) ≤ y.toInt := by
      have := Int32.not_lt.mp hy
      simpa using Int32.le_iff_toInt_le.mp this
    show y.toInt = ((y.toInt.toNat : Nat) : Int)
    omega
  have hc0 : H[b + k0]? = some (vp_cell (tA 0) (n0, .inl g0)) := hH.2 k0 _ h0
  have hc1 : H[b + k1]? = some (vp_cell (tA 0) (n1, .inl g1)) := hH.2 k1 _ h1
  obtain ⟨-, q0, hk0, cm0, hkk0⟩ := (F.hK.2 0 _ rfl).1 n0 (fun j => .int (g0 j))
  obtain ⟨-, q1, hk1, cm1, hkk1⟩ := (F.hK.2 0 _ rfl).1 n1 (fun j => .int (g1 j))
  obtain ⟨vm', X', step⟩ := X.arraycopy F.hx F.hown (F.hts _ w1) (F.hts _ w2) (F.hts _ w3) (F.hts _ w4) (src := b + k0) (dst := b + k1) (cs := vp_cell (tA 0) (n0, .inl g0)) (cd := vp_cell (tA 0) (n1, .inl g1)) (srcPos := sp) (destPos := dp) (n := z) (by rw [hT]; exact hc0) (by rw [hT]; exact hc1)
    (fun _ h => by cases h) (fun _ h => by cases h) (fun h => by cases h) (fun h => by cases h) hk0 hk1 hkk0 hkk1 (by simp [refKind]) hsp hdp hz
    (by rw [nn sp hsp, nn z hz]; show ¬ _ > ((arrV (tA 0) n0 (fun j => .int (g0 j))).slots.size : Int); rw [arrV_size]; omega)
    (by rw [nn dp hdp, nn z hz]; show ¬ _ > ((arrV (tA 0) n1 (fun j => .int (g1 j))).slots.size : Int); rw [arrV_size]; omega)
    (fun vm₁ _ i hi => by
      have ee : (vp_cell (tA 0) (n0, .inl g0)).slots.getD (sp.toNatClampNeg + i) .null = .int (g0 (sp.toNatClampNeg + i)) := by
        show (arrV (tA 0) n0 (fun j => .int (g0 j))).slots.getD _ _ = _
        rw [Array.getD_eq_getD_getElem?, arrV_read _ _ (by omega)]
        rfl
      rw [ee]
      exact ⟨rfl, trivial⟩)
    (g := F0 m pc ls (.int z :: .int dp :: .ref (b + k1) :: .int sp :: .ref (b + k0) :: st)) rfl (by rw [F.hml]; exact hL.1) (rest := st) rfl (by rw [F.hb]; exact hd) hfr (by show 2 * 0 + _ + _ ≤ _; omega)
  have e1 : copied (vp_cell (tA 0) (n0, .inl g0)) (vp_cell (tA 0) (n1, .inl g1)) sp dp z = vp_cell (tA 0) (n1, .inl (va_cpy g0 g1 sp.toNatClampNeg dp.toNatClampNeg z.toNatClampNeg)) := va_copied (fun y => .int y) (tA 0) (tA 0) g0 g1 h4
  rw [e1] at X' step
  have hl : b + k1 < H.size := (Array.getElem?_eq_some_iff.mp hc1).1
  have hheap : ((T.setVm vm').setCell (b + k1) (vp_cell (tA 0) (n1, .inl (va_cpy g0 g1 sp.toNatClampNeg dp.toNatClampNeg z.toNatClampNeg)))).heap = H.setIfInBounds (b + k1) (vp_cell (tA 0) (n1, .inl (va_cpy g0 g1 sp.toNatClampNeg dp.toNatClampNeg z.toNatClampNeg))) := by rw [← hT]; rfl
  have oq : ∀ q : Nat, q ≠ b + k1 → (H.setIfInBounds (b + k1) (vp_cell (tA 0) (n1, .inl (va_cpy g0 g1 sp.toNatClampNeg dp.toNatClampNeg z.toNatClampNeg))))[q]? = H[q]? := fun q hq => by simp [Array.getElem?_setIfInBounds, Ne.symm hq]
  obtain ⟨t, a1, b1⟩ := kk _ _ ls (hH.set (by simp) (show (H.setIfInBounds (b + k1) _)[b + k1]? = some _ by simp [Array.getElem?_setIfInBounds, hl]) oq) ⟨by simp; exact hS.1, fun q g1 g2 => by
      rw [oq q (fun ee => g2 (by rw [ee]; exact Nat.le_add_right b k1))]
      exact hS.2.1 q g1 g2, fun q hq => by
      rcases List.mem_append.mp hq with h | h
      · exact hS.2.2 q h
      · obtain ⟨y, -, hy⟩ := List.mem_map.mp h
        rw [← hy]
        exact Nat.le_add_right b k1⟩ hL _ hheap X'
  exact ⟨t, step t a1, b1⟩
end ZMR
/-- a copy of ints in memory -/
def mC (m : zMem) (k0 k1 sp dp z : Nat) : zMem := (fun a => if a = k1 then va_cpy (m.1 k0) (m.1 k1) sp dp z else m.1 a, m.2.1, m.2.2)
theorem mC_n {m : zMem} {k0 k1 sp dp z : Nat} (a : Nat) (h : a ≠ k1) : (mC m k0 k1 sp dp z).1 a = m.1 a ∧ (mC m k0 k1 sp dp z).2.1 a = m.2.1 a ∧ (mC m k0 k1 sp dp z).2.2 a = m.2.2 a := ⟨if_neg h, rfl, rfl⟩
theorem zW_c {tA : Nat → ClassId} {b : Nat} {sh : zSh} {m : zMem} {k0 k1 len sp dp z : Nat} (hs : sh k1 = some (100, len)) : zu (zW tA b sh m) k1 (.inl (tA 0, len, .inl (va_cpy (m.1 k0) (m.1 k1) sp dp z))) = zW tA b sh (mC m k0 k1 sp dp z) := by
  have e : zco tA b (100, len) (mC m k0 k1 sp dp z) k1 = .inl (tA 0, len, .inl (va_cpy (m.1 k0) (m.1 k1) sp dp z)) := by
    show (.inl (tA 0, len, .inl ((mC m k0 k1 sp dp z).1 k1)) : va_E) = _
    rw [show (mC m k0 k1 sp dp z).1 k1 = va_cpy (m.1 k0) (m.1 k1) sp dp z from if_pos rfl]
  rw [← e]
  exact zW_u hs mC_n
/-- what comes when a call throws, what when it returns -/
def zoX {α β : Type} (o : Option α) (A : Option β) (K : α → Option β) : Option β := match o with
  | none => A
  | some x => K x
def zoN {α : Type} (o : Option Nat) (A : Option α) (K : Nat → Option α) : Option α := match o with
  | none => A
  | some x => K x
theorem zoA_s {α : Type} {s : Option (Nat × Nat)} {K : Nat → Nat → Option α} {r : α} (h : zoA s K = some r) : ∃ c len, (s = some (c, len) ∧ 100 ≤ c ∧ c < 104) ∧ K c len = some r := by
  unfold zoA at h
  split at h
  · rename_i c len
    by_cases e : 100 ≤ c ∧ c < 104
    · rw [if_pos e] at h
      exact ⟨c, len, ⟨rfl, e⟩, h⟩
    · rw [if_neg e] at h
      cases h
  · cases h
def zliI (j : Nat) : Int32 := ([8, 16, 16, 48, 32] : List Int32).getD j 0
theorem zx_narZ {v : Int32} (h : vp_nar .boolean v = v) : narrow .boolean (.int v) = .int v := by
  have e : narrow .boolean (.int v) = .int (vp_nar .boolean v) := rfl
  rw [e, h]
theorem zx_narW {v : Int32} (h : v = 0 ∨ v = 1) : narrow .boolean (.int v) = .int v := by
  rcases h with rfl | rfl <;> rfl
theorem zx_fitW {v : Int32} (h : v = 0 ∨ v = 1) : fits .boolean (.int v) = true := by
  rcases h with rfl | rfl <;> rfl
