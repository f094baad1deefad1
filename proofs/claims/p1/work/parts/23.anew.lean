/-! a walk may be told anew from where it stands: nothing written yet, nothing made -/
section ZN
variable {p : Program} {l : Launch} {e : Env} {R : Room} {s : State} {m : MethodId} {args : Array Value} {below : List Frame} {meth : Method} {c : Code} {T : State} {locs : List Loc} {cells slots : Nat}
/-- the invocation's state, with the heap and the tables of now -/
def zS (s T : State) : State := ({ s with heap := T.heap, slotsUsed := T.slotsUsed } : State).setVm T.vm
theorem zS_stand (X : Stand p l e R s m args below meth c T locs cells slots) {k n : Nat} (h1 : cells + k ≤ R.cells) (h2 : slots + n ≤ R.slots) : Stand p l e { R with cells := k, slots := n } (zS s T) m args below meth c T [] 0 0 := by
  have hr := X.room
  have hh := X.heapSize
  have hu := X.used
  have hb := X.book
  simp only [State.hasRoom, Bool.and_eq_true, decide_eq_true_eq] at hr
  obtain ⟨⟨⟨⟨r1, r2⟩, r3⟩, r4⟩, r5⟩ := hr
  refine ⟨X.admits, X.cas, X.clock, X.frames, ?_, ?_, X.method', X.code, X.here, X.tail, State.WarmedH.refl (zS s T), X.limits, X.bytes, ?_⟩
  · have eL : (zS s T).localsInUse = s.localsInUse := by
      have f1 : (zS s T).frames = s.frames := rfl
      unfold State.localsInUse
      rw [f1, X.frames]
      show _ + ((((T.vm.method? m).bind (·.code)).map (·.maxLocals)).getD 0 + 11) = _
      rw [X.warmed.alike.method?]
    simp only [State.hasRoom, Bool.and_eq_true, decide_eq_true_eq]
    rw [eL]
    refine ⟨⟨⟨⟨r1, r2⟩, ?_⟩, ?_⟩, hb⟩
    · show T.heap.size + k ≤ _
      omega
    · show T.slotsUsed + n ≤ _
      omega
  · have h := X.hears
    cases below with
    | nil =>
      simp only [State.hears] at h ⊢
      show (T.vm.method? m).any _ = true
      rw [X.warmed.alike.method?]
      exact h
    | cons b r =>
      cases b with
      | java g =>
        simp only [State.hears] at h ⊢
        have e1 : (zS s T).code? g.method = s.code? g.method := by
          rw [State.code?_eq, State.code?_eq]
          show (T.vm.method? g.method).bind _ = _
          rw [X.warmed.alike.method?]
        rw [e1]
        exact h
      | native g => rfl
      | proc g => rfl
      | _ =>
        simp only [State.hears] at h ⊢
        show (T.vm.method? m).any _ = true
        rw [X.warmed.alike.method?]
        exact h
  · have e1 := X.same.1
    refine ⟨?_, Nat.le_refl _, Nat.le_refl _, ?_, ?_, fun a cl ha => ⟨cl, ha, rfl, rfl, fun _ _ => rfl⟩⟩
    · have e2 : T = (T.setVm s.vm).setVm T.vm := rfl
      show T.setVm T.vm = _
      rw [show T.setVm T.vm = T from rfl]
      conv => lhs; rw [e2, e1]
      rfl
    · show T.slotsUsed = T.slotsUsed + ((T.heap.toList.drop T.heap.size).map (·.slots.size)).sum
      rw [List.drop_eq_nil_of_le (by simp)]
      rfl
    · show ((T.heap.toList.drop T.heap.size).map (·.slots.size)).sum ≤ 0
      rw [List.drop_eq_nil_of_le (by simp)]
      exact Nat.le_refl 0
end ZN
