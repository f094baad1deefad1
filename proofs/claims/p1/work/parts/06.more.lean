/-! more rows: the table LIMITS, new int[N][K], worlds as functions -/
theorem zu_zu (f : zV) (k : Nat) (x y : va_E) : zu (zu f k x) k y = zu f k y := by
  funext a
  simp only [zu]
  split <;> rfl
theorem zu_swap {k j : Nat} (h : k ≠ j) (f : zV) (x y : va_E) : zu (zu f k x) j y = zu (zu f j y) k x := by
  funext a
  simp only [zu]
  by_cases h1 : a = k
  · subst h1
    simp [h]
  · simp [h1]
section ZMU
variable {p : Program} {l : Launch} {e : Env} {R : Room} {s : State} {m : MethodId} {args : Array Value} {below : List Frame} {meth : Method} {c : Code} {T : State} {locs : List Loc} {cells slots : Nat}
/-- what stands while new int[N][K] is made: the outer array, and i rows -/
def zmI (p : Program) (l : Launch) (e : Env) (R : Room) (s : State) (m : MethodId) (args : Array Value) (below : List Frame) (meth : Method) (c : Code) (T : State) (vm : Vm) (g : JFrame) (locs : List Loc) (cells slots : Nat) (cA comp : ClassId) (N K i : Nat) (s' : State) : Prop :=
  ∃ V : State, s' = V.setTop g ∧ Stand p l e R s m args below meth c V (locs ++ (List.range i).map fun j => ⟨T.heap.size, j⟩) (cells + 1 + i) (slots + N + i * K) ∧ V.vm = vm ∧ V.heap.size = T.heap.size + 1 + i ∧ V.heap[T.heap.size]? = some (arrV cA N (fun j => va_rf (if j < i then some (T.heap.size + 1 + j) else none))) ∧ (∀ j, j < i → V.heap[T.heap.size + 1 + j]? = some (arrV comp K (fun _ => .int 0))) ∧ ∀ q, q < T.heap.size → V.heap[q]? = T.heap[q]?
theorem zmI_0 {vm : Vm} {g : JFrame} {cA comp : ClassId} {N K : Nat} (X : Stand p l e R s m args below meth c (T.setVm vm) locs cells slots) : zmI p l e R s m args below meth c T vm g locs cells slots cA comp N K 0 (((T.setVm vm).setTop g).pushCell { cls := cA, slots := Array.replicate N .null, vm := .none }) := by
  refine ⟨(T.setVm vm).pushCell { cls := cA, slots := Array.replicate N .null, vm := .none }, State.pushCell_setTop .., ?_, rfl, ?_, ?_, fun j h => absurd h (Nat.not_lt_zero j), fun q hq => State.heap_pushCell_of_lt _ _ hq⟩
  · have h := X.pushed { cls := cA, slots := Array.replicate N .null, vm := .none }
    simpa using h
  · show ((T.setVm vm).heap.push _).size = _
    rw [Array.size_push]
    rfl
  · have h : ((T.setVm vm).pushCell { cls := cA, slots := Array.replicate N .null, vm := .none }).heap[(T.setVm vm).heap.size]? = some { cls := cA, slots := Array.replicate N .null, vm := .none } := State.heap_pushCell_size _ _
    rw [show T.heap.size = (T.setVm vm).heap.size from rfl, h, arrV_new]
    rfl
theorem zmI_s {vm : Vm} {g : JFrame} {cA comp : ClassId} {N K i : Nat} {V : State} (X : Stand p l e R s m args below meth c V (locs ++ (List.range i).map fun j => ⟨T.heap.size, j⟩) (cells + 1 + i) (slots + N + i * K)) (h1 : V.vm = vm) (h2 : V.heap.size = T.heap.size + 1 + i) (h3 : V.heap[T.heap.size]? = some (arrV cA N (fun j => va_rf (if j < i then some (T.heap.size + 1 + j) else none)))) (h4 : ∀ j, j < i → V.heap[T.heap.size + 1 + j]? = some (arrV comp K (fun _ => .int 0))) (h5 : ∀ q, q < T.heap.size → V.heap[q]? = T.heap[q]?) :
    zmI p l e R s m args below meth c T vm g locs cells slots cA comp N K (i + 1) (((V.setTop g).pushCell { cls := comp, slots := Array.replicate K (.int 0), vm := .none }).setCell T.heap.size ((arrV cA N (fun j => va_rf (if j < i then some (T.heap.size + 1 + j) else none))).setSlot i (.ref V.heap.size))) := by
  have hlt : T.heap.size < V.heap.size := by omega
  have hc : (V.pushCell { cls := comp, slots := Array.replicate K (.int 0), vm := .none }).heap[T.heap.size]? = some (arrV cA N (fun j => va_rf (if j < i then some (T.heap.size + 1 + j) else none))) := by rw [State.heap_pushCell_of_lt (h := hlt)]; exact h3
  have hY := (X.pushed { cls := comp, slots := Array.replicate K (.int 0), vm := .none }).stored hc i (.ref V.heap.size)
  refine ⟨(V.pushCell { cls := comp, slots := Array.replicate K (.int 0), vm := .none }).setCell T.heap.size ((arrV cA N (fun j => va_rf (if j < i then some (T.heap.size + 1 + j) else none))).setSlot i (.ref V.heap.size)), ?_, ?_, h1, ?_, ?_, fun j hj => ?_, fun q hq => ?_⟩
  · rw [State.pushCell_setTop, State.setCell_setTop]
  · have e1 : (({ cls := comp, slots := Array.replicate K (.int 0), vm := .none } : Cell)).slots.size = K := by simp
    rw [e1] at hY
    have e2 : (locs ++ (List.range (i + 1)).map fun j => (⟨T.heap.size, j⟩ : Loc)) = (locs ++ (List.range i).map fun j => (⟨T.heap.size, j⟩ : Loc)) ++ [⟨T.heap.size, i⟩] := by simp [List.range_succ, List.append_assoc]
    have e3 : slots + N + (i + 1) * K = slots + N + i * K + K := by rw [Nat.succ_mul]; omega
    rw [e2, e3]
    exact hY
  · rw [size_setCell]
    show (V.heap.push _).size = _
    rw [Array.size_push, h2]
    omega
  · rw [heapAt_setCell_self _ (by show T.heap.size < (V.heap.push _).size; rw [Array.size_push]; omega), arrV_store]
    congr 2
    funext q
    by_cases hq : q = i
    · subst hq
      simp [updV, va_rf, h2]
    · by_cases h : q < i
      · simp [updV, hq, h, Nat.lt_succ_of_lt h]
      · simp [updV, hq, h, show ¬ q < i + 1 by omega]
  · rw [heapAt_setCell_ne _ (show T.heap.size ≠ T.heap.size + 1 + j by omega)]
    rcases Nat.lt_or_ge j i with h | h
    · rw [State.heap_pushCell_of_lt (h := show T.heap.size + 1 + j < V.heap.size by omega)]
      exact h4 j h
    · have e : j = i := by omega
      subst e
      rw [← h2, State.heap_pushCell_size, arrV_new]
  · rw [heapAt_setCell_ne _ (Nat.ne_of_gt hq), State.heap_pushCell_of_lt (h := show q < V.heap.size by omega)]
    exact h5 q hq
end ZMU
