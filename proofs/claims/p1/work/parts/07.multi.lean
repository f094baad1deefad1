/-! the row of new int[N][K] -/
section ZMV
variable {p : Program} {l : Launch} {e : Env} {R : Room} {s : State} {m : MethodId} {args : Array Value} {below : List Frame} {meth : Method} {c : Code} {T : State} {locs : List Loc} {cells slots : Nat}
/-- the states on the way, with their top frame laid -/
def zm_st (S0 : State) (h0 : Nat) (cA comp : ClassId) (N K : Nat) : Nat → State
  | 0 => S0.pushCell { cls := cA, slots := Array.replicate N .null, vm := .none }
  | i + 1 => ((zm_st S0 h0 cA comp N K i).pushCell { cls := comp, slots := Array.replicate K (.int 0), vm := .none }).setCell h0 ((arrV cA N (fun j => va_rf (if j < i then some (h0 + 1 + j) else none))).setSlot i (.ref (zm_st S0 h0 cA comp N K i).heap.size))
theorem zm_all {vm : Vm} {g : JFrame} {cA comp : ClassId} {N K : Nat} (X : Stand p l e R s m args below meth c (T.setVm vm) locs cells slots) : ∀ i, zmI p l e R s m args below meth c T vm g locs cells slots cA comp N K i (zm_st ((T.setVm vm).setTop g) T.heap.size cA comp N K i)
  | 0 => zmI_0 X
  | i + 1 => by
    obtain ⟨V, hV, XV, h1, h2, h3, h4, h5⟩ := zm_all (g := g) (cA := cA) (comp := comp) (N := N) (K := K) X i
    have h := zmI_s (g := g) XV h1 h2 h3 h4 h5
    have e : zm_st ((T.setVm vm).setTop g) T.heap.size cA comp N K (i + 1) = (((V.setTop g).pushCell { cls := comp, slots := Array.replicate K (.int 0), vm := .none }).setCell T.heap.size ((arrV cA N (fun j => va_rf (if j < i then some (T.heap.size + 1 + j) else none))).setSlot i (.ref V.heap.size))) := by
      rw [zm_st, hV, State.heap_setTop]
    rw [e]
    exact h
theorem zm_stand (X : Stand p l e R s m args below meth c T locs cells slots) (hexec : p.tables.exec = Jvm.exec) {own : String} {index : Nat} (hown : s.vm.findClass own = some m.cls) (hclink : (Cond.classLink own index "[[I").before args s = true) (hAA : zAA s)
    {g : JFrame} (hg : g.method = m) (hdg : decode c.code g.pc = .ok (.multianewarray index 2, 4)) {i k : Int32} {rest : List Value} (hstack : g.stack = .int k :: .int i :: rest) (hi : ¬ i < 0) (hk : ¬ k < 0) {N K : Nat} (hN : i.toNatClampNeg = N) (hK : k.toNatClampNeg = K) (hb1 : N * 4 ≤ 536870912) (hb2 : K * 4 ≤ 536870912)
    (hcells : cells + (1 + N) ≤ R.cells) (hslots : slots + (N + N * K) ≤ R.slots) :
    ∃ (cA comp : ClassId) (V : State), s.vm.findClass "[[I" = some cA ∧ s.vm.findClass "[I" = some comp ∧ Stand p l e R s m args below meth c V (locs ++ (List.range N).map fun j => ⟨T.heap.size, j⟩) (cells + 1 + N) (slots + N + N * K) ∧ V.heap.size = T.heap.size + 1 + N ∧ V.heap[T.heap.size]? = some (arrV cA N (fun j => va_rf (if j < N then some (T.heap.size + 1 + j) else none))) ∧ (∀ j, j < N → V.heap[T.heap.size + 1 + j]? = some (arrV comp K (fun _ => .int 0))) ∧ (∀ q, q < T.heap.size → V.heap[q]? = T.heap[q]?) ∧
      ∀ target, Steps p.tables e below (V.setTop { g with pc := g.pc + 4, stack := .ref T.heap.size :: rest }) target → Steps p.tables e below (T.setTop g) target := by
  subst hg
  have hpl : e.platform.magicAccessors = ({} : Platform).magicAccessors := by rw [X.admits.platform]
  obtain ⟨comp, cA, cc, kA, kC, f1, f2, f3, f4, f5, f6⟩ := hAA
  obtain ⟨c0, hfc0, hcl⟩ := Cond.classLink_spec hown hclink e.platform hpl
  cases f2.symm.trans hfc0
  obtain ⟨hg₁, hwarm₁, hready₁⟩ := State.classEntry (e := e) X.warmed hcl
  generalize T.vm.noted g.method.cls index (.cls cA) = vm₁ at hg₁ hwarm₁ hready₁
  have hal : s.vm.Alike vm₁ := hwarm₁.alike
  obtain ⟨kA₁, hkA₁, heA⟩ := hal.2.2 _ _ f3
  obtain ⟨kC₁, hkC₁, heC⟩ := hal.2.2 _ _ f5
  have hkindA₁ : kA₁.kind = .array comp (.array .int) := by rw [heA]; exact f4
  have hkindC₁ : kC₁.kind = .array cc .int := by rw [heC]; exact f6
  have X₁ := X.noted hwarm₁
  have key : ∀ (Q : Addr → Pre) (E : CtlPost) (d : Bool) (acts : List Action), (∀ d' acts', Q T.heap.size d' acts' (zm_st ((T.setVm vm₁).setTop { g with stack := rest }) T.heap.size cA comp N K N)) → wp (multianewarray.make cA [i, k]) Q E e d acts (((T.setVm vm₁).setTop { g with stack := rest })) := by
    intro Q E d acts hQ
    have hlA : ¬ N > e.platform.arrayLengthLimit := by rw [Launch.admits_arrayLengthLimit X.admits]; omega
    have hhA : ¬ N * componentBytes (.array .int) > e.platform.maxHeapBytes := by rw [Launch.admits_maxHeapBytes X.admits]; show ¬ N * 4 > 536870912; omega
    have hlC : ¬ K > e.platform.arrayLengthLimit := by rw [Launch.admits_arrayLengthLimit X.admits]; omega
    have hhC : ¬ K * componentBytes .int > e.platform.maxHeapBytes := by rw [Launch.admits_maxHeapBytes X.admits]; show ¬ K * 4 > 536870912; omega
    obtain ⟨r1, r2⟩ := X.roomAbove hcells hslots
    have hfind : ([k].find? (· < 0)) = none := by simp [hk]
    rw [multianewarray.make]
    simp only [wp_bind', W.ite, hi, if_false, wp_pure', W.theClass, hkA₁, hkindA₁, Option.some.injEq, exists_eq_left', State.vm_setTop, State.vm_setVm, hN]
    refine W.newArray_of (k := kA₁) (comp := comp) (type := .array .int) hkA₁ hkindA₁ hlA hhA (by show T.heap.size < _; omega) (by show T.slotsUsed + N ≤ _; have := Nat.zero_le (N * K); omega) rfl (fun acts0 => ?_)
    simp only [hfind]
    rw [ite_self, wp_bind', Std.Legacy.Range.forIn_eq_forIn_range']
    have hsz : ([:N] : Std.Legacy.Range).size = N := by simp [Std.Legacy.Range.size]
    rw [hsz]
    show wp (forIn (List.range' 0 N 1) PUnit.unit _) _ E e d acts0 _
    refine wp_forIn_inv (fun rs s' => ∃ j, j ≤ N ∧ rs = List.range' j (N - j) ∧ s' = zm_st ((T.setVm vm₁).setTop { g with stack := rest }) T.heap.size cA comp N K j) _ _ ⟨0, Nat.zero_le _, rfl, rfl⟩ ?_ ?_
    · rintro x rs s' d' acts' Q' ⟨j, hj, hl, rfl⟩ hnext
      have hlt : j < N := by
        rcases Nat.lt_or_ge j N with h | h
        · exact h
        · rw [show N - j = 0 from by omega] at hl; simp at hl
      obtain ⟨rfl, hrest⟩ : x = j ∧ rs = List.range' (j + 1) (N - (j + 1)) := by
        rw [show N - j = (N - (j + 1)) + 1 from by omega, List.range'_succ] at hl
        exact ⟨(List.cons.inj hl).1, (List.cons.inj hl).2⟩
      obtain ⟨V, hV, XV, h1, h2, h3, h4, h5⟩ := zm_all (g := { g with stack := rest }) (cA := cA) (comp := comp) (N := N) (K := K) X₁ x
      have hmul : x * K + K ≤ N * K := by
        have := Nat.mul_le_mul_right K (show x + 1 ≤ N from hlt)
        rw [Nat.succ_mul] at this; exact this
      have hend : ∀ d'' acts'', Q' (ForInStep.yield PUnit.unit) d'' acts'' (((V.setTop { g with stack := rest }).pushCell { cls := comp, slots := Array.replicate K (.int 0), vm := .none }).setCell T.heap.size ((arrV cA N (fun j => va_rf (if j < x then some (T.heap.size + 1 + j) else none))).setSlot x (.ref V.heap.size))) := fun d'' acts'' => hnext _ _ _ ⟨x + 1, hlt, hrest, by rw [zm_st, hV, State.heap_setTop]⟩
      rw [hV]
      obtain ⟨q1, q2⟩ := XV.roomAbove (a := 1) (b := K) (by omega) (by omega)
      simp only [wp_bind']
      rw [multianewarray.make]
      simp only [wp_bind', W.ite, hk, if_false, wp_pure', W.theClass, State.vm_setTop, h1, hkC₁, hkindC₁, Option.some.injEq, exists_eq_left', hK]
      refine W.newArray_of (k := kC₁) (comp := cc) (type := .int) (by show V.vm.classes[comp]? = _; rw [h1]; exact hkC₁) hkindC₁ hlC hhC (by show V.heap.size < _; omega) (by show V.slotsUsed + K ≤ _; omega) rfl (fun acts1 => ?_)
      simp only [wp_bind', W.writeLoc, wp_pure']
      have hlt0 : T.heap.size < V.heap.size := by omega
      refine ⟨arrV cA N (fun j => va_rf (if j < x then some (T.heap.size + 1 + j) else none)), ?_, (fun h => by cases h), (by show x < (arrV _ _ _).slots.size; rw [arrV_size]; exact hlt), ?_, hend _ _⟩
      · show ((V.setTop _).pushCell _).heap[T.heap.size]? = _
        rw [State.pushCell_setTop, State.heap_setTop, State.heap_pushCell_of_lt (h := hlt0)]
        exact h3
      · show State.fitsSlot _ cA .none x (.ref _) = true
        have hv : (((V.setTop { g with stack := rest }).pushCell { cls := comp, slots := Array.replicate K (defaultValue FieldType.int) })).vm = vm₁ := h1
        simp [State.fitsSlot, State.slotType?, h1, hkA₁, hkindA₁, fits]
    · rintro s' d' acts' ⟨j, hj, hl, rfl⟩
      have hjN : j = N := by
        rcases Nat.lt_or_ge j N with h | h
        · rw [show N - j = (N - (j + 1)) + 1 from by omega, List.range'_succ] at hl; cases hl
        · omega
      subst hjN
      simp only [wp_pure']
      exact hQ _ _
  obtain ⟨V, hV, XV, h1, h2, h3, h4, h5⟩ := zm_all (g := { g with stack := rest }) (cA := cA) (comp := comp) (N := N) (K := K) X₁ N
  refine ⟨cA, comp, V, f2, f1, XV, h2, h3, h4, h5, fun target hrest => ?_⟩
  jvm_step X.here [hexec, hdg]
  simp only [multianewarray.sem, wp_bind', W.resolveClassAt_links (State.method?_setTop g X.here.top) hg₁]
  rw [W.popN, if_neg (by decide)]
  refine ⟨g, State.topJava?_setTop' (s := T.setVm vm₁) g X.here.top, [.int i, .int k], rest, rfl, hstack, ?_⟩
  simp only [List.mapM_cons, List.mapM_nil, wp_bind', wp_pure']
  have eS : ((T.setTop g).setVm vm₁).setTop { g with stack := rest } = (T.setVm vm₁).setTop { g with stack := rest } := by
    show ((T.setVm vm₁).setTop g).setTop _ = _
    rw [State.setTop_setTop]
  rw [eS]
  refine key _ _ _ _ (fun d' acts' => ?_)
  rw [hV]
  simp only [wp_bind', W.mark, W.pushRef, State.topJava?_setTop' _ XV.here.top, Option.some.injEq, exists_eq_left', State.setTop_setTop, State.heap_setTop]
  intro acts
  simp [jvm, XV.here.top]
  exact hrest
end ZMV
section ZMW
variable {p : Program} {l : Launch} {e : Env} {R : Room} {s : State} {m : MethodId} {args : Array Value} {below : List Frame} {meth : Method} {c : Code} {Q : State → Prop}
variable {cc : ByteArray} {nL : Nat} {own : String} {D : va_G} {tA : Nat → ClassId} {b : Nat} {f : zV} {n cells slots pc : Nat} {L : List (Nat × Value)} {st : List Value}
/-- new int[N][K]: the outer array at n, its rows behind it -/
def zmw (tA : Nat → ClassId) (b : Nat) (f : zV) (n N K : Nat) : zV := fun a => if a = n then some (.inl (tA 9, N, .inr (.inr (.inr (.inr (fun j => if j < N then some (b + (n + 1 + j)) else none)))))) else if n < a ∧ a < n + 1 + N then some (.inl (tA 0, K, .inl (fun _ => 0))) else f a
theorem zr_multi (F : zF p s m args meth c cc nL own D tA b) {index N K : Nat} {i k : Int32} (hd : decode cc pc = .ok (.multianewarray index 2, 4)) (h1 : Cond.classLink own index "[[I" ∈ gw) (hi : ¬ i < 0) (hN : i.toNatClampNeg = N) (hk : ¬ k < 0) (hK : k.toNatClampNeg = K) (hb1 : N * 4 ≤ 536870912) (hb2 : K * 4 ≤ 536870912) (hcells : cells + (1 + N) ≤ R.cells) (hslots : slots + (N + N * K) ≤ R.slots) (kk : Z p l e R s m args below meth c D b nL Q (zmw tA b f n N K) (n + 1 + N) (cells + 1 + N) (slots + N + N * K) (pc + 4) L (.ref (b + n) :: st)) : Z p l e R s m args below meth c D b nL Q f n cells slots pc L (.int k :: .int i :: st) := by
  intro H locs ls hH hS hL T hT X
  obtain ⟨cA, comp, V, e1, e2, XV, h2, h3, h4, h5, go⟩ := zm_stand X F.hx F.hown (F.hts _ h1) F.hG.2.2.1 (g := F0 m pc ls (.int k :: .int i :: st)) rfl (by rw [F.hb]; exact hd) rfl hi hk hN hK hb1 hb2 hcells hslots
  have hsz : T.heap.size = b + n := by rw [hT]; exact hH.1
  have hA : cA = tA 9 := Option.some.inj (e1.symm.trans (F.hK.2 9 _ rfl).2)
  have hC : comp = tA 0 := Option.some.inj (e2.symm.trans (F.hK.2 0 _ rfl).2)
  subst hA
  subst hC
  rw [hsz] at h2 h3 h4 h5 go XV
  have hW : zH D b (zmw tA b f n N K) (n + 1 + N) V.heap := by
    refine ⟨by rw [h2]; omega, fun q x hq => ?_⟩
    unfold zmw at hq
    by_cases g1 : q = n
    · rw [if_pos g1] at hq
      cases hq
      subst g1
      show V.heap[b + q]? = some (vp_cell _ _)
      rw [h3, vp_cell_q]
      congr 2
      funext j
      rw [show b + q + 1 + j = b + (q + 1 + j) by omega]
    · rw [if_neg g1] at hq
      by_cases g2 : n < q ∧ q < n + 1 + N
      · rw [if_pos g2] at hq
        cases hq
        have h := h4 (q - n - 1) (by omega)
        rw [show b + n + 1 + (q - n - 1) = b + q by omega] at h
        exact h
      · rw [if_neg g2] at hq
        have hlt := hH.lt hq
        exact (hH.2 q x hq).kept (by show V.heap[b + q]? = H[b + q]?; rw [h5 (b + q) (by omega), hT])
  obtain ⟨t, a1, b1⟩ := kk V.heap _ ls hW ⟨by rw [h2, ← hsz, hT]; have := hS.1; omega, fun q g1 g2 => by rw [h5 q (by rw [← hsz, hT]; exact Nat.lt_of_lt_of_le g1 hS.1), hT]; exact hS.2.1 q g1 g2, fun q hq => by
    rcases List.mem_append.mp hq with h | h
    · exact hS.2.2 q h
    · obtain ⟨j, -, rfl⟩ := List.mem_map.mp h
      exact Nat.le_add_right b n⟩ hL V rfl XV
  exact ⟨t, go t a1, b1⟩
/-- the table LIMITS -/
theorem zr_gl (F : zF p s m args meth c cc nL own D tA b) {index : Nat} {host : String} (hd : decode cc pc = .ok (.getstatic index, 3)) (hw : Cond.fieldLinkNest own index "OrreryBox" "LIMITS" "[I" host ∈ gn) (kk : ∀ t : Nat, va_T .int t 5 zlim (fun q => b ≤ q) s s.heap → Z p l e R s m args below meth c D b nL Q f n cells slots (pc + 3) L (.ref t :: st)) : Z p l e R s m args below meth c D b nL Q f n cells slots pc L st := fun H locs ls hH hS hL => by
  obtain ⟨-, -, -, ⟨t, h4, h5⟩, -, -⟩ := F.hG
  exact va_getsN F.hx F.hb h4 hS F.hown (va_Nw.use rfl (F.hG.1 _ hw)) (fun x h => h) hd (kk t h5 H locs ls hH hS hL)
theorem zr_ti (F : zF p s m args meth c cc nL own D tA b) {t : Nat} {i : Int32} {v : Value} (hd : decode cc pc = .ok (.iaload, 1)) (hT : va_T .int t 5 zlim (fun q => b ≤ q) s s.heap) (hin : vp_in i 5) (hv : zlim i.toNatClampNeg = v) (kk : Z p l e R s m args below meth c D b nL Q f n cells slots (pc + 1) L (v :: st)) : Z p l e R s m args below meth c D b nL Q f n cells slots pc L (.int i :: .ref t :: st) := fun H locs ls hH hS hL => va_ti F.hx F.hb hT hS hin hv hd (kk H locs ls hH hS hL)
end ZMW
