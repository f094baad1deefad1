/-! calls of methods that throw -/
section ZTC
variable {p : Program} {l : Launch} {e : Env} {R : Room} {s : State} {m : MethodId} {args : Array Value} {below : List Frame} {meth : Method} {c : Code}
variable {cc : ByteArray} {nL : Nat} {own : String} {D : va_G} {tA : Nat → ClassId} {b : Nat} {f : zV} {n cells slots pc : Nat} {L : List (Nat × Value)} {st : List Value}
/-- a call whose method throws, behind the instruction's own step -/
theorem zT_at {maxL d lo mc ms : Nat} {y : MethodName} {bytes : ByteArray} {ret : Option FieldType} {av rest : List Value} {cls : String} {f1 : zV} {n1 : Nat} {U : State} {H : Heap} {locs : List Loc} {ls : Array Slot} {ig : Instr} {mk : MethodId}
    (F : zF p s m args meth c cc nL own D tA b) (hM : zMT l D tA b y bytes maxL ret d lo mc ms av f n cls f1 n1) (hH : zH D b f n H) (hS : va_S (fun q => b ≤ q) s.heap H locs) (hL : lv_has ls nL L) (hU : U.heap = H) (X : Stand p l e R s m args below meth c U locs cells slots) (hn : s.methodNamed? y = some mk) (hcode : Cond.code y bytes maxL ret ∈ gw) (hini : Cond.initialized y.cls ∈ gw) (hd : decode cc pc = .ok (ig, 3)) (hroom : d + 1 ≤ R.frames ∧ 8 + (maxL + 11) + lo ≤ R.locals) (hrest : (rest.map fun v => v.category).sum ≤ 8) (hcs : cells + mc ≤ R.cells ∧ slots + ms ≤ R.slots) :
    ∃ (x : Addr) (T' : State) (Lx : List Loc) (cell : Cell), Stand p l e R s m args below meth c T' (locs ++ Lx) (cells + mc) (slots + ms) ∧ zH D b f1 n1 T'.heap ∧ va_S (fun q => b ≤ q) s.heap T'.heap (locs ++ Lx) ∧ T'.heap[x]? = some cell ∧ (∀ k, cell.vm ≠ .statics k) ∧ s.vm.findClass cls = some cell.cls ∧
      Steps p.tables e below (doInvoke e (U.setTop (F0 m pc ls rest)) [] mk av.toArray).1 ((T'.setTop (F0 m pc ls rest)).pushFrame (.throwing x)) := by
  have hW := X.warmed
  have hts : ∀ w ∈ gw, ∀ a' : Array Value, w.before a' U = true := fun w hw a' => word_at hW (gw_good w hw) (F.hts w hw)
  have hP : zP D tA b av f n av.toArray U := zP_pre F hH hS av U hU hW
  have hcs1 : cells + mc ≤ R.cells := hcs.1
  have hcs2 : slots + ms ≤ R.slots := hcs.2
  obtain ⟨x, t, Lx, k', n', ⟨hE1, hE2, hE3, rfl, rfl, cell, hE4, hE5, hE6⟩, hWt, X', hsteps⟩ := zT_back (W := 8) (bytes := bytes) (maxL := maxL) (ret := ret) (E := fun x t Lx k' n' => zH D b f1 n1 t.heap ∧ va_F (fun q => b ≤ q) U t ∧ (∀ q ∈ Lx, b ≤ q.base) ∧ k' = mc ∧ n' = ms ∧ ∃ cell : Cell, t.heap[x]? = some cell ∧ (∀ k, cell.vm ≠ .statics k) ∧ U.vm.findClass cls = some cell.cls) hM hroom.1 hroom.2 X (g := F0 m pc ls rest) (ig := ig) (len := 3) (a := av.toArray) rfl (by rw [F.hml]; exact hL.1) (by rw [F.hb]; exact hd) (lv_room hrest) (X.named hn)
    (atoms_intro fun w hw => by
      rcases List.mem_cons.mp hw with rfl | hw
      · exact hts _ hcode _
      · exact hts _ hw _) (hts _ hcode _) (hts _ hini _) hcs1 hcs2 (zP_blind _ _ _ _ hP) trivial
    (fun o t h => by
      obtain ⟨x, Lx, cell, h0, h1, h2, h3, h4, h5, h6, h7, h8⟩ := h
      exact ⟨x, Lx, mc, ms, h0, h3, h4, h1, h2, h5, rfl, rfl, cell, h6, h7, h8⟩)
  refine ⟨x, _, Lx, cell, X', hE1, ⟨?_, fun q h1 h2 => ?_, fun q hq => ?_⟩, hE4, hE5, ?_, hsteps⟩
  · exact Nat.le_trans hS.1 (by rw [← hU]; exact hE2.1)
  · show t.heap[q]? = _
    rw [hE2.2 q (by rw [hU]; exact Nat.lt_of_lt_of_le h1 hS.1) h2, hU]
    exact hS.2.1 q h1 h2
  · rcases List.mem_append.mp hq with h | h
    · exact hS.2.2 q h
    · exact hE3 q h
  · rw [← hW.alike.findClass]
    exact hE6
/-- the note lies over a frame without handlers: the method throws too -/
theorem zT_out {cls : String} {f1 : zV} {n1 mc ms : Nat} {T' : State} {locs : List Loc} {ls : Array Slot} {x : Addr} {cell : Cell} {rest : List Value} (F : zF p s m args meth c cc nL own D tA b) (hno : c.exceptionTable.toList = []) (X : Stand p l e R s m args below meth c T' locs cells slots) (hH : zH D b f1 n1 T'.heap) (hS : va_S (fun q => b ≤ q) s.heap T'.heap locs) (hx : T'.heap[x]? = some cell) (hv : ∀ k, cell.vm ≠ .statics k) (hcl : s.vm.findClass cls = some cell.cls) (h1 : cells ≤ mc) (h2 : slots ≤ ms) :
    ∃ t, Steps p.tables e below ((T'.setTop (F0 m pc ls rest)).pushFrame (.throwing x)) t ∧ zTQ below D b cls f1 n1 args s mc ms t := by
  obtain ⟨s1, s2, s3, s4, s5⟩ := X.leaveThrown x (g := F0 m pc ls rest) rfl rfl rfl (fun z hz => by rw [hno] at hz; cases hz) F.hlk
  exact ⟨_, s1, _, s2, s3, x, locs, cell, rfl, hH, ⟨hS.1, hS.2.1⟩, s4, s5.mono h1 h2, hS.2.2, hx, hv, hcl⟩
variable {index maxL d lo mc ms k na : Nat} {y : MethodName} {bytes : ByteArray} {ret : Option FieldType} {As rest : List Value} {cls : String} {f1 : zV} {n1 : Nat}
/-- the instruction's own step of a virtual call -/
theorem zT_V {ci : Nat} {fs : List Value} {C : String} {T : u_T} {N : Nat} (F : zF p s m args meth c cc nL own D tA b) (hd : decode cc pc = .ok (.invokevirtual index, 3)) (hf : f k = some (.inr (ci, fs))) (hc : classes[ci]? = some (C, T, N)) (hw : zwV own index C y bytes maxL ret) (hyc : y.cls = C) (hy : y.cls ≠ "java/lang/invoke/MethodHandle" ∧ y.cls ≠ "java/lang/invoke/VarHandle" ∧ (parseMethodDescriptor y.desc).map (fun d => d.parameters.length) = some na) (hna : As.length = na) (hst : st = As.reverse ++ .ref (b + k) :: rest) {H : Heap} {locs : List Loc} {ls : Array Slot} (hH : zH D b f n H) {T0 : State} (hT : T0.heap = H) (X : Stand p l e R s m args below meth c T0 locs cells slots) :
    ∃ (mk : MethodId) (vm₁ : Vm), s.methodNamed? y = some mk ∧ Stand p l e R s m args below meth c (T0.setVm vm₁) locs cells slots ∧ ∀ target, Steps p.tables e below (doInvoke e ((T0.setVm vm₁).setTop (F0 m pc ls rest)) [] mk (Value.ref (b + k) :: As).toArray).1 target → Steps p.tables e below (T0.setTop (F0 m pc ls st)) target := by
  obtain ⟨w1, w2, w3, w4, w5⟩ := hw
  obtain ⟨mk, methM, hnamed, hmethM, hstM, habM⟩ := Cond.instanceMethod_spec (F.hts _ w2)
  obtain ⟨methM', cM, hmethM', -, -, -, -, -, -, hsigM⟩ := Cond.code_spec hnamed (F.hts _ w5)
  cases hmethM.symm.trans hmethM'
  obtain ⟨c2, r2, m2, q1, q2, q3, q4, kP, hkP, hkPi⟩ := Cond.selects_spec (F.hts _ w3)
  obtain ⟨cellB, hcB, hoB, hclB⟩ := va_recv (cl := classes) (ci := ci) (q0 := 0) F.hK (hH.one hf) hc rfl
  cases hclB.symm.trans q1
  cases (State.methodFound?_of_named hnamed ⟨hy.1, hy.2.1⟩).symm.trans q2
  cases hnamed.symm.trans q3
  have hselP : selectMethod e.platform s.vm cellB.cls mk = .method mk := by rw [Launch.admits_selectMethod X.admits]; exact q4
  have hlen : As.length = methM.sig.parameters.length := by
    have h := hy.2.2
    rw [hsigM] at h
    exact hna.trans (Option.some.inj h).symm
  obtain ⟨vm₁, X₁, hstep₁⟩ := X.invokevirtual F.hx F.hown (F.hts _ w1) hnamed hmethM hstM hkP hkPi ⟨hy.1, hy.2.1⟩ (a := b + k) (cell := cellB) (by rw [hT]; exact hcB)
    (fun z h => by rw [h] at hoB; cases hoB) hselP hmethM habM hkP hkPi (g := F0 m pc ls st) rfl (argsL := As) (rest := rest) hlen hst (by rw [F.hb]; exact hd)
  exact ⟨mk, vm₁, hnamed, X₁, fun target h => hstep₁ _ fun acts => by rw [doInvoke_state]; exact h⟩
theorem zr_thrV {mc0 ms0 : Nat} {ci : Nat} {fs : List Value} {C : String} {T : u_T} {N : Nat} (F : zF p s m args meth c cc nL own D tA b) (hno : c.exceptionTable.toList = []) (hM : zMT l D tA b y bytes maxL ret d lo mc ms (.ref (b + k) :: As) f n cls f1 n1) (hd : decode cc pc = .ok (.invokevirtual index, 3)) (hf : f k = some (.inr (ci, fs))) (hc : classes[ci]? = some (C, T, N)) (hw : zwV own index C y bytes maxL ret) (hyc : y.cls = C) (hy : y.cls ≠ "java/lang/invoke/MethodHandle" ∧ y.cls ≠ "java/lang/invoke/VarHandle" ∧ (parseMethodDescriptor y.desc).map (fun d => d.parameters.length) = some na) (hna : As.length = na) (hst : st = As.reverse ++ .ref (b + k) :: rest) (hroom : d + 1 ≤ R.frames ∧ 8 + (maxL + 11) + lo ≤ R.locals) (hrest : (rest.map fun v => v.category).sum ≤ 8) (hcs : cells + mc ≤ R.cells ∧ slots + ms ≤ R.slots) (hm : cells + mc ≤ mc0 ∧ slots + ms ≤ ms0) : Z p l e R s m args below meth c D b nL (zTQ below D b cls f1 n1 args s mc0 ms0) f n cells slots pc L st := by
  intro H locs ls hH hS hL T0 hT X
  obtain ⟨mk, vm₁, hn, X₁, hstep⟩ := zT_V (ls := ls) F hd hf hc hw hyc hy hna hst hH hT X
  obtain ⟨x, T', Lx, cell, X', a1, a2, a3, a4, a5, hsteps⟩ := zT_at (rest := rest) F hM hH hS hL (U := T0.setVm vm₁) hT X₁ hn hw.2.2.2.2 (by rw [hyc]; exact hw.2.2.2.1) hd hroom hrest hcs
  obtain ⟨t, t1, t2⟩ := zT_out (pc := pc) (ls := ls) (rest := rest) F hno X' a1 a2 a3 a4 a5 hm.1 hm.2
  exact ⟨t, hstep _ (hsteps.trans t1), t2⟩
/-- the instruction's own step of a virtual call -/
theorem zT_VN {host : String} {ci : Nat} {fs : List Value} {C : String} {T : u_T} {N : Nat} (F : zF p s m args meth c cc nL own D tA b) (hd : decode cc pc = .ok (.invokevirtual index, 3)) (hf : f k = some (.inr (ci, fs))) (hc : classes[ci]? = some (C, T, N)) (hw : zwVN own index C y host bytes maxL ret) (hyc : y.cls = C) (hy : y.cls ≠ "java/lang/invoke/MethodHandle" ∧ y.cls ≠ "java/lang/invoke/VarHandle" ∧ (parseMethodDescriptor y.desc).map (fun d => d.parameters.length) = some na) (hna : As.length = na) (hst : st = As.reverse ++ .ref (b + k) :: rest) {H : Heap} {locs : List Loc} {ls : Array Slot} (hH : zH D b f n H) {T0 : State} (hT : T0.heap = H) (X : Stand p l e R s m args below meth c T0 locs cells slots) :
    ∃ (mk : MethodId) (vm₁ : Vm), s.methodNamed? y = some mk ∧ Stand p l e R s m args below meth c (T0.setVm vm₁) locs cells slots ∧ ∀ target, Steps p.tables e below (doInvoke e ((T0.setVm vm₁).setTop (F0 m pc ls rest)) [] mk (Value.ref (b + k) :: As).toArray).1 target → Steps p.tables e below (T0.setTop (F0 m pc ls st)) target := by
  obtain ⟨w1, w2, w3, w4, w5⟩ := hw
  obtain ⟨mk, methM, hnamed, hmethM, hstM, habM⟩ := Cond.instanceMethod_spec (F.hts _ w2)
  obtain ⟨methM', cM, hmethM', -, -, -, -, -, -, hsigM⟩ := Cond.code_spec hnamed (F.hts _ w5)
  cases hmethM.symm.trans hmethM'
  obtain ⟨c2, r2, m2, q1, q2, q3, q4, kP, hkP, hkPi⟩ := Cond.selects_spec (F.hts _ w3)
  obtain ⟨cellB, hcB, hoB, hclB⟩ := va_recv (cl := classes) (ci := ci) (q0 := 0) F.hK (hH.one hf) hc rfl
  cases hclB.symm.trans q1
  cases (State.methodFound?_of_named hnamed ⟨hy.1, hy.2.1⟩).symm.trans q2
  cases hnamed.symm.trans q3
  have hselP : selectMethod e.platform s.vm cellB.cls mk = .method mk := by rw [Launch.admits_selectMethod X.admits]; exact q4
  have hlen : As.length = methM.sig.parameters.length := by
    have h := hy.2.2
    rw [hsigM] at h
    exact hna.trans (Option.some.inj h).symm
  obtain ⟨vm₁, X₁, hstep₁⟩ := X.invokevirtualNest F.hx F.hown (va_Nw.use rfl (F.hG.1 _ w1)) hnamed hmethM hstM hkP hkPi ⟨hy.1, hy.2.1⟩ (a := b + k) (cell := cellB) (by rw [hT]; exact hcB)
    (fun z h => by rw [h] at hoB; cases hoB) hselP hmethM habM hkP hkPi (g := F0 m pc ls st) rfl (argsL := As) (rest := rest) hlen hst (by rw [F.hb]; exact hd)
  exact ⟨mk, vm₁, hnamed, X₁, fun target h => hstep₁ _ fun acts => by rw [doInvoke_state]; exact h⟩
theorem zr_thrVN {mc0 ms0 : Nat} {host : String} {ci : Nat} {fs : List Value} {C : String} {T : u_T} {N : Nat} (F : zF p s m args meth c cc nL own D tA b) (hno : c.exceptionTable.toList = []) (hM : zMT l D tA b y bytes maxL ret d lo mc ms (.ref (b + k) :: As) f n cls f1 n1) (hd : decode cc pc = .ok (.invokevirtual index, 3)) (hf : f k = some (.inr (ci, fs))) (hc : classes[ci]? = some (C, T, N)) (hw : zwVN own index C y host bytes maxL ret) (hyc : y.cls = C) (hy : y.cls ≠ "java/lang/invoke/MethodHandle" ∧ y.cls ≠ "java/lang/invoke/VarHandle" ∧ (parseMethodDescriptor y.desc).map (fun d => d.parameters.length) = some na) (hna : As.length = na) (hst : st = As.reverse ++ .ref (b + k) :: rest) (hroom : d + 1 ≤ R.frames ∧ 8 + (maxL + 11) + lo ≤ R.locals) (hrest : (rest.map fun v => v.category).sum ≤ 8) (hcs : cells + mc ≤ R.cells ∧ slots + ms ≤ R.slots) (hm : cells + mc ≤ mc0 ∧ slots + ms ≤ ms0) : Z p l e R s m args below meth c D b nL (zTQ below D b cls f1 n1 args s mc0 ms0) f n cells slots pc L st := by
  intro H locs ls hH hS hL T0 hT X
  obtain ⟨mk, vm₁, hn, X₁, hstep⟩ := zT_VN (ls := ls) F hd hf hc hw hyc hy hna hst hH hT X
  obtain ⟨x, T', Lx, cell, X', a1, a2, a3, a4, a5, hsteps⟩ := zT_at (rest := rest) F hM hH hS hL (U := T0.setVm vm₁) hT X₁ hn hw.2.2.2.2 (by rw [hyc]; exact hw.2.2.2.1) hd hroom hrest hcs
  obtain ⟨t, t1, t2⟩ := zT_out (pc := pc) (ls := ls) (rest := rest) F hno X' a1 a2 a3 a4 a5 hm.1 hm.2
  exact ⟨t, hstep _ (hsteps.trans t1), t2⟩
end ZTC
/-! the catch: an entry of the class that is thrown, not yet resolved -/
theorem zc_step {e : Env} {s : State} {a : Addr} {f : JFrame} {r : List Frame} {meth : Method} {code : Code} {x : ExceptionTableEntry} {c : ClassId} {cell : Cell} {vm' : Vm} (hm : s.vm.method? f.method = some meth) (hc : meth.code = some code) (hsplit : code.exceptionTable.toList = [x]) (hx : covers x f.pc = true) (h0 : x.catchType ≠ 0) (hg : (Jvm.resolveClass f.method.cls x.catchType).Gives e.toSetting s.vm (.ok c) vm') (hsz : vm'.classes.size ≤ s.vm.classes.size) (hcell : s.heap[a]? = some cell) (hobj : ∀ k, cell.vm ≠ .statics k) (hk : ∃ k, vm'.classes[cell.cls]? = some k) (hcl : ∃ k, vm'.classes[c]? = some k) (hfit : vm'.assignable cell.cls c = true) :
    (stepThrowing e s a (.java f :: r)).Is ((s.setVm vm').setFrames (.java { f with pc := x.handlerPc, stack := [.ref a] } :: r)) [] := by
  simp only [stepThrowing, searchFrame, vmDo]
  generalize hr : Sem.go _ e false [] s = res
  simp only [covers] at hx
  obtain ⟨ha, ht⟩ := hg.op (op := VmOp.resolveClass f.method.cls x.catchType) rfl
  have hcell' : (s.setVm vm').heap[a]? = some cell := hcell
  obtain ⟨as, rfl, ha⟩ := Sem.eq_ok_of hr (a := Handler.found x.handlerPc) (s' := s.setVm vm') (acts' := [])
    (by
      simp [findHandler, hm, hc, hsplit, findHandler.go, hx, h0, ha, ht, hsz, hcell, hobj, hk, hcl, hfit, VmOp.dirties, VmOp.acts])
  exact ⟨rfl, ha⟩
