section ZCT
variable {p : Program} {l : Launch} {e : Env} {R : Room} {s : State} {m : MethodId} {args : Array Value} {below : List Frame} {meth : Method} {c : Code}
variable {cc : ByteArray} {nL : Nat} {own : String} {D : va_G} {tA : Nat → ClassId} {b : Nat} {f : zV} {n cells slots pc : Nat} {L : List (Nat × Value)} {st : List Value}
variable {index maxL d lo mc ms k na : Nat} {y : MethodName} {bytes : ByteArray} {ret : Option FieldType} {As rest : List Value} {cls : String} {f1 : zV} {n1 : Nat} {Q : State → Prop}
/-- from the note over the frame to the handler -/
theorem zc_caught (F : zF p s m args meth c cc nL own D tA b) {T : State} {locs : List Loc} {a : Addr} {cell : Cell} {x : ExceptionTableEntry} {g : JFrame} (X : Stand p l e R s m args below meth c T locs cells slots) (hg : g.method = m) (htab : c.exceptionTable.toList = [x]) (hx : covers x g.pc = true) (h0 : x.catchType ≠ 0) (hlk : Cond.classLink own x.catchType cls ∈ gw) (hca : Cond.castable cls cls ∈ gn) (hins : Cond.instantiable cls 6 ∈ gw) (hcell : T.heap[a]? = some cell) (hobj : ∀ k, cell.vm ≠ .statics k) (hcl : s.vm.findClass cls = some cell.cls) :
    ∃ vm₁ : Vm, Stand p l e R s m args below meth c (T.setVm vm₁) locs cells slots ∧ ∀ target, Steps p.tables e below ((T.setVm vm₁).setTop { g with pc := x.handlerPc, stack := [.ref a] }) target → Steps p.tables e below ((T.setTop g).pushFrame (.throwing a)) target := by
  have hpl : e.platform.magicAccessors = ({} : Platform).magicAccessors := by rw [X.admits.platform]
  obtain ⟨cC, hfC, hcL⟩ := Cond.classLink_spec F.hown (F.hts _ hlk) e.platform hpl
  obtain ⟨hg₁, hwarm₁, hready₁⟩ := State.classEntry (e := e) X.warmed hcL
  obtain ⟨c1, c2, g1, g2, hasg⟩ := Cond.castable_spec (va_Nw.use (A := #[]) rfl (F.hG.1 _ hca))
  cases hcl.symm.trans g1
  cases hcl.symm.trans g2
  cases hcl.symm.trans hfC
  have hsz : (T.vm.noted m.cls x.catchType (.cls cell.cls)).classes.size ≤ T.vm.classes.size := by
    have := Vm.size_noted T.vm m.cls x.catchType (.cls cell.cls)
    omega
  generalize hvm : T.vm.noted m.cls x.catchType (.cls cell.cls) = vm₁ at hg₁ hwarm₁ hready₁ hsz
  have hk : ∃ k, vm₁.classes[cell.cls]? = some k := by
    obtain ⟨cK, k, hfK, hk, -⟩ := Cond.instantiable_spec (F.hts _ hins)
    cases hcl.symm.trans hfK
    obtain ⟨k', h1, -⟩ := hwarm₁.alike.2.2 _ _ hk
    exact ⟨k', h1⟩
  refine ⟨vm₁, X.noted hwarm₁, fun target hrest => ?_⟩
  subst hg
  have h : At T g.method c below := X.here
  obtain ⟨hgo, hw⟩ := h.throwing a
  refine Steps.head hgo hw ?_
  rw [stepThread_throwing (frames_entered h.top _), (zc_step (s := (T.setTop g).pushFrame (.throwing a)) (meth := meth) (code := c) (x := x) (c := cell.cls) (cell := cell) (vm' := vm₁) (by rw [Stand.throwing_vm]; exact X.method') X.code htab hx h0 (by rw [Stand.throwing_vm]; exact hg₁) (by rw [Stand.throwing_vm]; exact hsz) (by rw [Stand.throwing_heap]; exact hcell) hobj hk hk (by rw [hwarm₁.alike.assignable]; exact hasg)).1]
  obtain ⟨g₀, hg⟩ := Option.isSome_iff_exists.mp h.top
  obtain ⟨r, hr⟩ := State.topJava?_eq_some.mp hg
  have hr' : (T.setVm vm₁).frames = .java g₀ :: r := hr
  rw [State.setTop_of_frames _ hr'] at hrest
  rw [State.pushFrame, State.setTop_of_frames _ hr, hr, State.setFrames_setFrames]
  have e1 : ((T.setFrames (.throwing a :: (T.setFrames (.java g :: r)).frames)).setVm vm₁).setFrames (.java { g with pc := x.handlerPc, stack := [.ref a] } :: r) = (T.setVm vm₁).setFrames (.java { g with pc := x.handlerPc, stack := [.ref a] } :: r) := by
    show ((T.setFrames (.throwing a :: (T.setFrames (.java g :: r)).frames)).setFrames (.java { g with pc := x.handlerPc, stack := [.ref a] } :: r)).setVm vm₁ = _
    rw [State.setFrames_setFrames]
    rfl
  first
    | (rw [e1]; exact hrest)
    | exact e1 ▸ hrest
theorem zr_catV {ci : Nat} {fs : List Value} {C : String} {T : u_T} {N : Nat} {x : ExceptionTableEntry} (F : zF p s m args meth c cc nL own D tA b) (hM : zMT l D tA b y bytes maxL ret d lo mc ms (.ref (b + k) :: As) f n cls f1 n1) (hd : decode cc pc = .ok (.invokevirtual index, 3)) (hf : f k = some (.inr (ci, fs))) (hc : classes[ci]? = some (C, T, N)) (hw : zwV own index C y bytes maxL ret) (hyc : y.cls = C) (hy : y.cls ≠ "java/lang/invoke/MethodHandle" ∧ y.cls ≠ "java/lang/invoke/VarHandle" ∧ (parseMethodDescriptor y.desc).map (fun d => d.parameters.length) = some na) (hna : As.length = na) (hst : st = As.reverse ++ .ref (b + k) :: rest) (hroom : d + 1 ≤ R.frames ∧ 8 + (maxL + 11) + lo ≤ R.locals) (hrest : (rest.map fun v => v.category).sum ≤ 8) (hcs : cells + mc ≤ R.cells ∧ slots + ms ≤ R.slots) (htab : c.exceptionTable.toList = [x]) (hx : covers x pc = true) (h0 : x.catchType ≠ 0) (hlk : Cond.classLink own x.catchType cls ∈ gw) (hca : Cond.castable cls cls ∈ gn) (hins : Cond.instantiable cls 6 ∈ gw) (kk : ∀ a : Addr, Z p l e R s m args below meth c D b nL Q f1 n1 (cells + mc) (slots + ms) x.handlerPc L [.ref a]) : Z p l e R s m args below meth c D b nL Q f n cells slots pc L st := by
  intro H locs ls hH hS hL T0 hT X
  obtain ⟨mk, vm₁, hn, X₁, hstep⟩ := zT_V (ls := ls) F hd hf hc hw hyc hy hna hst hH hT X
  obtain ⟨a, T', Lx, cell, X', a1, a2, a3, a4, a5, hsteps⟩ := zT_at (rest := rest) F hM hH hS hL (U := T0.setVm vm₁) hT X₁ hn hw.2.2.2.2 (by rw [hyc]; exact hw.2.2.2.1) hd hroom hrest hcs
  obtain ⟨vm₂, X₂, hstep₂⟩ := zc_caught (g := F0 m pc ls rest) F X' rfl htab hx h0 hlk hca hins a3 a4 a5
  obtain ⟨t, t1, t2⟩ := kk a _ _ ls a1 a2 hL (T'.setVm vm₂) rfl X₂
  exact ⟨t, hstep _ (hsteps.trans (hstep₂ _ t1)), t2⟩
theorem zr_catVN {host : String} {ci : Nat} {fs : List Value} {C : String} {T : u_T} {N : Nat} {x : ExceptionTableEntry} (F : zF p s m args meth c cc nL own D tA b) (hM : zMT l D tA b y bytes maxL ret d lo mc ms (.ref (b + k) :: As) f n cls f1 n1) (hd : decode cc pc = .ok (.invokevirtual index, 3)) (hf : f k = some (.inr (ci, fs))) (hc : classes[ci]? = some (C, T, N)) (hw : zwVN own index C y host bytes maxL ret) (hyc : y.cls = C) (hy : y.cls ≠ "java/lang/invoke/MethodHandle" ∧ y.cls ≠ "java/lang/invoke/VarHandle" ∧ (parseMethodDescriptor y.desc).map (fun d => d.parameters.length) = some na) (hna : As.length = na) (hst : st = As.reverse ++ .ref (b + k) :: rest) (hroom : d + 1 ≤ R.frames ∧ 8 + (maxL + 11) + lo ≤ R.locals) (hrest : (rest.map fun v => v.category).sum ≤ 8) (hcs : cells + mc ≤ R.cells ∧ slots + ms ≤ R.slots) (htab : c.exceptionTable.toList = [x]) (hx : covers x pc = true) (h0 : x.catchType ≠ 0) (hlk : Cond.classLink own x.catchType cls ∈ gw) (hca : Cond.castable cls cls ∈ gn) (hins : Cond.instantiable cls 6 ∈ gw) (kk : ∀ a : Addr, Z p l e R s m args below meth c D b nL Q f1 n1 (cells + mc) (slots + ms) x.handlerPc L [.ref a]) : Z p l e R s m args below meth c D b nL Q f n cells slots pc L st := by
  intro H locs ls hH hS hL T0 hT X
  obtain ⟨mk, vm₁, hn, X₁, hstep⟩ := zT_VN (ls := ls) F hd hf hc hw hyc hy hna hst hH hT X
  obtain ⟨a, T', Lx, cell, X', a1, a2, a3, a4, a5, hsteps⟩ := zT_at (rest := rest) F hM hH hS hL (U := T0.setVm vm₁) hT X₁ hn hw.2.2.2.2 (by rw [hyc]; exact hw.2.2.2.1) hd hroom hrest hcs
  obtain ⟨vm₂, X₂, hstep₂⟩ := zc_caught (g := F0 m pc ls rest) F X' rfl htab hx h0 hlk hca hins a3 a4 a5
  obtain ⟨t, t1, t2⟩ := kk a _ _ ls a1 a2 hL (T'.setVm vm₂) rfl X₂
  exact ⟨t, hstep _ (hsteps.trans (hstep₂ _ t1)), t2⟩
end ZCT
/-! methods with a handler table -/
def zMW (l : Launch) (D : va_G) (tA : Nat → ClassId) (b : Nat) (y : MethodName) (bytes : ByteArray) (maxL : Nat) (ret : Option FieldType) (hs : List (Nat × Nat × Nat × Nat)) (d lo mc ms : Nat) (av : List Value) (f : zV) (n : Nat) (post : Option Value → zV → Nat → Prop) : Prop := Met l y (Cond.codeWith y bytes maxL ret hs :: gw) { frames := d, cells := mc, slots := ms, locals := lo } (zP D tA b av f n) (zQ D b post) mc ms (fun q => b ≤ q)
theorem zMW_of {l : Launch} {D : va_G} {tA : Nat → ClassId} {b : Nat} {y : MethodName} {bytes : ByteArray} {maxL : Nat} {ret : Option FieldType} {hs : List (Nat × Nat × Nat × Nat)} {d lo mc ms : Nat} {av : List Value} {f : zV} {n : Nat} {post : Option Value → zV → Nat → Prop} {own : String} (hy : plainFor y = true) (hyc : y.cls = own) (hlen : (lg_sl av).length ≤ maxL)
    (body : ∀ (p : Program) (e : Env) (s : State) (m : MethodId) (below : List Frame) (meth : Method) (c : Code), zF p s m av.toArray meth c bytes maxL own D tA b → meth.sig.returnType = ret → c.exceptionTable.toList.map (fun h => (h.startPc, h.endPc, h.handlerPc, h.catchType)) = hs → zH D b f n s.heap → Z p l e { frames := d, cells := mc, slots := ms, locals := lo } s m av.toArray below meth c D b maxL (MQ below (zQ D b post) av.toArray s mc ms (fun q => b ≤ q)) f n 0 0 0 (lv_args 0 av) []) : zMW l D tA b y bytes maxL ret hs d lo mc ms av f n post := by
  unfold zMW Met
  refine MetFree.of_bodySF (code := bytes) (maxLocals := maxL) (ret := ret) hy ?_ ?_
  · intro args s m h hn
    obtain ⟨m', meth, c, hn', h1, h2, h3, h4, -, h5, h6, -⟩ := Cond.codeWith_spec (atoms_spec (ws := Cond.codeWith y bytes maxL ret hs :: gw) h _ List.mem_cons_self)
    cases hn.symm.trans hn'
    exact ⟨meth, c, h1, h2, h3, h4, h5, h6⟩
  intro p e s m args below meth c s₁ B hml hv _
  obtain ⟨rfl, hH, hK, hG⟩ := hv
  have hts := atoms_spec (ws := Cond.codeWith y bytes maxL ret hs :: gw) B.pre
  have hown : s.vm.findClass own = some m.cls := hyc ▸ findClass_of_methodNamed B.named
  have hl := lv_entry av (n := maxL) hlen
  have hh0 : s₁.heap = s.heap := by rw [B.state]; rfl
  have htab : c.exceptionTable.toList.map (fun h => (h.startPc, h.endPc, h.handlerPc, h.catchType)) = hs := by
    obtain ⟨m', meth', c', hn', h1, h2, -, -, h3, -, -, -⟩ := Cond.codeWith_spec (hts _ List.mem_cons_self)
    cases B.named.symm.trans hn'
    cases B.method.symm.trans h1
    cases (Stand.of_body B).code.symm.trans h2
    exact h3
  have K : W p l e { frames := d, cells := mc, slots := ms, locals := lo } s m av.toArray below meth c s₁.heap [] 0 0 (MQ below (zQ D b post) av.toArray s mc ms (fun q => b ≤ q)) (entryFrame m av.toArray maxL) := by
    rw [hh0, lg_entry_eq]
    exact body p e s m below meth c ⟨B.exec, B.bytes, hml, hown, fun w hw => hts w (List.mem_cons_of_mem _ hw), hK, B.notSynchronized, hG, by rw [hH.1]; exact Nat.le_add_right b n⟩ B.returns htab hH _ _ _ hH va_S.rf hl
  obtain ⟨t, a1, o, b1, b2, b3⟩ := K s₁ rfl (Stand.of_body B)
  exact ⟨t, o, a1, b1, b2, ⟨b3.1, b3.2⟩⟩
section ZCW
variable {p : Program} {l : Launch} {e : Env} {R : Room} {s : State} {m : MethodId} {args : Array Value} {below : List Frame} {meth : Method} {c : Code}
variable {cc : ByteArray} {nL : Nat} {own : String} {D : va_G} {tA : Nat → ClassId} {b : Nat} {f : zV} {n cells slots pc : Nat} {L : List (Nat × Value)} {st : List Value}
variable {index maxL d lo mc ms na : Nat} {y : MethodName} {bytes : ByteArray} {ret : Option FieldType} {As rest : List Value} {post : Option Value → zV → Nat → Prop} {Q : State → Prop} {hs : List (Nat × Nat × Nat × Nat)}
theorem zr_callSW (F : zF p s m args meth c cc nL own D tA b) (hM : zMW l D tA b y bytes maxL ret hs d lo mc ms As f n post) (hd : decode cc pc = .ok (.invokestatic index, 3)) (w1 : Cond.methodLink own index y ∈ gw) (w2 : Cond.static y ∈ gw) (w3 : Cond.initialized y.cls ∈ gw) (w4 : Cond.codeWith y bytes maxL ret hs ∈ gw) (hy : y.cls ≠ "java/lang/invoke/MethodHandle" ∧ y.cls ≠ "java/lang/invoke/VarHandle" ∧ (parseMethodDescriptor y.desc).map (fun d => d.parameters.length) = some na) (hna : As.length = na) (hst : st = As.reverse ++ rest) (hroom : d + 1 ≤ R.frames ∧ 8 + (maxL + 11) + lo ≤ R.locals) (hrest : (rest.map fun v => v.category).sum ≤ 8) (hcs : cells + mc ≤ R.cells ∧ slots + ms ≤ R.slots) (kk : ∀ (v : Option Value) (f' : zV) (n' : Nat), post v f' n' → Z p l e R s m args below meth c D b nL Q f' n' (cells + mc) (slots + ms) (pc + 3) L (v.toList ++ rest)) : Z p l e R s m args below meth c D b nL Q f n cells slots pc L st := by
  refine zr_run (as' := As.toArray) (fun H locs ls hH hS hL => ?_) kk
  have hws : ∀ w ∈ (Cond.codeWith y bytes maxL ret hs :: gw), ∀ a' U, s.WarmedH U.vm → w.before a' U = true := fun w hw a' U hW => by
    rcases List.mem_cons.mp hw with rfl | hw
    · exact word_at hW (gw_good _ w4) (F.hts _ w4)
    · exact word_at hW (gw_good _ hw) (F.hts _ hw)
  have hK : Back l R p e below s args y 3 8 (PreOf R mc ms (zP D tA b As f n)) (PostOf (zQ D b post) mc ms (fun q => b ≤ q)) := by
    refine Back.of_freeWith (handlers := hs) (S := headSpec (Cond.codeWith y bytes maxL ret hs :: gw) { frames := d, cells := mc, slots := ms, locals := lo }) (P := zP D tA b As f n) (K := fun _ _ _ _ _ => True) (Q := fun a st o t => zQ D b post a st o t ∧ ∃ L, FrameEnd st o t L mc ms ∧ ∀ q ∈ L, b ≤ q.base) (bytes := bytes) (maxL := maxL) (ret := ret)
      (E := fun a st o t L k n => k = mc ∧ n = ms ∧ ∀ q ∈ L, b ≤ q.base) hM hroom.1 hroom.2 ?_ ?_ (fun _ _ _ _ _ _ _ _ _ => trivial) ?_ ?_
    · intro m meth c A a X hp
      exact ⟨atoms_intro fun w hw => hws w hw _ _ X.warmed, hws _ List.mem_cons_self _ _ X.warmed, word_at X.warmed (gw_good _ w3) (F.hts _ w3), hp.1, hp.2.1⟩
    · intro m meth c A a g mk X hp
      exact zP_blind _ _ _ _ hp.2.2
    · intro a st o t ⟨hq, L, hF, hL⟩
      exact ⟨L, mc, ms, hF, rfl, rfl, hL⟩
    · intro m meth c A a g mk v t L k n X hp hq hF ⟨e1, e2, hL⟩
      subst e1; subst e2
      exact ⟨g, mk, t, L, rfl, rfl, hq.1, rfl, hL, rfl, rfl⟩
  intro T hT X
  obtain ⟨mk, methM, cM, hnamed, hmethM, -, -, -, -, -, -, hsigM⟩ := Cond.codeWith_spec (F.hts _ w4)
  have hstatic : methM.isStatic = true := Cond.static_spec hnamed hmethM (F.hts _ w2)
  obtain ⟨kP, hkP, -⟩ := className_of_methodNamed hnamed
  have hinitP : kP.init = .initialized := Cond.initialized_spec (findClass_of_methodNamed hnamed) hkP (F.hts _ w3)
  have hlen : As.length = methM.sig.parameters.length := by
    have h := hy.2.2
    rw [hsigM] at h
    exact hna.trans (Option.some.inj h).symm
  obtain ⟨vm₁, X₁, hstep₁⟩ := X.invokestatic F.hx F.hown (F.hts _ w1) hnamed hmethM hstatic hkP hinitP ⟨hy.1, hy.2.1⟩ (g := F0 m pc ls st) rfl (argsL := As) (rest := rest) hlen hst (by rw [F.hb]; exact hd)
  have hP : zP D tA b As f n As.toArray (T.setVm vm₁) := zP_pre F hH hS As _ hT X₁.warmed
  obtain ⟨v, ⟨U', l2, c2, s2⟩, X', ⟨g', mk', t, L', e1, e2, hq, h1, hL', h2, h3⟩, hsteps⟩ := hK m meth c ⟨T.setVm vm₁, locs, cells, slots⟩ (F0 m pc ls rest) (.invokestatic index) mk As.toArray X₁ rfl (by rw [F.hml]; exact hL.1) (by rw [F.hb]; exact hd) (lv_room hrest) (X₁.named hnamed) ⟨hcs.1, hcs.2, hP⟩
  dsimp only [Pt.U, Pt.locs, Pt.cells, Pt.slots] at X' e1 e2 h1 h2 h3 hsteps
  subst h1; subst h2; subst h3
  exact ⟨v, (T.setVm vm₁).calling g' mk' As.toArray, t, U', L', hT, X', hL', e1, e2, hq, fun target h => hstep₁ _ fun acts => by rw [doInvoke_state]; exact hsteps.trans h⟩
end ZCW
