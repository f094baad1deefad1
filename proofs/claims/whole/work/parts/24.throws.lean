/-! methods that throw -/
def zQT (D : va_G) (b : Nat) (cls : String) (f1 : zV) (n1 mc ms : Nat) : Array Value → State → Outcome → State → Prop := fun _ st o t => ∃ (x : Addr) (L : List Loc) (cell : Cell), o = .threw x ∧ zH D b f1 n1 t.heap ∧ va_F (fun q => b ≤ q) st t ∧ st.WarmedH t.vm ∧ st.sameButNew ({ t with vm := st.vm } : State) L mc ms ∧ (∀ q ∈ L, b ≤ q.base) ∧ t.heap[x]? = some cell ∧ (∀ k, cell.vm ≠ .statics k) ∧ st.vm.findClass cls = some cell.cls
def zMT (l : Launch) (D : va_G) (tA : Nat → ClassId) (b : Nat) (y : MethodName) (bytes : ByteArray) (maxL : Nat) (ret : Option FieldType) (d lo mc ms : Nat) (av : List Value) (f : zV) (n : Nat) (cls : String) (f1 : zV) (n1 : Nat) : Prop :=
  MetFree l y (headSpec (Cond.code y bytes maxL ret :: gw) { frames := d, cells := mc, slots := ms, locals := lo }) (zP D tA b av f n) (fun _ _ _ _ _ => True) (zQT D b cls f1 n1 mc ms)
def zTQ (below : List Frame) (D : va_G) (b : Nat) (cls : String) (f1 : zV) (n1 : Nat) (a : Array Value) (s : State) (mc ms : Nat) : State → Prop := fun t => ∃ o, t.status = .running ∧ Ended t below o ∧ zQT D b cls f1 n1 mc ms a s o t
theorem zMT_of {l : Launch} {D : va_G} {tA : Nat → ClassId} {b : Nat} {y : MethodName} {bytes : ByteArray} {maxL : Nat} {ret : Option FieldType} {d lo mc ms : Nat} {av : List Value} {f : zV} {n : Nat} {cls : String} {f1 : zV} {n1 : Nat} {own : String} (hy : plainFor y = true) (hyc : y.cls = own) (hlen : (lg_sl av).length ≤ maxL)
    (body : ∀ (p : Program) (e : Env) (s : State) (m : MethodId) (below : List Frame) (meth : Method) (c : Code), zF p s m av.toArray meth c bytes maxL own D tA b → c.exceptionTable.toList = [] → zH D b f n s.heap → Z p l e { frames := d, cells := mc, slots := ms, locals := lo } s m av.toArray below meth c D b maxL (zTQ below D b cls f1 n1 av.toArray s mc ms) f n 0 0 0 (lv_args 0 av) []) : zMT l D tA b y bytes maxL ret d lo mc ms av f n cls f1 n1 := by
  unfold zMT
  refine MetFree.of_bodySF (code := bytes) (maxLocals := maxL) (ret := ret) hy ?_ ?_
  · intro args s m h hn
    obtain ⟨meth, c, h1, h2, h3, h4, h5, h6, -, -⟩ := Cond.code_spec hn (atoms_spec (ws := Cond.code y bytes maxL ret :: gw) h _ List.mem_cons_self)
    exact ⟨meth, c, h1, h2, h3, h4, h5, h6⟩
  intro p e s m args below meth c s₁ B hml hv _
  obtain ⟨rfl, hH, hK, hG⟩ := hv
  have hts := atoms_spec (ws := Cond.code y bytes maxL ret :: gw) B.pre
  have hown : s.vm.findClass own = some m.cls := hyc ▸ findClass_of_methodNamed B.named
  have hl := lv_entry av (n := maxL) hlen
  have hh0 : s₁.heap = s.heap := by rw [B.state]; rfl
  have hno : c.exceptionTable.toList = [] := by
    have h0 := B.noHandlers (hts _ List.mem_cons_self)
    have h1 : c.exceptionTable.size = 0 := by simpa [Array.isEmpty] using h0
    exact List.eq_nil_of_length_eq_zero (by simpa using h1)
  have K : W p l e { frames := d, cells := mc, slots := ms, locals := lo } s m av.toArray below meth c s₁.heap [] 0 0 (zTQ below D b cls f1 n1 av.toArray s mc ms) (entryFrame m av.toArray maxL) := by
    rw [hh0, lg_entry_eq]
    exact body p e s m below meth c ⟨B.exec, B.bytes, hml, hown, fun w hw => hts w (List.mem_cons_of_mem _ hw), hK, B.notSynchronized, hG, by rw [hH.1]; exact Nat.le_add_right b n⟩ hno hH _ _ _ hH va_S.rf hl
  obtain ⟨t, a1, o, b1, b2, b3⟩ := K s₁ rfl (Stand.of_body B)
  exact ⟨t, o, a1, b1, b2, b3⟩
theorem zS_vm (s T : State) : (zS s T).vm = T.vm := rfl
theorem zS_heap (s T : State) : (zS s T).heap = T.heap := rfl
/-- what is thrown from a state told anew, told of the first one -/
theorem zH.grown {D : va_G} {b : Nat} {f : zV} {n : Nat} {H H1 : Heap} {k : Nat} (h : zH D b f n H) (hz : H1.size = H.size + k) (ho : ∀ q : Nat, q < H.size → H1[q]? = H[q]?) : zH D b f (n + k) H1 :=
  ⟨by rw [hz, h.1]; omega, fun j y hy => (h.2 j y hy).kept (ho (b + j) (h.2 j y hy).lt)⟩
theorem z_same {s t : State} {k n : Nat} (h : s.sameButNew t [] k n) : ∀ q : Nat, q < s.heap.size → t.heap[q]? = s.heap[q]? := by
  intro q hq
  obtain ⟨c0, hc0⟩ : ∃ c0, s.heap[q]? = some c0 := ⟨_, Array.getElem?_eq_getElem hq⟩
  obtain ⟨c', h1, h2, h3, h4⟩ := h.2.2.2.2.2 q c0 hc0
  rw [h1, hc0, h2]
  have h5 : c'.slots = c0.slots := Array.ext_getElem? (fun i => h4 i (by simp))
  rw [h5]
/-- the state told anew and the state itself: what is the same but for new cells -/
theorem zS_same {s T U : State} {locs : List Loc} {cells slots k n : Nat} (hX : s.sameButNew (T.setVm s.vm) locs cells slots) (h : (zS s T).sameButNew ({ U with vm := (zS s T).vm } : State) [] k n) : T.sameButNew (U.setVm T.vm) [] k n := by
  refine ⟨?_, h.2⟩
  have e3 : T = ({ s.setFrames T.frames with heap := T.heap, slotsUsed := T.slotsUsed } : State).setVm T.vm := by
    conv => lhs; rw [show T = (T.setVm s.vm).setVm T.vm from rfl, hX.1]
    rfl
  have e4 : T.setFrames U.frames = ({ s.setFrames U.frames with heap := T.heap, slotsUsed := T.slotsUsed } : State).setVm T.vm :=
    calc T.setFrames U.frames = (({ s.setFrames T.frames with heap := T.heap, slotsUsed := T.slotsUsed } : State).setVm T.vm).setFrames U.frames := congrArg (·.setFrames U.frames) e3
      _ = ({ (s.setFrames T.frames).setFrames U.frames with heap := T.heap, slotsUsed := T.slotsUsed } : State).setVm T.vm := rfl
      _ = _ := by rw [State.setFrames_setFrames]
  show U.setVm T.vm = { T.setFrames U.frames with heap := U.heap, slotsUsed := U.slotsUsed }
  rw [e4]
  exact h.1
section ZTN
variable {p : Program} {l : Launch} {e : Env} {R : Room} {s : State} {m : MethodId} {args : Array Value} {below : List Frame} {meth : Method} {c : Code}
variable {cc : ByteArray} {nL : Nat} {own : String} {D : va_G} {tA : Nat → ClassId} {b : Nat} {f : zV} {n cells slots pc : Nat} {L : List (Nat × Value)} {st : List Value}
set_option maxHeartbeats 1000000 in
theorem zr_throwNew (F : zF p s m args meth c cc nL own D tA b) (hl : l.stackTraces = false) (hno : c.exceptionTable.toList = []) {cls : String} {names : List String} {ix ic mc ms : Nat} (hd0 : decode cc pc = .ok (.new ix, 3)) (hd1 : decode cc (pc + 3) = .ok (.dup, 1)) (hd2 : decode cc (pc + 3 + 1) = .ok (.invokespecial ic, 3)) (hd3 : decode cc (pc + 3 + 1 + 3) = .ok (.athrow, 1))
    (hfit : Bundle.fit cls = true) (hnames : ∀ n ∈ names, Bundle.fit n = true) (hat : ∀ U : State, zG D b U U.heap → (∀ w ∈ gw, w.before args U = true) → ∀ a ∈ Bundle.ownAtoms0 own ic cls names, a.before args U = true)
    (h1 : Cond.classLink own ix cls ∈ gw) (h2 : Cond.instantiable cls 6 ∈ gw) (h3 : Cond.initialized cls ∈ gw) (hRf : names.length + 3 < R.frames) (hRl : 1 + (st.map fun v => v.category).sum + (13 * (names.length + 1) + 41) ≤ R.locals) (hc1 : cells + 1 ≤ mc) (hs1 : slots + 6 ≤ ms) (hc2 : mc ≤ R.cells) (hs2 : ms ≤ R.slots) :
    Z p l e R s m args below meth c D b nL (zTQ below D b cls f (n + 1) args s mc ms) f n cells slots pc L st := by
  intro H locs ls hH hS hL T hT X
  have htr : e.platform.stackTraces = false := by
    have := X.admits.2.2.2.2.1
    rw [this]; exact hl
  have Xa := zS_stand X (k := 1) (n := 6) (Nat.le_trans hc1 hc2) (Nat.le_trans hs1 hs2)
  have hW : s.WarmedH (zS s T).vm := X.warmed
  have hts : ∀ w ∈ gw, w.before args (zS s T) = true := fun w hw => word_at hW (gw_good w hw) (F.hts w hw)
  have hG : zG D b (zS s T) (zS s T).heap := zG.to F.hG hS hT hW
  have hown : (zS s T).vm.findClass own = some m.cls := by rw [hW.alike.findClass]; exact F.hown
  obtain ⟨vm', cC, kC, q1, q2, q3, q4, X1, st1⟩ := Xa.newCold F.hx hown (hts _ h1) (hts _ h2) (hts _ h3) (g := F0 m pc ls st) rfl (by rw [F.hb]; exact hd0) (by show 0 + 1 ≤ 1; omega) (by show 0 + 6 ≤ 6; omega)
  have hsz : T.heap.size = b + n := by rw [hT]; exact hH.1
  have K : W p l e { R with cells := 1, slots := 6 } (zS s T) m args below meth c ((T.setVm vm').pushCell { cls := cC, slots := kC.instanceTypes.map defaultValue, vm := .none }).heap [] (0 + 1) (0 + 6) (zTQ below D b cls f (n + 1) args s mc ms) (F0 m (pc + 3) ls (.ref T.heap.size :: st)) := by
    refine lv_dup F.hx F.hb hd1 rfl (fun T2 hT2 X2 => ?_)
    have hcell : T2.heap[T.heap.size]? = some (freshCell cC kC) := by
      rw [hT2]
      exact State.heap_pushCell_size (T.setVm vm') _
    obtain ⟨U, u1, u2, u3, u4, u5, ce, u6, u7⟩ := X2.ctorThrow0 F.hx htr (own := own) (cls := cls) (names := names) (ic := ic) hown hfit hnames (hat _ hG hts) (fun x hx => by cases hx) q1 q2 hcell (Nat.le_refl _) (g := F0 m (pc + 3 + 1) ls (.ref T.heap.size :: .ref T.heap.size :: st)) rfl (by rw [F.hml]; exact hL.1) rfl rfl (rest := st) rfl (by rw [F.hb]; exact hd2) (by rw [F.hb]; exact hd3) (fun x hx => by rw [hno] at hx; cases hx) hRf (by
        have h0 : (F0 m (pc + 3 + 1) ls (.ref T.heap.size :: .ref T.heap.size :: st)).monitorRoom = 0 := rfl
        rw [h0]
        simp only [List.map_cons, List.sum_cons]
        show 2 * 0 + (1 + _) + _ ≤ _
        omega) F.hlk
    have hsame := z_same u5
    have hlt : T.heap.size < U.heap.size := (Array.getElem?_eq_some_iff.mp u6).1
    have hle : U.heap.size ≤ T.heap.size + 1 := u5.2.2.1
    have hUs : U.heap.size = T.heap.size + 1 := by omega
    have hkeep : ∀ q : Nat, q < H.size → U.heap[q]? = H[q]? := fun q hq => by rw [← hT]; exact hsame q (by show q < T.heap.size; rw [hT]; exact hq)
    have hall := X.same.trans ((show T.sameButNew (U.setVm T.vm) [] 1 6 from ?_).setVm s.vm)
    · refine ⟨U, u1, _, u2, u3, T.heap.size, locs ++ [], ce, rfl, hH.grown (by rw [hUs, hT]) hkeep, ⟨?_, fun q hq1 hq2 => ?_⟩, X.warmed.trans u4, ?_, ?_, u6, ?_, ?_⟩
      · rw [hUs, hT]
        exact Nat.le_trans hS.1 (Nat.le_succ _)
      · rw [hkeep q (Nat.lt_of_lt_of_le hq1 hS.1)]
        exact hS.2.1 q hq1 hq2
      · exact hall.mono hc1 hs1
      · intro q hq
        rw [List.append_nil] at hq
        exact hS.2.2 q hq
      · intro k hk
        rw [u7.vm] at hk
        cases hk
      · have := u7.cls
        rw [← hW.alike.findClass]
        exact this
    · exact zS_same X.same u5
  obtain ⟨t, k1, k2⟩ := K _ rfl X1
  exact ⟨t, st1 t k1, k2⟩
end ZTN
set_option maxHeartbeats 4000000 in
set_option maxRecDepth 100000 in
theorem zat_IAE {D : va_G} {b : Nat} {args : Array Value} (U : State) (hG : zG D b U U.heap) (hts : ∀ w ∈ gw, w.before args U = true) : ∀ a ∈ Bundle.ownAtoms0 "OrreryBox$Reader" 300 "java/lang/IllegalArgumentException" ["java/lang/RuntimeException", "java/lang/Exception"], a.before args U = true := by
  obtain ⟨h1, -, -, -, h5, h6, -⟩ := hG
  refine List.forall_mem_cons.mpr ⟨(hts _ (gw_t 18 (by decide +kernel) rfl)), ?_⟩
  refine List.forall_mem_cons.mpr ⟨(hts _ (gw_t 1120 (by decide +kernel) rfl)), ?_⟩
  refine List.forall_mem_cons.mpr ⟨(hts _ (gw_t 1129 (by decide +kernel) rfl)), ?_⟩
  refine List.forall_mem_cons.mpr ⟨(hts _ (gw_t 1132 (by decide +kernel) rfl)), ?_⟩
  refine List.forall_mem_cons.mpr ⟨(hts _ (gw_t 1135 (by decide +kernel) rfl)), ?_⟩
  refine List.forall_mem_cons.mpr ⟨(hts _ (gw_t 1137 (by decide +kernel) rfl)), ?_⟩
  refine List.forall_mem_cons.mpr ⟨(hts _ (gw_t 1121 (by decide +kernel) rfl)), ?_⟩
  refine List.forall_mem_cons.mpr ⟨(hts _ (gw_t 1122 (by decide +kernel) rfl)), ?_⟩
  refine List.forall_mem_cons.mpr ⟨(hts _ (gw_t 35 (by decide +kernel) rfl)), ?_⟩
  refine List.forall_mem_cons.mpr ⟨(hts _ (gw_t 36 (by decide +kernel) rfl)), ?_⟩
  refine List.forall_mem_cons.mpr ⟨(hts _ (gw_t 1123 (by decide +kernel) rfl)), ?_⟩
  refine List.forall_mem_cons.mpr ⟨(hts _ (gw_t 1128 (by decide +kernel) rfl)), ?_⟩
  refine List.forall_mem_cons.mpr ⟨(hts _ (gw_t 1133 (by decide +kernel) rfl)), ?_⟩
  refine List.forall_mem_cons.mpr ⟨(hts _ (gw_t 1149 (by decide +kernel) rfl)), ?_⟩
  refine List.forall_mem_cons.mpr ⟨(hts _ (gw_t 1110 (by decide +kernel) rfl)), ?_⟩
  refine List.forall_mem_cons.mpr ⟨(hts _ (gw_t 1150 (by decide +kernel) rfl)), ?_⟩
  refine List.forall_mem_cons.mpr ⟨(hts _ (gw_t 1112 (by decide +kernel) rfl)), ?_⟩
  refine List.forall_mem_cons.mpr ⟨(hts _ (gw_t 1151 (by decide +kernel) rfl)), ?_⟩
  refine List.forall_mem_cons.mpr ⟨(hts _ (gw_t 1114 (by decide +kernel) rfl)), ?_⟩
  refine List.forall_mem_cons.mpr ⟨(hts _ (gw_t 1124 (by decide +kernel) rfl)), ?_⟩
  refine List.forall_mem_cons.mpr ⟨h5.lays, ?_⟩
  refine List.forall_mem_cons.mpr ⟨(hts _ (gw_t 1126 (by decide +kernel) rfl)), ?_⟩
  refine List.forall_mem_cons.mpr ⟨h6.lays, ?_⟩
  refine List.forall_mem_cons.mpr ⟨(hts _ (gw_t 1116 (by decide +kernel) rfl)), ?_⟩
  refine List.forall_mem_cons.mpr ⟨(hts _ (gw_t 1139 (by decide +kernel) rfl)), ?_⟩
  refine List.forall_mem_cons.mpr ⟨(hts _ (gw_t 1140 (by decide +kernel) rfl)), ?_⟩
  refine List.forall_mem_cons.mpr ⟨(hts _ (gw_t 1141 (by decide +kernel) rfl)), ?_⟩
  refine List.forall_mem_cons.mpr ⟨(hts _ (gw_t 1142 (by decide +kernel) rfl)), ?_⟩
  refine List.forall_mem_cons.mpr ⟨(va_Nw.use rfl (h1 _ (gn_t 1101 (by decide +kernel) rfl))), ?_⟩
  refine List.forall_mem_cons.mpr ⟨(hts _ (gw_t 1142 (by decide +kernel) rfl)), ?_⟩
  refine List.forall_mem_cons.mpr ⟨(hts _ (gw_t 1143 (by decide +kernel) rfl)), ?_⟩
  refine List.forall_mem_cons.mpr ⟨(hts _ (gw_t 1144 (by decide +kernel) rfl)), ?_⟩
  refine List.forall_mem_cons.mpr ⟨(hts _ (gw_t 1145 (by decide +kernel) rfl)), ?_⟩
  refine List.forall_mem_cons.mpr ⟨(va_Nw.use rfl (h1 _ (gn_t 1103 (by decide +kernel) rfl))), ?_⟩
  refine List.forall_mem_cons.mpr ⟨(hts _ (gw_t 1145 (by decide +kernel) rfl)), ?_⟩
  refine List.forall_mem_cons.mpr ⟨(hts _ (gw_t 1146 (by decide +kernel) rfl)), ?_⟩
  refine List.forall_mem_cons.mpr ⟨(hts _ (gw_t 1147 (by decide +kernel) rfl)), ?_⟩
  refine List.forall_mem_cons.mpr ⟨(hts _ (gw_t 1121 (by decide +kernel) rfl)), ?_⟩
  refine List.forall_mem_cons.mpr ⟨(va_Nw.use rfl (h1 _ (gn_t 1105 (by decide +kernel) rfl))), ?_⟩
  refine List.forall_mem_cons.mpr ⟨(hts _ (gw_t 1138 (by decide +kernel) rfl)), ?_⟩
  refine List.forall_mem_cons.mpr ⟨(hts _ (gw_t 1099 (by decide +kernel) rfl)), ?_⟩
  refine List.forall_mem_cons.mpr ⟨(va_Nw.use rfl (h1 _ (gn_t 1100 (by decide +kernel) rfl))), ?_⟩
  refine List.forall_mem_cons.mpr ⟨(hts _ (gw_t 1107 (by decide +kernel) rfl)), ?_⟩
  refine List.forall_mem_cons.mpr ⟨(hts _ (gw_t 1108 (by decide +kernel) rfl)), ?_⟩
  refine List.forall_mem_cons.mpr ⟨(hts _ (gw_t 1109 (by decide +kernel) rfl)), ?_⟩
  refine List.forall_mem_cons.mpr ⟨(hts _ (gw_t 1111 (by decide +kernel) rfl)), ?_⟩
  refine List.forall_mem_cons.mpr ⟨(hts _ (gw_t 1113 (by decide +kernel) rfl)), ?_⟩
  refine List.forall_mem_cons.mpr ⟨(hts _ (gw_t 1115 (by decide +kernel) rfl)), ?_⟩
  refine List.forall_mem_cons.mpr ⟨h5.isRef, ?_⟩
  refine List.forall_mem_cons.mpr ⟨h6.isRef, ?_⟩
  refine List.forall_mem_cons.mpr ⟨(hts _ (gw_t 1119 (by decide +kernel) rfl)), ?_⟩
  refine List.forall_mem_cons.mpr ⟨(hts _ (gw_t 1118 (by decide +kernel) rfl)), ?_⟩
  refine List.forall_mem_cons.mpr ⟨(hts _ (gw_t 1117 (by decide +kernel) rfl)), ?_⟩
  exact fun a ha => by cases ha
set_option maxHeartbeats 4000000 in
set_option maxRecDepth 100000 in
theorem zat_NSE {D : va_G} {b : Nat} {args : Array Value} (U : State) (hG : zG D b U U.heap) (hts : ∀ w ∈ gw, w.before args U = true) : ∀ a ∈ Bundle.ownAtoms0 "OrreryBox" 147 "java/util/NoSuchElementException" ["java/lang/RuntimeException", "java/lang/Exception"], a.before args U = true := by
  obtain ⟨h1, -, -, -, h5, h6, -⟩ := hG
  refine List.forall_mem_cons.mpr ⟨(hts _ (gw_t 18 (by decide +kernel) rfl)), ?_⟩
  refine List.forall_mem_cons.mpr ⟨(hts _ (gw_t 1120 (by decide +kernel) rfl)), ?_⟩
  refine List.forall_mem_cons.mpr ⟨(hts _ (gw_t 1129 (by decide +kernel) rfl)), ?_⟩
  refine List.forall_mem_cons.mpr ⟨(hts _ (gw_t 1132 (by decide +kernel) rfl)), ?_⟩
  refine List.forall_mem_cons.mpr ⟨(hts _ (gw_t 1135 (by decide +kernel) rfl)), ?_⟩
  refine List.forall_mem_cons.mpr ⟨(hts _ (gw_t 1137 (by decide +kernel) rfl)), ?_⟩
  refine List.forall_mem_cons.mpr ⟨(hts _ (gw_t 1121 (by decide +kernel) rfl)), ?_⟩
  refine List.forall_mem_cons.mpr ⟨(hts _ (gw_t 1122 (by decide +kernel) rfl)), ?_⟩
  refine List.forall_mem_cons.mpr ⟨(hts _ (gw_t 35 (by decide +kernel) rfl)), ?_⟩
  refine List.forall_mem_cons.mpr ⟨(hts _ (gw_t 36 (by decide +kernel) rfl)), ?_⟩
  refine List.forall_mem_cons.mpr ⟨(hts _ (gw_t 1123 (by decide +kernel) rfl)), ?_⟩
  refine List.forall_mem_cons.mpr ⟨(hts _ (gw_t 1128 (by decide +kernel) rfl)), ?_⟩
  refine List.forall_mem_cons.mpr ⟨(hts _ (gw_t 1133 (by decide +kernel) rfl)), ?_⟩
  refine List.forall_mem_cons.mpr ⟨(hts _ (gw_t 1149 (by decide +kernel) rfl)), ?_⟩
  refine List.forall_mem_cons.mpr ⟨(hts _ (gw_t 1110 (by decide +kernel) rfl)), ?_⟩
  refine List.forall_mem_cons.mpr ⟨(hts _ (gw_t 1150 (by decide +kernel) rfl)), ?_⟩
  refine List.forall_mem_cons.mpr ⟨(hts _ (gw_t 1112 (by decide +kernel) rfl)), ?_⟩
  refine List.forall_mem_cons.mpr ⟨(hts _ (gw_t 1151 (by decide +kernel) rfl)), ?_⟩
  refine List.forall_mem_cons.mpr ⟨(hts _ (gw_t 1114 (by decide +kernel) rfl)), ?_⟩
  refine List.forall_mem_cons.mpr ⟨(hts _ (gw_t 1124 (by decide +kernel) rfl)), ?_⟩
  refine List.forall_mem_cons.mpr ⟨h5.lays, ?_⟩
  refine List.forall_mem_cons.mpr ⟨(hts _ (gw_t 1126 (by decide +kernel) rfl)), ?_⟩
  refine List.forall_mem_cons.mpr ⟨h6.lays, ?_⟩
  refine List.forall_mem_cons.mpr ⟨(hts _ (gw_t 1116 (by decide +kernel) rfl)), ?_⟩
  refine List.forall_mem_cons.mpr ⟨(hts _ (gw_t 1297 (by decide +kernel) rfl)), ?_⟩
  refine List.forall_mem_cons.mpr ⟨(hts _ (gw_t 1298 (by decide +kernel) rfl)), ?_⟩
  refine List.forall_mem_cons.mpr ⟨(hts _ (gw_t 1299 (by decide +kernel) rfl)), ?_⟩
  refine List.forall_mem_cons.mpr ⟨(hts _ (gw_t 1142 (by decide +kernel) rfl)), ?_⟩
  refine List.forall_mem_cons.mpr ⟨(va_Nw.use rfl (h1 _ (gn_t 1101 (by decide +kernel) rfl))), ?_⟩
  refine List.forall_mem_cons.mpr ⟨(hts _ (gw_t 1142 (by decide +kernel) rfl)), ?_⟩
  refine List.forall_mem_cons.mpr ⟨(hts _ (gw_t 1143 (by decide +kernel) rfl)), ?_⟩
  refine List.forall_mem_cons.mpr ⟨(hts _ (gw_t 1144 (by decide +kernel) rfl)), ?_⟩
  refine List.forall_mem_cons.mpr ⟨(hts _ (gw_t 1145 (by decide +kernel) rfl)), ?_⟩
  refine List.forall_mem_cons.mpr ⟨(va_Nw.use rfl (h1 _ (gn_t 1103 (by decide +kernel) rfl))), ?_⟩
  refine List.forall_mem_cons.mpr ⟨(hts _ (gw_t 1145 (by decide +kernel) rfl)), ?_⟩
  refine List.forall_mem_cons.mpr ⟨(hts _ (gw_t 1146 (by decide +kernel) rfl)), ?_⟩
  refine List.forall_mem_cons.mpr ⟨(hts _ (gw_t 1147 (by decide +kernel) rfl)), ?_⟩
  refine List.forall_mem_cons.mpr ⟨(hts _ (gw_t 1121 (by decide +kernel) rfl)), ?_⟩
  refine List.forall_mem_cons.mpr ⟨(va_Nw.use rfl (h1 _ (gn_t 1105 (by decide +kernel) rfl))), ?_⟩
  refine List.forall_mem_cons.mpr ⟨(hts _ (gw_t 1296 (by decide +kernel) rfl)), ?_⟩
  refine List.forall_mem_cons.mpr ⟨(hts _ (gw_t 1288 (by decide +kernel) rfl)), ?_⟩
  refine List.forall_mem_cons.mpr ⟨(va_Nw.use rfl (h1 _ (gn_t 1289 (by decide +kernel) rfl))), ?_⟩
  refine List.forall_mem_cons.mpr ⟨(hts _ (gw_t 1290 (by decide +kernel) rfl)), ?_⟩
  refine List.forall_mem_cons.mpr ⟨(hts _ (gw_t 1131 (by decide +kernel) rfl)), ?_⟩
  refine List.forall_mem_cons.mpr ⟨(hts _ (gw_t 1291 (by decide +kernel) rfl)), ?_⟩
  refine List.forall_mem_cons.mpr ⟨(hts _ (gw_t 1292 (by decide +kernel) rfl)), ?_⟩
  refine List.forall_mem_cons.mpr ⟨(hts _ (gw_t 1293 (by decide +kernel) rfl)), ?_⟩
  refine List.forall_mem_cons.mpr ⟨(hts _ (gw_t 1294 (by decide +kernel) rfl)), ?_⟩
  refine List.forall_mem_cons.mpr ⟨h5.isRef, ?_⟩
  refine List.forall_mem_cons.mpr ⟨h6.isRef, ?_⟩
  refine List.forall_mem_cons.mpr ⟨(hts _ (gw_t 1119 (by decide +kernel) rfl)), ?_⟩
  refine List.forall_mem_cons.mpr ⟨(hts _ (gw_t 1118 (by decide +kernel) rfl)), ?_⟩
  refine List.forall_mem_cons.mpr ⟨(hts _ (gw_t 1295 (by decide +kernel) rfl)), ?_⟩
  exact fun a ha => by cases ha
