section ZM
variable {p : Program} {l : Launch} {e : Env} {R : Room} {s : State} {m : MethodId} {args : Array Value} {below : List Frame} {meth : Method} {c : Code} {Q : State → Prop}
variable {cc : ByteArray} {nL : Nat} {own : String} {D : va_G} {tA : Nat → ClassId} {b : Nat} {f : zV} {n cells slots pc : Nat} {L : List (Nat × Value)} {st : List Value}
theorem zr_get (F : zF p s m args meth c cc nL own D tA b) {ref C : String} {T : u_T} {N index k : Nat} {fs : List Value} {v : Value} (ci j : Nat) (hd : decode cc pc = .ok (.getfield index, 3)) (hf : f k = some (.inr (ci, fs))) (hc : classes[ci]? = some (C, T, N)) (hj : j < N) (hlink : Cond.fieldLink own index ref (T j).2.1 (T j).2.2.1 ∈ gw) (href : (T j).1 = ref) (hv : fs[j]? = some v) (kk : Z p l e R s m args below meth c D b nL Q f n cells slots (pc + 3) L (v :: st)) : Z p l e R s m args below meth c D b nL Q f n cells slots pc L (.ref (b + k) :: st) := fun H locs ls hH hS hL =>
  va_get (D := D) (cl := classes) (tys := zt tA) (ws := [(b + k, .inr (ci, fs))]) (Ts := gw) F.hx F.hb F.hts (zk_in hc) F.hown F.hK (hH.one hf) 0 rfl hc j hj (F.hts _ hlink) (fun x h => by rw [← href]; exact h) hv hd (kk H locs ls hH hS hL)
theorem zr_getN (F : zF p s m args meth c cc nL own D tA b) {host : String} {ref C : String} {T : u_T} {N index k : Nat} {fs : List Value} {v : Value} (ci j : Nat) (hd : decode cc pc = .ok (.getfield index, 3)) (hf : f k = some (.inr (ci, fs))) (hc : classes[ci]? = some (C, T, N)) (hj : j < N) (hlink : Cond.fieldLinkNest own index ref (T j).2.1 (T j).2.2.1 host ∈ gn) (href : (T j).1 = ref) (hv : fs[j]? = some v) (kk : Z p l e R s m args below meth c D b nL Q f n cells slots (pc + 3) L (v :: st)) : Z p l e R s m args below meth c D b nL Q f n cells slots pc L (.ref (b + k) :: st) := fun H locs ls hH hS hL =>
  va_getN (D := D) (cl := classes) (tys := zt tA) (ws := [(b + k, .inr (ci, fs))]) (Ts := gw) F.hx F.hb F.hts (zk_in hc) F.hown F.hK (hH.one hf) 0 rfl hc j hj (va_Nw.use rfl (F.hG.1 _ hlink)) (fun x h => by rw [← href]; exact h) hv hd (kk H locs ls hH hS hL)
theorem zr_put0 {C : String} {T : u_T} {N k : Nat} {fs : List Value} {v : Value} (ci j : Nat) (F : zF p s m args meth c cc nL own D tA b) (hf : f k = some (.inr (ci, fs))) (hc : classes[ci]? = some (C, T, N)) (hl : j < fs.length) (hj : j < N) {H H1 : Heap} {cell : Cell} {fd : Field} (hH : zH D b f n H) (q2 : cell.cls = D.1 ci) (q3 : cell.vm = .none) (q4 : ∀ k, k < N → cell.slots[D.2 ci k]? = some (vp_V fs k)) (hsl : fd.slot = D.2 ci j) (e1 : H1[b + k]? = some (cell.setSlot fd.slot v)) (e2 : H1.size = H.size) (e3 : ∀ q, q ≠ b + k → H1[q]? = H[q]?) : zH D b (zu f k (.inr (ci, fs.set j v))) n H1 := by
  have hap := va_apart (own := own) F.hts (zk_in hc) (zk_ty ci) (zk_tok hc) (zk_nm hc) F.hK hc
  rw [hsl] at e1
  exact hH.set e2 ⟨_, hc, t_OB.to (V := updV (vp_V fs) j v) ⟨_, e1, q2, q3, t_set q4 hap hj v⟩ (fun i _ => vp_updV_set hl v i)⟩ e3
theorem zr_put (F : zF p s m args meth c cc nL own D tA b) {ref C : String} {T : u_T} {N index k : Nat} {fs : List Value} {v : Value} (ci j : Nat) (hd : decode cc pc = .ok (.putfield index, 3)) (hf : f k = some (.inr (ci, fs))) (hc : classes[ci]? = some (C, T, N)) (hj : j < N) (hlink : Cond.fieldLink own index ref (T j).2.1 (T j).2.2.1 ∈ gw) (href : (T j).1 = ref) (hfin : (T j).2.2.2 = false) (hn : narrow (zk_ty ci j) v = v) (hfit : fits (zk_ty ci j) v = true) (hl : j < fs.length) (kk : Z p l e R s m args below meth c D b nL Q (zu f k (.inr (ci, fs.set j v))) n cells slots (pc + 3) L st) : Z p l e R s m args below meth c D b nL Q f n cells slots pc L (v :: .ref (b + k) :: st) := by
  intro H locs ls hH hS hL
  obtain ⟨r, h1, cell, q1, q2, q3, q4⟩ := hH.2 k _ hf
  have hr : r = (C, T, N) := Option.some.inj (h1.symm.trans hc)
  subst hr
  obtain ⟨hSl, hfc, kC, hkC, hkind⟩ := F.hK.1 ci _ hc
  obtain ⟨cf, kf, fi, fd, hi, hsl⟩ := hSl j hj
  have hlay := F.hts _ (zk_in hc _ (u_in_lay hj))
  unfold u_lay at hlay
  rw [if_neg (by rw [hfin]; decide)] at hlay
  have hst := (u_facts hfc hkC (u_lays F.hts (zk_in hc) hj) hi).1
  have h6 := u_store hfc hkC hkind hlay hi (zk_tok hc j hj) hn hfit
  refine W.putK F.hx F.hb (f := fd) ⟨F.hown, F.hts _ hlink, ⟨_, _, _, href ▸ hi⟩, hst⟩ (by rw [q2]; exact h6) q1 q3 (by rw [hsl]; exact k2_hasslot (q4 j hj)) rfl rfl hd fun H' e1 e2 e3 => ?_
  exact kk H' _ ls (zr_put0 ci j F hf hc hl hj hH q2 q3 q4 hsl e1 e2 e3) (hS.put e2 e3 (Nat.le_add_right b k)) hL
theorem zr_putN (F : zF p s m args meth c cc nL own D tA b) {host : String} {ref C : String} {T : u_T} {N index k : Nat} {fs : List Value} {v : Value} (ci j : Nat) (hd : decode cc pc = .ok (.putfield index, 3)) (hf : f k = some (.inr (ci, fs))) (hc : classes[ci]? = some (C, T, N)) (hj : j < N) (hlink : Cond.fieldLinkNest own index ref (T j).2.1 (T j).2.2.1 host ∈ gn) (href : (T j).1 = ref) (hfin : (T j).2.2.2 = false) (hn : narrow (zk_ty ci j) v = v) (hfit : fits (zk_ty ci j) v = true) (hl : j < fs.length) (kk : Z p l e R s m args below meth c D b nL Q (zu f k (.inr (ci, fs.set j v))) n cells slots (pc + 3) L st) : Z p l e R s m args below meth c D b nL Q f n cells slots pc L (v :: .ref (b + k) :: st) := by
  intro H locs ls hH hS hL
  obtain ⟨r, h1, cell, q1, q2, q3, q4⟩ := hH.2 k _ hf
  have hr : r = (C, T, N) := Option.some.inj (h1.symm.trans hc)
  subst hr
  obtain ⟨hSl, hfc, kC, hkC, hkind⟩ := F.hK.1 ci _ hc
  obtain ⟨cf, kf, fi, fd, hi, hsl⟩ := hSl j hj
  have hlay := F.hts _ (zk_in hc _ (u_in_lay hj))
  unfold u_lay at hlay
  rw [if_neg (by rw [hfin]; decide)] at hlay
  have hst := (u_facts hfc hkC (u_lays F.hts (zk_in hc) hj) hi).1
  have h6 := u_store hfc hkC hkind hlay hi (zk_tok hc j hj) hn hfit
  refine va_WputK F.hx F.hb (f := fd) F.hown (va_Nw.use rfl (F.hG.1 _ hlink)) (href ▸ hi) hst (by rw [q2]; exact h6) q1 q3 (by rw [hsl]; exact k2_hasslot (q4 j hj)) rfl rfl hd fun H' e1 e2 e3 => ?_
  exact kk H' _ ls (zr_put0 ci j F hf hc hl hj hH q2 q3 q4 hsl e1 e2 e3) (hS.put e2 e3 (Nat.le_add_right b k)) hL
theorem zr_putF (F : zF p s m args meth c cc nL own D tA b) {ref C : String} {T : u_T} {N index k : Nat} {fs : List Value} {v : Value} (ci j : Nat) (hd : decode cc pc = .ok (.putfield index, 3)) (hf : f k = some (.inr (ci, fs))) (hc : classes[ci]? = some (C, T, N)) (hj : j < N) (hlink : Cond.fieldLink own index ref (T j).2.1 (T j).2.2.1 ∈ gw) (href : (T j).1 = ref) (hfin : (T j).2.2.2 = true) (hini : meth.name = "<init>") (hdecl : (T j).1 = own) (hn : narrow (zk_ty ci j) v = v) (hfit : fits (zk_ty ci j) v = true) (hl : j < fs.length) (kk : Z p l e R s m args below meth c D b nL Q (zu f k (.inr (ci, fs.set j v))) n cells slots (pc + 3) L st) : Z p l e R s m args below meth c D b nL Q f n cells slots pc L (v :: .ref (b + k) :: st) := by
  intro H locs ls hH hS hL
  obtain ⟨r, h1, cell, q1, q2, q3, q4⟩ := hH.2 k _ hf
  have hr : r = (C, T, N) := Option.some.inj (h1.symm.trans hc)
  subst hr
  obtain ⟨hSl, hfc, kC, hkC, hkind⟩ := F.hK.1 ci _ hc
  obtain ⟨cf, kf, fi, fd, hi, hsl⟩ := hSl j hj
  have hlay := F.hts _ (zk_in hc _ (u_in_lay hj))
  unfold u_lay at hlay
  rw [if_pos hfin] at hlay
  have hst := (u_facts hfc hkC (u_lays F.hts (zk_in hc) hj) hi).1
  have hcf : m.cls = cf := by
    obtain ⟨_, _, c', _, _, _, -, -, hf', -, -, -, hown2, -⟩ := Cond.laysFinal_spec hlay
    have e1 : c' = cf := by have := hi.symm.trans hf'; simp at this; exact this.1.symm
    rw [hdecl] at hown2
    rw [← e1]; exact Option.some.inj (F.hown.symm.trans hown2)
  have h6 := u_fits hfc hkC hkind (Or.inr hlay) hi (zk_tok hc j hj) hn hfit
  refine W.putFinK F.hx F.hb F.hown (F.hts _ hlink) (href ▸ hi) hst hcf hini (by rw [q2]; exact h6) q1 q3 (by rw [hsl]; exact k2_hasslot (q4 j hj)) rfl rfl hd fun H' e1 e2 e3 => ?_
  exact kk H' _ ls (zr_put0 ci j F hf hc hl hj hH q2 q3 q4 hsl e1 e2 e3) (hS.put e2 e3 (Nat.le_add_right b k)) hL
theorem zr_iald (F : zF p s m args meth c cc nL own D tA b) {k N : Nat} {g : Nat → Int32} {i : Int32} (hd : decode cc pc = .ok (.iaload, 1)) (hf : f k = some (.inl (tA 0, N, .inl g))) (hin : vp_in i N) (kk : Z p l e R s m args below meth c D b nL Q f n cells slots (pc + 1) L (.int (g i.toNatClampNeg) :: st)) : Z p l e R s m args below meth c D b nL Q f n cells slots pc L (.int i :: .ref (b + k) :: st) := fun H locs ls hH hS hL => by
  have hlt : i.toNatClampNeg < N := Nat.not_le.mp fun q => hin (Or.inr q)
  exact W.iald (v := .int (g i.toNatClampNeg)) F.hx F.hb (hH.2 k _ hf) ((F.hK.2 0 _ rfl).1 N (fun j => .int (g j))) (fun q => by cases q) (by show ¬ (i < 0 ∨ (arrV _ _ _).slots.size ≤ _); rw [arrV_size]; exact hin) (by show (arrV _ _ _).slots[_]? = _; rw [arrV_read _ _ hlt]) rfl rfl hd (kk H locs ls hH hS hL)
theorem zr_iast (F : zF p s m args meth c cc nL own D tA b) {k N : Nat} {g : Nat → Int32} {i : Int32} {x : Int32} (hd : decode cc pc = .ok (.iastore, 1)) (hf : f k = some (.inl (tA 0, N, .inl g))) (hin : vp_in i N) (kk : Z p l e R s m args below meth c D b nL Q (zu f k (.inl (tA 0, N, .inl (upd g i.toNatClampNeg x)))) n cells slots (pc + 1) L st) : Z p l e R s m args below meth c D b nL Q f n cells slots pc L (.int x :: .int i :: .ref (b + k) :: st) := fun H locs ls hH hS hL => by
  refine W.iast F.hx F.hb (hH.2 k _ hf) ((F.hK.2 0 _ rfl).1 N (fun j => .int (g j))) (fun q => by cases q) (by show ¬ (i < 0 ∨ (arrV _ _ _).slots.size ≤ _); rw [arrV_size]; exact hin) rfl rfl hd fun H1 e z oq => ?_
  refine kk H1 _ ls (hH.set z ?_ oq) (hS.put z oq (Nat.le_add_right b k)) hL
  show H1[b + k]? = some (vp_cell _ _)
  rw [e]
  rw [vp_cell_i, vp_cell_i, arrV_store]
  congr 2
  funext q
  by_cases hq : q = i.toNatClampNeg
  · subst hq
    simp [updV, upd, vp_nar]
    try rfl
  · simp [updV, upd, hq]
theorem zr_bald (F : zF p s m args meth c cc nL own D tA b) {k N : Nat} {g : Nat → Int32} {i : Int32} (hd : decode cc pc = .ok (.baload, 1)) (hf : f k = some (.inl (tA 1, N, .inl g))) (hin : vp_in i N) (kk : Z p l e R s m args below meth c D b nL Q f n cells slots (pc + 1) L (.int (g i.toNatClampNeg) :: st)) : Z p l e R s m args below meth c D b nL Q f n cells slots pc L (.int i :: .ref (b + k) :: st) := fun H locs ls hH hS hL => by
  have hlt : i.toNatClampNeg < N := Nat.not_le.mp fun q => hin (Or.inr q)
  exact W.bald (v := .int (g i.toNatClampNeg)) F.hx F.hb (hH.2 k _ hf) ((F.hK.2 1 _ rfl).1 N (fun j => .int (g j))) (fun q => by cases q) (by show ¬ (i < 0 ∨ (arrV _ _ _).slots.size ≤ _); rw [arrV_size]; exact hin) (by show (arrV _ _ _).slots[_]? = _; rw [arrV_read _ _ hlt]) rfl rfl hd (kk H locs ls hH hS hL)
theorem zr_bast (F : zF p s m args meth c cc nL own D tA b) {k N : Nat} {g : Nat → Int32} {i : Int32} {x : Int32} (hd : decode cc pc = .ok (.bastore, 1)) (hf : f k = some (.inl (tA 1, N, .inl g))) (hin : vp_in i N) (kk : Z p l e R s m args below meth c D b nL Q (zu f k (.inl (tA 1, N, .inl (upd g i.toNatClampNeg (vp_nar .byte x))))) n cells slots (pc + 1) L st) : Z p l e R s m args below meth c D b nL Q f n cells slots pc L (.int x :: .int i :: .ref (b + k) :: st) := fun H locs ls hH hS hL => by
  refine W.bast F.hx F.hb (hH.2 k _ hf) ((F.hK.2 1 _ rfl).1 N (fun j => .int (g j))) (fun q => by cases q) (by show ¬ (i < 0 ∨ (arrV _ _ _).slots.size ≤ _); rw [arrV_size]; exact hin) rfl rfl hd fun H1 e z oq => ?_
  refine kk H1 _ ls (hH.set z ?_ oq) (hS.put z oq (Nat.le_add_right b k)) hL
  show H1[b + k]? = some (vp_cell _ _)
  rw [e]
  rw [vp_cell_i, vp_cell_i, arrV_store]
  congr 2
  funext q
  by_cases hq : q = i.toNatClampNeg
  · subst hq
    simp [updV, upd, vp_nar]
    try rfl
  · simp [updV, upd, hq]
theorem zr_lald (F : zF p s m args meth c cc nL own D tA b) {k N : Nat} {g : Nat → Int64} {i : Int32} (hd : decode cc pc = .ok (.laload, 1)) (hf : f k = some (.inl (tA 2, N, .inr (.inl g)))) (hin : vp_in i N) (kk : Z p l e R s m args below meth c D b nL Q f n cells slots (pc + 1) L (.long (g i.toNatClampNeg) :: st)) : Z p l e R s m args below meth c D b nL Q f n cells slots pc L (.int i :: .ref (b + k) :: st) := fun H locs ls hH hS hL => by
  have hlt : i.toNatClampNeg < N := Nat.not_le.mp fun q => hin (Or.inr q)
  exact W.lald (v := .long (g i.toNatClampNeg)) F.hx F.hb (hH.2 k _ hf) ((F.hK.2 2 _ rfl).1 N (fun j => .long (g j))) (fun q => by cases q) (by show ¬ (i < 0 ∨ (arrV _ _ _).slots.size ≤ _); rw [arrV_size]; exact hin) (by show (arrV _ _ _).slots[_]? = _; rw [arrV_read _ _ hlt]) rfl rfl hd (kk H locs ls hH hS hL)
theorem zr_last (F : zF p s m args meth c cc nL own D tA b) {k N : Nat} {g : Nat → Int64} {i : Int32} {x : Int64} (hd : decode cc pc = .ok (.lastore, 1)) (hf : f k = some (.inl (tA 2, N, .inr (.inl g)))) (hin : vp_in i N) (kk : Z p l e R s m args below meth c D b nL Q (zu f k (.inl (tA 2, N, .inr (.inl (vp_updL g i.toNatClampNeg x))))) n cells slots (pc + 1) L st) : Z p l e R s m args below meth c D b nL Q f n cells slots pc L (.long x :: .int i :: .ref (b + k) :: st) := fun H locs ls hH hS hL => by
  refine W.last F.hx F.hb (hH.2 k _ hf) ((F.hK.2 2 _ rfl).1 N (fun j => .long (g j))) (fun q => by cases q) (by show ¬ (i < 0 ∨ (arrV _ _ _).slots.size ≤ _); rw [arrV_size]; exact hin) rfl rfl hd fun H1 e z oq => ?_
  refine kk H1 _ ls (hH.set z ?_ oq) (hS.put z oq (Nat.le_add_right b k)) hL
  show H1[b + k]? = some (vp_cell _ _)
  rw [e]
  rw [vp_cell_l, vp_cell_l, arrV_store]
  congr 2
  funext q
  by_cases hq : q = i.toNatClampNeg
  · subst hq
    simp [updV, vp_updL, vp_nar]
    try rfl
  · simp [updV, vp_updL, hq]
theorem zr_zald (F : zF p s m args meth c cc nL own D tA b) {k N : Nat} {g : Nat → Int32} {i : Int32} (hd : decode cc pc = .ok (.baload, 1)) (hf : f k = some (.inl (tA 3, N, .inl g))) (hin : vp_in i N) (kk : Z p l e R s m args below meth c D b nL Q f n cells slots (pc + 1) L (.int (g i.toNatClampNeg) :: st)) : Z p l e R s m args below meth c D b nL Q f n cells slots pc L (.int i :: .ref (b + k) :: st) := fun H locs ls hH hS hL => by
  have hlt : i.toNatClampNeg < N := Nat.not_le.mp fun q => hin (Or.inr q)
  exact W.zald (v := .int (g i.toNatClampNeg)) F.hx F.hb (hH.2 k _ hf) ((F.hK.2 3 _ rfl).1 N (fun j => .int (g j))) (fun q => by cases q) (by show ¬ (i < 0 ∨ (arrV _ _ _).slots.size ≤ _); rw [arrV_size]; exact hin) (by show (arrV _ _ _).slots[_]? = _; rw [arrV_read _ _ hlt]) rfl rfl hd (kk H locs ls hH hS hL)
theorem zr_zast (F : zF p s m args meth c cc nL own D tA b) {k N : Nat} {g : Nat → Int32} {i : Int32} {x : Int32} (hd : decode cc pc = .ok (.bastore, 1)) (hf : f k = some (.inl (tA 3, N, .inl g))) (hin : vp_in i N) (kk : Z p l e R s m args below meth c D b nL Q (zu f k (.inl (tA 3, N, .inl (upd g i.toNatClampNeg (vp_nar .boolean x))))) n cells slots (pc + 1) L st) : Z p l e R s m args below meth c D b nL Q f n cells slots pc L (.int x :: .int i :: .ref (b + k) :: st) := fun H locs ls hH hS hL => by
  refine W.zast F.hx F.hb (hH.2 k _ hf) ((F.hK.2 3 _ rfl).1 N (fun j => .int (g j))) (fun q => by cases q) (by show ¬ (i < 0 ∨ (arrV _ _ _).slots.size ≤ _); rw [arrV_size]; exact hin) rfl rfl hd fun H1 e z oq => ?_
  refine kk H1 _ ls (hH.set z ?_ oq) (hS.put z oq (Nat.le_add_right b k)) hL
  show H1[b + k]? = some (vp_cell _ _)
  rw [e]
  rw [vp_cell_i, vp_cell_i, arrV_store]
  congr 2
  funext q
  by_cases hq : q = i.toNatClampNeg
  · subst hq
    simp [updV, upd, vp_nar]
    try rfl
  · simp [updV, upd, hq]
theorem zr_alen (F : zF p s m args meth c cc nL own D tA b) {k : Nat} {x : vp_A} {v : Int32} {cA : ClassId} {ty : FieldType} (t0 : Nat) (hd : decode cc pc = .ok (.arraylength, 1)) (hf : f k = some (.inl (cA, x))) (ht : (zt tA)[t0]? = some (cA, ty)) (hv : Int32.ofNat x.1 = v) (kk : Z p l e R s m args below meth c D b nL Q f n cells slots (pc + 1) L (.int v :: st)) : Z p l e R s m args below meth c D b nL Q f n cells slots pc L (.ref (b + k) :: st) := fun H locs ls hH hS hL =>
  va_alen (cl := classes) F.hx F.hb F.hK (hH.one hf) 0 t0 rfl ht hv hd (kk H locs ls hH hS hL)
theorem zr_aald (F : zF p s m args meth c cc nL own D tA b) {k N : Nat} {g : Nat → Option Nat} {i : Int32} {cA : ClassId} {ty : FieldType} (t0 : Nat) (hd : decode cc pc = .ok (.aaload, 1)) (hf : f k = some (.inl (cA, N, .inr (.inr (.inr (.inr g)))))) (ht : (zt tA)[t0]? = some (cA, ty)) (hr : ty.isReference = true) (hin : vp_in i N) {v : Value} (hv : va_rf (g i.toNatClampNeg) = v) (kk : Z p l e R s m args below meth c D b nL Q f n cells slots (pc + 1) L (v :: st)) : Z p l e R s m args below meth c D b nL Q f n cells slots pc L (.int i :: .ref (b + k) :: st) := fun H locs ls hH hS hL => by
  have hlt : i.toNatClampNeg < N := Nat.not_le.mp fun q => hin (Or.inr q)
  subst hv
  exact W.aald (v := va_rf (g i.toNatClampNeg)) (ty := ty) F.hx F.hb (hH.2 k _ hf) ((F.hK.2 t0 _ ht).1 N (fun j => va_rf (g j))) hr (fun q => by cases q) (by show ¬ (i < 0 ∨ (arrV _ _ _).slots.size ≤ _); rw [arrV_size]; exact hin) (by show (arrV _ _ _).slots[_]? = _; rw [arrV_read _ _ hlt]) rfl rfl hd (kk H locs ls hH hS hL)
theorem zr_aast (F : zF p s m args meth c cc nL own D tA b) {k N v ci : Nat} {g : Nat → Option Nat} {i : Int32} {cA : ClassId} {q : vw_C} {vs : List Value} (t0 : Nat) (hd : decode cc pc = .ok (.aastore, 1)) (hf : f k = some (.inl (cA, N, .inr (.inr (.inr (.inr g)))))) (ht : (zt tA)[t0]? = some (cA, .object q.1)) (hv : f v = some (.inr (ci, vs))) (hc : classes[ci]? = some q) (hin : vp_in i N) (kk : Z p l e R s m args below meth c D b nL Q (zu f k (.inl (cA, N, .inr (.inr (.inr (.inr (va_up g i.toNatClampNeg (some (b + v)))))))) ) n cells slots (pc + 1) L st) : Z p l e R s m args below meth c D b nL Q f n cells slots pc L (.ref (b + v) :: .int i :: .ref (b + k) :: st) := fun H locs ls hH hS hL => by
  have hlt : i.toNatClampNeg < N := Nat.not_le.mp fun z => hin (Or.inr z)
  have h0 : ¬ i < 0 := fun z => hin (Or.inl z)
  obtain ⟨r', hr', cellV, g1, g2, g3, -⟩ := hH.2 v _ hv
  have hcls := (F.hK.1 ci q hc).2
  obtain ⟨kA, comp, k1, k2, k3, -⟩ := (F.hK.2 t0 _ ht).2
  have hcomp : comp = D.1 ci := Option.some.inj (k3.symm.trans hcls.1)
  subst hcomp
  obtain ⟨kC, hkC, -⟩ := hcls.2
  refine W.aast F.hx F.hb (hH.2 k _ hf) (fun q h => by cases h) (fun h => by cases h) k1 k2 rfl hkC ⟨h0, by show _ < (arrV _ _ _).slots.size; rw [arrV_size]; exact hlt⟩ g1 (fun q h => by rw [g3] at h; cases h) (by rw [g2]; exact hkC) (by rw [g2]; exact va_assign hcls) rfl rfl hd fun H1 e z oq => ?_
  refine kk H1 _ ls (hH.set z ?_ oq) (hS.put z oq (Nat.le_add_right b k)) hL
  show H1[b + k]? = some (vp_cell _ _)
  rw [e]
  rw [vp_cell_q, vp_cell_q, arrV_store]
  congr 2
  funext w
  by_cases hq : w = i.toNatClampNeg
  · subst hq
    simp [updV, va_up, va_rf]
  · simp [updV, va_up, hq]
/-- a new object -/
theorem zr_new (F : zF p s m args meth c cc nL own D tA b) {C : String} {T : u_T} {N index : Nat} {fs : List Value} (ci : Nat) (hd : decode cc pc = .ok (.new index, 3)) (hc : classes[ci]? = some (C, T, N)) (h1 : Cond.classLink own index C ∈ gw) (h2 : Cond.instantiable C N ∈ gw) (h3 : Cond.initialized C ∈ gw) (hfs : ∀ j, j < N → defaultValue (zk_ty ci j) = vp_V fs j) (hcells : cells + 1 ≤ R.cells) (hslots : slots + N ≤ R.slots) (kk : Z p l e R s m args below meth c D b nL Q (zu f n (.inr (ci, fs))) (n + 1) (cells + 1) (slots + N) (pc + 3) L (.ref (b + n) :: st)) : Z p l e R s m args below meth c D b nL Q f n cells slots pc L st := fun H locs ls hH hS hL => by
  have hKn := F.hK.1 ci _ hc
  refine W.newcK F.hx F.hb F.hown (F.hts _ h1) (F.hts _ h2) (F.hts _ h3) rfl hd hcells hslots hKn.2.1 hH.1 fun H1 kC hkC e1 z1 o1 => ?_
  have hz : H1.size = H.size + 1 := by rw [z1, hH.1]
  have ho : ∀ q : Nat, q < H.size → H1[q]? = H[q]? := fun q hq => o1 q (by rw [← hH.1]; exact hq)
  exact kk H1 _ ls (hH.push hz ⟨_, hc, (u_born (zk_ty ci) F.hts (zk_in hc) hKn hkC e1 (zk_tok hc)).to hfs⟩ ho) ⟨Nat.le_trans hS.1 (by omega), fun x h1 h2 => (ho x (Nat.lt_of_lt_of_le h1 hS.1)).trans (hS.2.1 x h1 h2), hS.2.2⟩ hL
/-- a new array of numbers -/
theorem zr_newa (F : zF p s m args meth c cc nL own D tA b) {atype : ArrayType} {ty : FieldType} {i : Int32} {N : Nat} {a0 : vp_A} (t0 : Nat) (hd : decode cc pc = .ok (.newarray atype, 2)) (hty : newarray.typeOf atype = ty) (ht : (zt tA)[t0]? = some (tA t0, ty)) (hw : Cond.arrayClass ty ∈ gw) (ha : ∀ cA : ClassId, vp_cell cA a0 = arrV cA N (fun _ => defaultValue ty)) (hn : ¬ i < 0) (hN : i.toNatClampNeg = N) (hbytes : N * componentBytes ty ≤ 536870912) (hcells : cells + 1 ≤ R.cells) (hslots : slots + N ≤ R.slots) (kk : Z p l e R s m args below meth c D b nL Q (zu f n (.inl (tA t0, a0))) (n + 1) (cells + 1) (slots + N) (pc + 2) L (.ref (b + n) :: st)) : Z p l e R s m args below meth c D b nL Q f n cells slots pc L (.int i :: st) := fun H locs ls hH hS hL => by
  subst hty
  refine va_newaK F.hx F.hb (F.hts _ hw) rfl hd rfl hn hN hbytes hcells hslots hH.1 fun H1 cA e1 z1 o1 hAr hNm => ?_
  have hA : cA = tA t0 := by
    have h1 := (F.hK.2 t0 _ ht).2
    cases atype <;> exact Option.some.inj (hNm.symm.trans h1)
  subst hA
  have hz : H1.size = H.size + 1 := by rw [z1, hH.1]
  have ho : ∀ q : Nat, q < H.size → H1[q]? = H[q]? := fun q hq => o1 q (by rw [← hH.1]; exact hq)
  exact kk H1 _ ls (hH.push hz (by show H1[b + n]? = some (vp_cell _ _); rw [ha]; exact e1) ho) ⟨Nat.le_trans hS.1 (by omega), fun x h1 h2 => (ho x (Nat.lt_of_lt_of_le h1 hS.1)).trans (hS.2.1 x h1 h2), hS.2.2⟩ hL
/-- a new array of objects -/
theorem zr_anew (F : zF p s m args meth c cc nL own D tA b) {C : String} {index : Nat} {i : Int32} {N : Nat} (t0 : Nat) (hd : decode cc pc = .ok (.anewarray index, 3)) (ht : (zt tA)[t0]? = some (tA t0, .object C)) (h1 : Cond.classLink own index C ∈ gw) (h2 : va_AO C s) (hn : ¬ i < 0) (hN : i.toNatClampNeg = N) (hbytes : N * 4 ≤ 536870912) (hcells : cells + 1 ≤ R.cells) (hslots : slots + N ≤ R.slots) (kk : Z p l e R s m args below meth c D b nL Q (zu f n (.inl (tA t0, N, .inr (.inr (.inr (.inr (fun _ => none))))))) (n + 1) (cells + 1) (slots + N) (pc + 3) L (.ref (b + n) :: st)) : Z p l e R s m args below meth c D b nL Q f n cells slots pc L (.int i :: st) := fun H locs ls hH hS hL => by
  subst hN
  refine W.anew F.hx F.hb F.hown (F.hts _ h1) (va_AO.use h2) rfl hd rfl hn hbytes hcells hslots fun cA kA comp f1 f2 f3 f4 => ?_
  have hA : cA = tA t0 := by
    obtain ⟨_, _, -, -, -, h4⟩ := (F.hK.2 t0 _ ht).2
    exact Option.some.inj (f1.symm.trans h4)
  subst hA
  generalize hH1 : H.push _ = H1
  have hz : H1.size = H.size + 1 := by rw [← hH1, Array.size_push]
  have ho : ∀ q : Nat, q < H.size → H1[q]? = H[q]? := fun q hq => by rw [← hH1, Array.getElem?_push, if_neg (Nat.ne_of_lt hq)]
  have hq : H.size = b + n := hH.1
  rw [hq]
  refine kk H1 _ ls (hH.push hz ?_ ho) ⟨Nat.le_trans hS.1 (by omega), fun x h1 h2 => (ho x (Nat.lt_of_lt_of_le h1 hS.1)).trans (hS.2.1 x h1 h2), hS.2.2⟩ hL
  show H1[b + n]? = some (vp_cell _ _)
  rw [vp_cell_q, ← hq, ← hH1, Array.getElem?_push_size, ← arrV_new]
  rfl
theorem zr_objInit (F : zF p s m args meth c cc nL own D tA b) {idx k : Nat} (hd : decode cc pc = .ok (.invokespecial idx, 3)) (h1 : Cond.methodLink own idx objectInit ∈ gw) (h2 : Cond.instanceMethod objectInit ∈ gw) (h3 : Cond.code objectInit ⟨#[0xb1]⟩ 1 none ∈ gw) (hfr : 1 ≤ R.frames) (hlo : (st.map fun v => v.category).sum + 12 ≤ R.locals) (kk : Z p l e R s m args below meth c D b nL Q f n cells slots (pc + 3) L st) : Z p l e R s m args below meth c D b nL Q f n cells slots pc L (.ref k :: st) := fun H locs ls hH hS hL => by
  refine W.objInit F.hx F.hb F.hown (F.hts _ h1) (F.hts _ h2) (F.hts _ h3) rfl (by rw [F.hml]; exact hL.1) rfl hd hfr ?_ (kk H locs ls hH hS hL)
  show 2 * (F0 m pc ls (.ref k :: st)).monitorRoom + _ + 12 ≤ _
  have h0 : (F0 m pc ls (.ref k :: st)).monitorRoom = 0 := rfl
  rw [h0]
  omega
end ZM
/-! contracts and calls -/
def zP (D : va_G) (tA : Nat → ClassId) (b : Nat) (av : List Value) (f : zV) (n : Nat) : Array Value → State → Prop := fun a U => a = av.toArray ∧ zH D b f n U.heap ∧ va_K D classes (zt tA) U ∧ zG D b U U.heap
def zQ (D : va_G) (b : Nat) (post : Option Value → zV → Nat → Prop) : Array Value → State → Outcome → State → Prop := fun _ st oc t => ∃ (v : Option Value) (f' : zV) (n' : Nat), oc = .returned v ∧ post v f' n' ∧ zH D b f' n' t.heap ∧ va_F (fun q => b ≤ q) st t
def zM (l : Launch) (D : va_G) (tA : Nat → ClassId) (b : Nat) (y : MethodName) (bytes : ByteArray) (maxL : Nat) (ret : Option FieldType) (d lo mc ms : Nat) (av : List Value) (f : zV) (n : Nat) (post : Option Value → zV → Nat → Prop) : Prop := Met l y (Cond.code y bytes maxL ret :: gw) { frames := d, cells := mc, slots := ms, locals := lo } (zP D tA b av f n) (zQ D b post) mc ms (fun q => b ≤ q)
/-- the answer is r, the world behind is f1 with its next address n1 -/
abbrev zE (r : Option Value) (f1 : zV) (n1 : Nat) : Option Value → zV → Nat → Prop := fun v f' n' => v = r ∧ f' = f1 ∧ n' = n1
theorem zP_blind {D : va_G} {tA : Nat → ClassId} {b : Nat} {av : List Value} {f : zV} {n : Nat} : FrameBlind (zP D tA b av f n) := fun a U g mk h => ⟨h.1, h.2.1, va_K.moved (u := U) (U := U.calling g mk a) (Vm.Alike.refl U.vm) h.2.2.1, zG.same (u := U) (U := U.calling g mk a) rfl rfl h.2.2.2⟩
theorem gw_good : ∀ w ∈ gw, (w.onTables && w.keeps) = true ∨ ∃ ty, w = .arrayClass ty := fun w hw => good_of_word (List.mem_filter.mp hw).2
theorem gw_in {ws : List Cond} (h : ∀ w ∈ ws, w ∈ gw) : GoodIn gw ws := fun w hw => ⟨h w hw, gw_good w (h w hw)⟩
section ZC
variable {p : Program} {l : Launch} {e : Env} {R : Room} {s : State} {m : MethodId} {args : Array Value} {below : List Frame} {meth : Method} {c : Code} {Q : State → Prop}
variable {cc : ByteArray} {nL : Nat} {own : String} {D : va_G} {tA : Nat → ClassId} {b : Nat} {f : zV} {n cells slots pc : Nat} {L : List (Nat × Value)} {st : List Value}
variable {index maxL d lo mc ms k na : Nat} {y : MethodName} {bytes : ByteArray} {ret : Option FieldType} {As rest : List Value} {post : Option Value → zV → Nat → Prop}
theorem zP_pre (F : zF p s m args meth c cc nL own D tA b) {H : Heap} {locs : List Loc} (hH : zH D b f n H) (hS : va_S (fun q => b ≤ q) s.heap H locs) (av : List Value) : ∀ U : State, U.heap = H → s.WarmedH U.vm → zP D tA b av f n av.toArray U := fun U hU hW => ⟨rfl, by rw [hU]; exact hH, va_K.moved hW.alike F.hK, zG.to F.hG hS hU hW⟩
theorem zr_run {as' : Array Value} (hr : ∀ (H : Heap) (locs : List Loc) (ls : Array Slot), zH D b f n H → va_S (fun q => b ≤ q) s.heap H locs → lv_has ls nL L → va_Run p l e R s m args below meth c H locs cells slots mc ms (F0 m pc ls st) rest (zQ D b post as') (fun q => b ≤ q)) (kk : ∀ (v : Option Value) (f' : zV) (n' : Nat), post v f' n' → Z p l e R s m args below meth c D b nL Q f' n' (cells + mc) (slots + ms) (pc + 3) L (v.toList ++ rest)) : Z p l e R s m args below meth c D b nL Q f n cells slots pc L st := by
  intro H locs ls hH hS hL T hT X
  obtain ⟨v, st₀, t, T', Lc, h0, X', hLc, e1, e2, ⟨v', f', n', hv, hp, hz, hF⟩, go⟩ := hr H locs ls hH hS hL T hT X
  cases hv
  have hS' : va_S (fun q => b ≤ q) s.heap T'.heap (locs ++ Lc) := by
    refine ⟨Nat.le_trans hS.1 (by rw [e1, ← h0]; exact hF.1), fun q h1 h2 => ?_, fun q hq => ?_⟩
    · rw [e1, hF.2 q (by rw [h0]; exact Nat.lt_of_lt_of_le h1 hS.1) h2, h0]
      exact hS.2.1 q h1 h2
    · rcases List.mem_append.mp hq with h | h
      · exact hS.2.2 q h
      · exact hLc q h
  obtain ⟨t2, a1, b1⟩ := kk v f' n' hp T'.heap (locs ++ Lc) ls (by rw [e1]; exact hz) hS' hL T' rfl X'
  exact ⟨t2, go t2 a1, b1⟩
/-- the words of a call: linked, an instance's method, chosen, its class there, its code there -/
def zwV (own : String) (index : Nat) (C : String) (y : MethodName) (bytes : ByteArray) (maxL : Nat) (ret : Option FieldType) : Prop := Cond.methodLink own index y ∈ gw ∧ Cond.instanceMethod y ∈ gw ∧ Cond.selects C y y ∈ gw ∧ Cond.initialized C ∈ gw ∧ Cond.code y bytes maxL ret ∈ gw
def zwS (own : String) (index : Nat) (y : MethodName) (bytes : ByteArray) (maxL : Nat) (ret : Option FieldType) : Prop := Cond.methodLink own index y ∈ gw ∧ Cond.static y ∈ gw ∧ Cond.initialized y.cls ∈ gw ∧ Cond.code y bytes maxL ret ∈ gw
def zwI (own : String) (index : Nat) (y : MethodName) (bytes : ByteArray) (maxL : Nat) : Prop := Cond.methodLink own index y ∈ gw ∧ Cond.instanceMethod y ∈ gw ∧ Cond.initialized y.cls ∈ gw ∧ Cond.code y bytes maxL none ∈ gw
def zwVN (own : String) (index : Nat) (C : String) (y : MethodName) (host : String) (bytes : ByteArray) (maxL : Nat) (ret : Option FieldType) : Prop := Cond.methodLinkNest own index y host ∈ gn ∧ Cond.instanceMethod y ∈ gw ∧ Cond.selects C y y ∈ gw ∧ Cond.initialized C ∈ gw ∧ Cond.code y bytes maxL ret ∈ gw
def zwSN (own : String) (index : Nat) (y : MethodName) (host : String) (bytes : ByteArray) (maxL : Nat) (ret : Option FieldType) : Prop := Cond.methodLinkNest own index y host ∈ gn ∧ Cond.static y ∈ gw ∧ Cond.initialized y.cls ∈ gw ∧ Cond.code y bytes maxL ret ∈ gw
def zwIN (own : String) (index : Nat) (y : MethodName) (host : String) (bytes : ByteArray) (maxL : Nat) : Prop := Cond.methodLinkNest own index y host ∈ gn ∧ Cond.instanceMethod y ∈ gw ∧ Cond.initialized y.cls ∈ gw ∧ Cond.code y bytes maxL none ∈ gw
theorem z_ws (hcode : Cond.code y bytes maxL ret ∈ gw) : ∀ w ∈ Cond.code y bytes maxL ret :: gw, w ∈ gw := fun w hw => by
  rcases List.mem_cons.mp hw with rfl | h
  · exact hcode
  · exact h
theorem zr_callV (F : zF p s m args meth c cc nL own D tA b) {ci : Nat} {fs : List Value} {C : String} {T : u_T} {N : Nat} (hM : zM l D tA b y bytes maxL ret d lo mc ms (.ref (b + k) :: As) f n post) (hd : decode cc pc = .ok (.invokevirtual index, 3)) (hf : f k = some (.inr (ci, fs))) (hc : classes[ci]? = some (C, T, N)) (hw : zwV own index C y bytes maxL ret) (hyc : y.cls = C) (hy : y.cls ≠ "java/lang/invoke/MethodHandle" ∧ y.cls ≠ "java/lang/invoke/VarHandle" ∧ (parseMethodDescriptor y.desc).map (fun d => d.parameters.length) = some na) (hna : As.length = na) (hst : st = As.reverse ++ .ref (b + k) :: rest) (hroom : d + 1 ≤ R.frames ∧ 8 + (maxL + 11) + lo ≤ R.locals) (hrest : (rest.map fun v => v.category).sum ≤ 8) (hcs : cells + mc ≤ R.cells ∧ slots + ms ≤ R.slots) (kk : ∀ (v : Option Value) (f' : zV) (n' : Nat), post v f' n' → Z p l e R s m args below meth c D b nL Q f' n' (cells + mc) (slots + ms) (pc + 3) L (v.toList ++ rest)) : Z p l e R s m args below meth c D b nL Q f n cells slots pc L st := by
  obtain ⟨w1, w2, w3, w4, w5⟩ := hw
  subst hna
  refine zr_run (as' := (Value.ref (b + k) :: As).toArray) (fun H locs ls hH hS hL => va_runV (Ts := gw) (own := own) (C := C) (n := As.length) ⟨F.hx, F.hb, F.hml, F.hown, F.hts⟩ hM (cwV As.length F.hts (gw_in (fun w hw => ?_)) rfl rfl rfl ⟨hyc, hy.1, hy.2.1, hy.2.2⟩ hroom) ⟨zP_blind, va_recv (cl := classes) (ci := ci) (q0 := 0) F.hK (hH.one hf) hc rfl, zP_pre F hH hS _⟩ rfl rfl hL.1 hst (lv_room hrest) hd hcs) kk
  unfold wsV at hw
  rcases List.mem_append.mp hw with h | h
  · simp only [List.mem_cons, List.not_mem_nil, or_false] at h
    rcases h with rfl | rfl | rfl | rfl
    · exact w1
    · exact w2
    · exact w3
    · exact w4
  · exact z_ws w5 w h
theorem zr_callS (F : zF p s m args meth c cc nL own D tA b) (hM : zM l D tA b y bytes maxL ret d lo mc ms As f n post) (hd : decode cc pc = .ok (.invokestatic index, 3)) (hw : zwS own index y bytes maxL ret) (hy : y.cls ≠ "java/lang/invoke/MethodHandle" ∧ y.cls ≠ "java/lang/invoke/VarHandle" ∧ (parseMethodDescriptor y.desc).map (fun d => d.parameters.length) = some na) (hna : As.length = na) (hst : st = As.reverse ++ rest) (hroom : d + 1 ≤ R.frames ∧ 8 + (maxL + 11) + lo ≤ R.locals) (hrest : (rest.map fun v => v.category).sum ≤ 8) (hcs : cells + mc ≤ R.cells ∧ slots + ms ≤ R.slots) (kk : ∀ (v : Option Value) (f' : zV) (n' : Nat), post v f' n' → Z p l e R s m args below meth c D b nL Q f' n' (cells + mc) (slots + ms) (pc + 3) L (v.toList ++ rest)) : Z p l e R s m args below meth c D b nL Q f n cells slots pc L st := by
  obtain ⟨w1, w2, w3, w4⟩ := hw
  subst hna
  refine zr_run (as' := As.toArray) (fun H locs ls hH hS hL => va_runS (Ts := gw) (own := own) (n := As.length) ⟨F.hx, F.hb, F.hml, F.hown, F.hts⟩ hM (va_cwS As.length F.hts (gw_in (fun w hw => ?_)) rfl rfl rfl hy hroom) ⟨zP_blind, zP_pre F hH hS _⟩ rfl rfl hL.1 hst (lv_room hrest) hd hcs) kk
  unfold va_wsS at hw
  rcases List.mem_append.mp hw with h | h
  · simp only [List.mem_cons, List.not_mem_nil, or_false] at h
    rcases h with rfl | rfl | rfl
    · exact w1
    · exact w2
    · exact w3
  · exact z_ws w4 w h
theorem zr_callI (F : zF p s m args meth c cc nL own D tA b) (hM : zM l D tA b y bytes maxL none d lo mc ms (.ref (b + k) :: As) f n post) (hd : decode cc pc = .ok (.invokespecial index, 3)) (hw : zwI own index y bytes maxL) (hyn : y.name = "<init>") (hy : y.cls ≠ "java/lang/invoke/MethodHandle" ∧ y.cls ≠ "java/lang/invoke/VarHandle" ∧ (parseMethodDescriptor y.desc).map (fun d => d.parameters.length) = some na) (hna : As.length = na) (hst : st = As.reverse ++ .ref (b + k) :: rest) (hroom : d + 1 ≤ R.frames ∧ 8 + (maxL + 11) + lo ≤ R.locals) (hrest : (rest.map fun v => v.category).sum ≤ 8) (hcs : cells + mc ≤ R.cells ∧ slots + ms ≤ R.slots) (kk : ∀ (v : Option Value) (f' : zV) (n' : Nat), post v f' n' → Z p l e R s m args below meth c D b nL Q f' n' (cells + mc) (slots + ms) (pc + 3) L (v.toList ++ rest)) : Z p l e R s m args below meth c D b nL Q f n cells slots pc L st := by
  obtain ⟨w1, w2, w3, w4⟩ := hw
  subst hna
  exact zr_run (as' := (Value.ref (b + k) :: As).toArray) (fun H locs ls hH hS hL => va_runI (Ts := gw) (own := own) (n := As.length) ⟨F.hx, F.hb, F.hml, F.hown, F.hts⟩ hM (cwI As.length F.hts (gw_in (z_ws w4)) rfl rfl rfl (F.hts _ w3) (F.hts _ w1) (F.hts _ w2) hyn hy hroom) ⟨zP_blind, zP_pre F hH hS _⟩ rfl rfl hL.1 hst (lv_room hrest) hd hcs) kk
theorem zr_callVN (F : zF p s m args meth c cc nL own D tA b) {host : String} {ci : Nat} {fs : List Value} {C : String} {T : u_T} {N : Nat} (hM : zM l D tA b y bytes maxL ret d lo mc ms (.ref (b + k) :: As) f n post) (hd : decode cc pc = .ok (.invokevirtual index, 3)) (hf : f k = some (.inr (ci, fs))) (hc : classes[ci]? = some (C, T, N)) (hw : zwVN own index C y host bytes maxL ret) (hyc : y.cls = C) (hy : y.cls ≠ "java/lang/invoke/MethodHandle" ∧ y.cls ≠ "java/lang/invoke/VarHandle" ∧ (parseMethodDescriptor y.desc).map (fun d => d.parameters.length) = some na) (hna : As.length = na) (hst : st = As.reverse ++ .ref (b + k) :: rest) (hroom : d + 1 ≤ R.frames ∧ 8 + (maxL + 11) + lo ≤ R.locals) (hrest : (rest.map fun v => v.category).sum ≤ 8) (hcs : cells + mc ≤ R.cells ∧ slots + ms ≤ R.slots) (kk : ∀ (v : Option Value) (f' : zV) (n' : Nat), post v f' n' → Z p l e R s m args below meth c D b nL Q f' n' (cells + mc) (slots + ms) (pc + 3) L (v.toList ++ rest)) : Z p l e R s m args below meth c D b nL Q f n cells slots pc L st := by
  obtain ⟨w1, w2, w3, w4, w5⟩ := hw
  subst hna
  exact zr_run (as' := (Value.ref (b + k) :: As).toArray) (fun H locs ls hH hS hL => va_runVN (Ts := gw) (own := own) (C := C) (n := As.length) ⟨F.hx, F.hb, F.hml, F.hown, F.hts⟩ hM ⟨va_cnB As.length F.hts (gw_in (z_ws w5)) rfl rfl rfl (F.hG.1 _ w1) (by rw [hyc]; exact F.hts _ w4) hy hroom, F.hts _ w2, F.hts _ w3⟩ ⟨zP_blind, va_recv (cl := classes) (ci := ci) (q0 := 0) F.hK (hH.one hf) hc rfl, zP_pre F hH hS _⟩ rfl rfl hL.1 hst (lv_room hrest) hd hcs) kk
theorem zr_callSN (F : zF p s m args meth c cc nL own D tA b) {host : String} (hM : zM l D tA b y bytes maxL ret d lo mc ms As f n post) (hd : decode cc pc = .ok (.invokestatic index, 3)) (hw : zwSN own index y host bytes maxL ret) (hy : y.cls ≠ "java/lang/invoke/MethodHandle" ∧ y.cls ≠ "java/lang/invoke/VarHandle" ∧ (parseMethodDescriptor y.desc).map (fun d => d.parameters.length) = some na) (hna : As.length = na) (hst : st = As.reverse ++ rest) (hroom : d + 1 ≤ R.frames ∧ 8 + (maxL + 11) + lo ≤ R.locals) (hrest : (rest.map fun v => v.category).sum ≤ 8) (hcs : cells + mc ≤ R.cells ∧ slots + ms ≤ R.slots) (kk : ∀ (v : Option Value) (f' : zV) (n' : Nat), post v f' n' → Z p l e R s m args below meth c D b nL Q f' n' (cells + mc) (slots + ms) (pc + 3) L (v.toList ++ rest)) : Z p l e R s m args below meth c D b nL Q f n cells slots pc L st := by
  obtain ⟨w1, w2, w3, w4⟩ := hw
  subst hna
  exact zr_run (as' := As.toArray) (fun H locs ls hH hS hL => va_runSN (Ts := gw) (own := own) (n := As.length) ⟨F.hx, F.hb, F.hml, F.hown, F.hts⟩ hM ⟨va_cnB As.length F.hts (gw_in (z_ws w4)) rfl rfl rfl (F.hG.1 _ w1) (F.hts _ w3) hy hroom, F.hts _ w2, trivial⟩ ⟨zP_blind, zP_pre F hH hS _⟩ rfl rfl hL.1 hst (lv_room hrest) hd hcs) kk
theorem zr_callIN (F : zF p s m args meth c cc nL own D tA b) {host : String} (hM : zM l D tA b y bytes maxL none d lo mc ms (.ref (b + k) :: As) f n post) (hd : decode cc pc = .ok (.invokespecial index, 3)) (hw : zwIN own index y host bytes maxL) (hyn : y.name = "<init>") (hy : y.cls ≠ "java/lang/invoke/MethodHandle" ∧ y.cls ≠ "java/lang/invoke/VarHandle" ∧ (parseMethodDescriptor y.desc).map (fun d => d.parameters.length) = some na) (hna : As.length = na) (hst : st = As.reverse ++ .ref (b + k) :: rest) (hroom : d + 1 ≤ R.frames ∧ 8 + (maxL + 11) + lo ≤ R.locals) (hrest : (rest.map fun v => v.category).sum ≤ 8) (hcs : cells + mc ≤ R.cells ∧ slots + ms ≤ R.slots) (kk : ∀ (v : Option Value) (f' : zV) (n' : Nat), post v f' n' → Z p l e R s m args below meth c D b nL Q f' n' (cells + mc) (slots + ms) (pc + 3) L (v.toList ++ rest)) : Z p l e R s m args below meth c D b nL Q f n cells slots pc L st := by
  obtain ⟨w1, w2, w3, w4⟩ := hw
  subst hna
  exact zr_run (as' := (Value.ref (b + k) :: As).toArray) (fun H locs ls hH hS hL => va_runIN (Ts := gw) (own := own) (n := As.length) ⟨F.hx, F.hb, F.hml, F.hown, F.hts⟩ hM ⟨va_cnB As.length F.hts (gw_in (z_ws w4)) rfl rfl rfl (F.hG.1 _ w1) (F.hts _ w3) hy hroom, hyn, F.hts _ w2⟩ ⟨zP_blind, zP_pre F hH hS _⟩ rfl rfl hL.1 hst (lv_room hrest) hd hcs) kk

theorem zr_callV1 (F : zF p s m args meth c cc nL own D tA b) {ci : Nat} {fs : List Value} {C : String} {T : u_T} {N : Nat} {v : Value} {f1 : zV} {n1 : Nat} (hM : zM l D tA b y bytes maxL ret d lo mc ms (.ref (b + k) :: As) f n (zE (some v) f1 n1)) (hd : decode cc pc = .ok (.invokevirtual index, 3)) (hf : f k = some (.inr (ci, fs))) (hc : classes[ci]? = some (C, T, N)) (hw : zwV own index C y bytes maxL ret) (hyc : y.cls = C) (hy : y.cls ≠ "java/lang/invoke/MethodHandle" ∧ y.cls ≠ "java/lang/invoke/VarHandle" ∧ (parseMethodDescriptor y.desc).map (fun d => d.parameters.length) = some na) (hna : As.length = na) (hst : st = As.reverse ++ .ref (b + k) :: rest) (hroom : d + 1 ≤ R.frames ∧ 8 + (maxL + 11) + lo ≤ R.locals) (hrest : (rest.map fun v => v.category).sum ≤ 8) (hcs : cells + mc ≤ R.cells ∧ slots + ms ≤ R.slots) (kk : Z p l e R s m args below meth c D b nL Q f1 n1 (cells + mc) (slots + ms) (pc + 3) L (v :: rest)) : Z p l e R s m args below meth c D b nL Q f n cells slots pc L st := zr_callV F hM hd hf hc hw hyc hy hna hst hroom hrest hcs (fun v' f' n' h => by obtain ⟨rfl, rfl, rfl⟩ := h; exact kk)
theorem zr_callV0 (F : zF p s m args meth c cc nL own D tA b) {ci : Nat} {fs : List Value} {C : String} {T : u_T} {N : Nat} {f1 : zV} {n1 : Nat} (hM : zM l D tA b y bytes maxL ret d lo mc ms (.ref (b + k) :: As) f n (zE none f1 n1)) (hd : decode cc pc = .ok (.invokevirtual index, 3)) (hf : f k = some (.inr (ci, fs))) (hc : classes[ci]? = some (C, T, N)) (hw : zwV own index C y bytes maxL ret) (hyc : y.cls = C) (hy : y.cls ≠ "java/lang/invoke/MethodHandle" ∧ y.cls ≠ "java/lang/invoke/VarHandle" ∧ (parseMethodDescriptor y.desc).map (fun d => d.parameters.length) = some na) (hna : As.length = na) (hst : st = As.reverse ++ .ref (b + k) :: rest) (hroom : d + 1 ≤ R.frames ∧ 8 + (maxL + 11) + lo ≤ R.locals) (hrest : (rest.map fun v => v.category).sum ≤ 8) (hcs : cells + mc ≤ R.cells ∧ slots + ms ≤ R.slots) (kk : Z p l e R s m args below meth c D b nL Q f1 n1 (cells + mc) (slots + ms) (pc + 3) L rest) : Z p l e R s m args below meth c D b nL Q f n cells slots pc L st := zr_callV F hM hd hf hc hw hyc hy hna hst hroom hrest hcs (fun v' f' n' h => by obtain ⟨rfl, rfl, rfl⟩ := h; exact kk)
theorem zr_callS1 (F : zF p s m args meth c cc nL own D tA b)  {v : Value} {f1 : zV} {n1 : Nat} (hM : zM l D tA b y bytes maxL ret d lo mc ms As f n (zE (some v) f1 n1)) (hd : decode cc pc = .ok (.invokestatic index, 3)) (hw : zwS own index y bytes maxL ret) (hy : y.cls ≠ "java/lang/invoke/MethodHandle" ∧ y.cls ≠ "java/lang/invoke/VarHandle" ∧ (parseMethodDescriptor y.desc).map (fun d => d.parameters.length) = some na) (hna : As.length = na) (hst : st = As.reverse ++ rest) (hroom : d + 1 ≤ R.frames ∧ 8 + (maxL + 11) + lo ≤ R.locals) (hrest : (rest.map fun v => v.category).sum ≤ 8) (hcs : cells + mc ≤ R.cells ∧ slots + ms ≤ R.slots) (kk : Z p l e R s m args below meth c D b nL Q f1 n1 (cells + mc) (slots + ms) (pc + 3) L (v :: rest)) : Z p l e R s m args below meth c D b nL Q f n cells slots pc L st := zr_callS F hM hd hw hy hna hst hroom hrest hcs (fun v' f' n' h => by obtain ⟨rfl, rfl, rfl⟩ := h; exact kk)
theorem zr_callS0 (F : zF p s m args meth c cc nL own D tA b)  {f1 : zV} {n1 : Nat} (hM : zM l D tA b y bytes maxL ret d lo mc ms As f n (zE none f1 n1)) (hd : decode cc pc = .ok (.invokestatic index, 3)) (hw : zwS own index y bytes maxL ret) (hy : y.cls ≠ "java/lang/invoke/MethodHandle" ∧ y.cls ≠ "java/lang/invoke/VarHandle" ∧ (parseMethodDescriptor y.desc).map (fun d => d.parameters.length) = some na) (hna : As.length = na) (hst : st = As.reverse ++ rest) (hroom : d + 1 ≤ R.frames ∧ 8 + (maxL + 11) + lo ≤ R.locals) (hrest : (rest.map fun v => v.category).sum ≤ 8) (hcs : cells + mc ≤ R.cells ∧ slots + ms ≤ R.slots) (kk : Z p l e R s m args below meth c D b nL Q f1 n1 (cells + mc) (slots + ms) (pc + 3) L rest) : Z p l e R s m args below meth c D b nL Q f n cells slots pc L st := zr_callS F hM hd hw hy hna hst hroom hrest hcs (fun v' f' n' h => by obtain ⟨rfl, rfl, rfl⟩ := h; exact kk)
theorem zr_callI0 (F : zF p s m args meth c cc nL own D tA b)  {f1 : zV} {n1 : Nat} (hM : zM l D tA b y bytes maxL none d lo mc ms (.ref (b + k) :: As) f n (zE none f1 n1)) (hd : decode cc pc = .ok (.invokespecial index, 3)) (hw : zwI own index y bytes maxL) (hyn : y.name = "<init>") (hy : y.cls ≠ "java/lang/invoke/MethodHandle" ∧ y.cls ≠ "java/lang/invoke/VarHandle" ∧ (parseMethodDescriptor y.desc).map (fun d => d.parameters.length) = some na) (hna : As.length = na) (hst : st = As.reverse ++ .ref (b + k) :: rest) (hroom : d + 1 ≤ R.frames ∧ 8 + (maxL + 11) + lo ≤ R.locals) (hrest : (rest.map fun v => v.category).sum ≤ 8) (hcs : cells + mc ≤ R.cells ∧ slots + ms ≤ R.slots) (kk : Z p l e R s m args below meth c D b nL Q f1 n1 (cells + mc) (slots + ms) (pc + 3) L rest) : Z p l e R s m args below meth c D b nL Q f n cells slots pc L st := zr_callI F hM hd hw hyn hy hna hst hroom hrest hcs (fun v' f' n' h => by obtain ⟨rfl, rfl, rfl⟩ := h; exact kk)
theorem zr_callVN1 (F : zF p s m args meth c cc nL own D tA b) {host : String} {ci : Nat} {fs : List Value} {C : String} {T : u_T} {N : Nat} {v : Value} {f1 : zV} {n1 : Nat} (hM : zM l D tA b y bytes maxL ret d lo mc ms (.ref (b + k) :: As) f n (zE (some v) f1 n1)) (hd : decode cc pc = .ok (.invokevirtual index, 3)) (hf : f k = some (.inr (ci, fs))) (hc : classes[ci]? = some (C, T, N)) (hw : zwVN own index C y host bytes maxL ret) (hyc : y.cls = C) (hy : y.cls ≠ "java/lang/invoke/MethodHandle" ∧ y.cls ≠ "java/lang/invoke/VarHandle" ∧ (parseMethodDescriptor y.desc).map (fun d => d.parameters.length) = some na) (hna : As.length = na) (hst : st = As.reverse ++ .ref (b + k) :: rest) (hroom : d + 1 ≤ R.frames ∧ 8 + (maxL + 11) + lo ≤ R.locals) (hrest : (rest.map fun v => v.category).sum ≤ 8) (hcs : cells + mc ≤ R.cells ∧ slots + ms ≤ R.slots) (kk : Z p l e R s m args below meth c D b nL Q f1 n1 (cells + mc) (slots + ms) (pc + 3) L (v :: rest)) : Z p l e R s m args below meth c D b nL Q f n cells slots pc L st := zr_callVN F hM hd hf hc hw hyc hy hna hst hroom hrest hcs (fun v' f' n' h => by obtain ⟨rfl, rfl, rfl⟩ := h; exact kk)
theorem zr_callVN0 (F : zF p s m args meth c cc nL own D tA b) {host : String} {ci : Nat} {fs : List Value} {C : String} {T : u_T} {N : Nat} {f1 : zV} {n1 : Nat} (hM : zM l D tA b y bytes maxL ret d lo mc ms (.ref (b + k) :: As) f n (zE none f1 n1)) (hd : decode cc pc = .ok (.invokevirtual index, 3)) (hf : f k = some (.inr (ci, fs))) (hc : classes[ci]? = some (C, T, N)) (hw : zwVN own index C y host bytes maxL ret) (hyc : y.cls = C) (hy : y.cls ≠ "java/lang/invoke/MethodHandle" ∧ y.cls ≠ "java/lang/invoke/VarHandle" ∧ (parseMethodDescriptor y.desc).map (fun d => d.parameters.length) = some na) (hna : As.length = na) (hst : st = As.reverse ++ .ref (b + k) :: rest) (hroom : d + 1 ≤ R.frames ∧ 8 + (maxL + 11) + lo ≤ R.locals) (hrest : (rest.map fun v => v.category).sum ≤ 8) (hcs : cells + mc ≤ R.cells ∧ slots + ms ≤ R.slots) (kk : Z p l e R s m args below meth c D b nL Q f1 n1 (cells + mc) (slots + ms) (pc + 3) L rest) : Z p l e R s m args below meth c D b nL Q f n cells slots pc L st := zr_callVN F hM hd hf hc hw hyc hy hna hst hroom hrest hcs (fun v' f' n' h => by obtain ⟨rfl, rfl, rfl⟩ := h; exact kk)
theorem zr_callSN1 (F : zF p s m args meth c cc nL own D tA b) {host : String} {v : Value} {f1 : zV} {n1 : Nat} (hM : zM l D tA b y bytes maxL ret d lo mc ms As f n (zE (some v) f1 n1)) (hd : decode cc pc = .ok (.invokestatic index, 3)) (hw : zwSN own index y host bytes maxL ret) (hy : y.cls ≠ "java/lang/invoke/MethodHandle" ∧ y.cls ≠ "java/lang/invoke/VarHandle" ∧ (parseMethodDescriptor y.desc).map (fun d => d.parameters.length) = some na) (hna : As.length = na) (hst : st = As.reverse ++ rest) (hroom : d + 1 ≤ R.frames ∧ 8 + (maxL + 11) + lo ≤ R.locals) (hrest : (rest.map fun v => v.category).sum ≤ 8) (hcs : cells + mc ≤ R.cells ∧ slots + ms ≤ R.slots) (kk : Z p l e R s m args below meth c D b nL Q f1 n1 (cells + mc) (slots + ms) (pc + 3) L (v :: rest)) : Z p l e R s m args below meth c D b nL Q f n cells slots pc L st := zr_callSN F hM hd hw hy hna hst hroom hrest hcs (fun v' f' n' h => by obtain ⟨rfl, rfl, rfl⟩ := h; exact kk)
theorem zr_callSN0 (F : zF p s m args meth c cc nL own D tA b) {host : String} {f1 : zV} {n1 : Nat} (hM : zM l D tA b y bytes maxL ret d lo mc ms As f n (zE none f1 n1)) (hd : decode cc pc = .ok (.invokestatic index, 3)) (hw : zwSN own index y host bytes maxL ret) (hy : y.cls ≠ "java/lang/invoke/MethodHandle" ∧ y.cls ≠ "java/lang/invoke/VarHandle" ∧ (parseMethodDescriptor y.desc).map (fun d => d.parameters.length) = some na) (hna : As.length = na) (hst : st = As.reverse ++ rest) (hroom : d + 1 ≤ R.frames ∧ 8 + (maxL + 11) + lo ≤ R.locals) (hrest : (rest.map fun v => v.category).sum ≤ 8) (hcs : cells + mc ≤ R.cells ∧ slots + ms ≤ R.slots) (kk : Z p l e R s m args below meth c D b nL Q f1 n1 (cells + mc) (slots + ms) (pc + 3) L rest) : Z p l e R s m args below meth c D b nL Q f n cells slots pc L st := zr_callSN F hM hd hw hy hna hst hroom hrest hcs (fun v' f' n' h => by obtain ⟨rfl, rfl, rfl⟩ := h; exact kk)
theorem zr_callIN0 (F : zF p s m args meth c cc nL own D tA b) {host : String} {f1 : zV} {n1 : Nat} (hM : zM l D tA b y bytes maxL none d lo mc ms (.ref (b + k) :: As) f n (zE none f1 n1)) (hd : decode cc pc = .ok (.invokespecial index, 3)) (hw : zwIN own index y host bytes maxL) (hyn : y.name = "<init>") (hy : y.cls ≠ "java/lang/invoke/MethodHandle" ∧ y.cls ≠ "java/lang/invoke/VarHandle" ∧ (parseMethodDescriptor y.desc).map (fun d => d.parameters.length) = some na) (hna : As.length = na) (hst : st = As.reverse ++ .ref (b + k) :: rest) (hroom : d + 1 ≤ R.frames ∧ 8 + (maxL + 11) + lo ≤ R.locals) (hrest : (rest.map fun v => v.category).sum ≤ 8) (hcs : cells + mc ≤ R.cells ∧ slots + ms ≤ R.slots) (kk : Z p l e R s m args below meth c D b nL Q f1 n1 (cells + mc) (slots + ms) (pc + 3) L rest) : Z p l e R s m args below meth c D b nL Q f n cells slots pc L st := zr_callIN F hM hd hw hyn hy hna hst hroom hrest hcs (fun v' f' n' h => by obtain ⟨rfl, rfl, rfl⟩ := h; exact kk)
end ZC
section ZR
variable {p : Program} {l : Launch} {e : Env} {R : Room} {s : State} {m : MethodId} {args : Array Value} {below : List Frame} {meth : Method} {c : Code} {Q : State → Prop}
variable {cc : ByteArray} {nL : Nat} {own : String} {D : va_G} {tA : Nat → ClassId} {b : Nat} {f : zV} {n cells slots pc : Nat} {L : List (Nat × Value)} {st : List Value}
variable {mc ms : Nat} {post : Option Value → zV → Nat → Prop}
theorem zr_iret (F : zF p s m args meth c cc nL own D tA b) {v : Int32} (hr : meth.sig.returnType = some .int)  (hd : decode cc pc = .ok (.ireturn, 1)) (h1 : cells ≤ mc) (h2 : slots ≤ ms) (hp : post (some (.int v)) f n) : Z p l e R s m args below meth c D b nL (MQ below (zQ D b post) args s mc ms (fun q => b ≤ q)) f n cells slots pc L [.int v] := fun H locs ls hH hS hL => W.widen h1 h2 (W.iret F.hx F.hb hr  (fun t ht hW => ⟨(some (.int v)), f, n, rfl, hp, by rw [ht]; exact hH, hS.F ht⟩) hS.2.2 hd F.hlk)
theorem zr_zret (F : zF p s m args meth c cc nL own D tA b) {v : Int32} {ty : FieldType} (hr : meth.sig.returnType = some ty) (hn : narrow ty (.int v) = .int v) (hd : decode cc pc = .ok (.ireturn, 1)) (h1 : cells ≤ mc) (h2 : slots ≤ ms) (hp : post (some (.int v)) f n) : Z p l e R s m args below meth c D b nL (MQ below (zQ D b post) args s mc ms (fun q => b ≤ q)) f n cells slots pc L [.int v] := fun H locs ls hH hS hL => W.widen h1 h2 (W.zret F.hx F.hb hr hn (fun t ht hW => ⟨(some (.int v)), f, n, rfl, hp, by rw [ht]; exact hH, hS.F ht⟩) hS.2.2 hd F.hlk)
theorem zr_lret (F : zF p s m args meth c cc nL own D tA b) {v : Int64} (hr : meth.sig.returnType = some .long)  (hd : decode cc pc = .ok (.lreturn, 1)) (h1 : cells ≤ mc) (h2 : slots ≤ ms) (hp : post (some (.long v)) f n) : Z p l e R s m args below meth c D b nL (MQ below (zQ D b post) args s mc ms (fun q => b ≤ q)) f n cells slots pc L [.long v] := fun H locs ls hH hS hL => W.widen h1 h2 (W.lret F.hx F.hb hr  (fun t ht hW => ⟨(some (.long v)), f, n, rfl, hp, by rw [ht]; exact hH, hS.F ht⟩) hS.2.2 hd F.hlk)
theorem zr_vret (F : zF p s m args meth c cc nL own D tA b)  (hr : meth.sig.returnType = none)  (hd : decode cc pc = .ok (.return_, 1)) (h1 : cells ≤ mc) (h2 : slots ≤ ms) (hp : post none f n) : Z p l e R s m args below meth c D b nL (MQ below (zQ D b post) args s mc ms (fun q => b ≤ q)) f n cells slots pc L [] := fun H locs ls hH hS hL => W.widen h1 h2 (W.vret F.hx F.hb hr  (fun t ht hW => ⟨none, f, n, rfl, hp, by rw [ht]; exact hH, hS.F ht⟩) hS.2.2 hd F.hlk)
theorem zr_aret (F : zF p s m args meth c cc nL own D tA b) {v : Value} {rt : FieldType} (hr : meth.sig.returnType = some rt) (hrt : (∃ n, rt = .object n) ∨ ∃ t, rt = .array t) (hva : v = .null ∨ ∃ a, v = .ref a) (hd : decode cc pc = .ok (.areturn, 1)) (h1 : cells ≤ mc) (h2 : slots ≤ ms) (hp : post (some v) f n) : Z p l e R s m args below meth c D b nL (MQ below (zQ D b post) args s mc ms (fun q => b ≤ q)) f n cells slots pc L [v] := fun H locs ls hH hS hL => W.widen h1 h2 (W.aret F.hx F.hb hr hrt hva (fun t ht hW => ⟨(some v), f, n, rfl, hp, by rw [ht]; exact hH, hS.F ht⟩) hS.2.2 hd F.hlk)
end ZR
/-- a contract out of a walk -/
theorem zM_of {l : Launch} {D : va_G} {tA : Nat → ClassId} {b : Nat} {y : MethodName} {bytes : ByteArray} {maxL : Nat} {ret : Option FieldType} {d lo mc ms : Nat} {av : List Value} {f : zV} {n : Nat} {post : Option Value → zV → Nat → Prop} {own : String} (hy : plainFor y = true) (hyc : y.cls = own) (hlen : (lg_sl av).length ≤ maxL)
    (body : ∀ (p : Program) (e : Env) (s : State) (m : MethodId) (below : List Frame) (meth : Method) (c : Code), zF p s m av.toArray meth c bytes maxL own D tA b → meth.sig.returnType = ret → meth.name = y.name → zH D b f n s.heap → Z p l e { frames := d, cells := mc, slots := ms, locals := lo } s m av.toArray below meth c D b maxL (MQ below (zQ D b post) av.toArray s mc ms (fun q => b ≤ q)) f n 0 0 0 (lv_args 0 av) []) : zM l D tA b y bytes maxL ret d lo mc ms av f n post := by
  unfold zM Met
  refine MetFree.of_bodySF (code := bytes) (maxLocals := maxL) (ret := ret) hy ?_ ?_
  · intro args s m h hn
    obtain ⟨meth, c, h1, h2, h3, h4, h5, h6, -, -⟩ := Cond.code_spec hn (atoms_spec (ws := Cond.code y bytes maxL ret :: gw) h _ List.mem_cons_self)
    exact ⟨meth, c, h1, h2, h3, h4, h5, h6⟩
  intro p e s m args below meth c s₁ B hml hv _
  obtain ⟨rfl, hH, hK, hG⟩ := hv
  have hts := atoms_spec (ws := Cond.code y bytes maxL ret :: gw) B.pre
  have hown : s.vm.findClass own = some m.cls := hyc ▸ findClass_of_methodNamed B.named
  have hl := lv_entry av (n := maxL) hlen
  have hh0 : s₁.heap = s.heap := by rw [B.state]; rfl
  have K : W p l e { frames := d, cells := mc, slots := ms, locals := lo } s m av.toArray below meth c s₁.heap [] 0 0 (MQ below (zQ D b post) av.toArray s mc ms (fun q => b ≤ q)) (entryFrame m av.toArray maxL) := by
    rw [hh0, lg_entry_eq]
    exact body p e s m below meth c ⟨B.exec, B.bytes, hml, hown, fun w hw => hts w (List.mem_cons_of_mem _ hw), hK, B.notSynchronized, hG, by rw [hH.1]; exact Nat.le_add_right b n⟩ B.returns (name_of_methodNamed B.named B.method).1 hH _ _ _ hH va_S.rf hl
  obtain ⟨t, a1, o, b1, b2, b3⟩ := K s₁ rfl (Stand.of_body B)
  exact ⟨t, o, a1, b1, b2, ⟨b3.1, b3.2⟩⟩
