/-! the length of an array of references -/
section ZLR
variable {p : Program} {l : Launch} {e : Env} {R : Room} {s : State} {m : MethodId} {args : Array Value} {below : List Frame} {meth : Method} {c : Code} {Q : State → Prop}
variable {cc : ByteArray} {nL : Nat} {own : String} {D : va_G} {tA : Nat → ClassId} {b : Nat} {f : zV} {n cells slots pc : Nat} {L : List (Nat × Value)} {st : List Value}
theorem zr_lenR {sh : zSh} {mm : zMem} {k t len : Nat} (F : zF p s m args meth c cc nL own D tA b) (hd : decode cc pc = .ok (.arraylength, 1)) (hs : sh k = some (t, len) ∧ 204 ≤ t ∧ t < 210) (kk : Z p l e R s m args below meth c D b nL Q (zW tA b sh mm) n cells slots (pc + 1) L (.int (Int32.ofNat len) :: st)) : Z p l e R s m args below meth c D b nL Q (zW tA b sh mm) n cells slots pc L (.ref (b + k) :: st) := by
  obtain ⟨hs, h1, h2⟩ := hs
  rcases (show t = 204 ∨ t = 205 ∨ t = 206 ∨ t = 207 ∨ t = 208 ∨ t = 209 by omega) with rfl | rfl | rfl | rfl | rfl | rfl
  · exact zr_alen F 4 hd (zW_r4 hs) rfl rfl kk
  · exact zr_alen F 5 hd (zW_r5 hs) rfl rfl kk
  · exact zr_alen F 6 hd (zW_r6 hs) rfl rfl kk
  · exact zr_alen F 7 hd (zW_r7 hs) rfl rfl kk
  · exact zr_alen F 8 hd (zW_r8 hs) rfl rfl kk
  · exact zr_alen F 9 hd (zW_r9 hs) rfl rfl kk
end ZLR
