section ZST0
variable (tA : Nat → ClassId) (b W H : Nat)
theorem st_all (k : Nat) (hk : k < 1303) : lawW tA b W H k = zW tA b (sh0 W H) (m0 W H) k := by
  have e : k = 50 * (k / 50) + k % 50 := by omega
  have h1 : k / 50 < 27 := by omega
  generalize hq : k / 50 = q at e h1
  match q, h1, e with
  | 0, h1, e => rw [e]; exact stc_0 tA b W H (k % 50) (by omega)
  | 1, h1, e => rw [e]; exact stc_1 tA b W H (k % 50) (by omega)
  | 2, h1, e => rw [e]; exact stc_2 tA b W H (k % 50) (by omega)
  | 3, h1, e => rw [e]; exact stc_3 tA b W H (k % 50) (by omega)
  | 4, h1, e => rw [e]; exact stc_4 tA b W H (k % 50) (by omega)
  | 5, h1, e => rw [e]; exact stc_5 tA b W H (k % 50) (by omega)
  | 6, h1, e => rw [e]; exact stc_6 tA b W H (k % 50) (by omega)
  | 7, h1, e => rw [e]; exact stc_7 tA b W H (k % 50) (by omega)
  | 8, h1, e => rw [e]; exact stc_8 tA b W H (k % 50) (by omega)
  | 9, h1, e => rw [e]; exact stc_9 tA b W H (k % 50) (by omega)
  | 10, h1, e => rw [e]; exact stc_10 tA b W H (k % 50) (by omega)
  | 11, h1, e => rw [e]; exact stc_11 tA b W H (k % 50) (by omega)
  | 12, h1, e => rw [e]; exact stc_12 tA b W H (k % 50) (by omega)
  | 13, h1, e => rw [e]; exact stc_13 tA b W H (k % 50) (by omega)
  | 14, h1, e => rw [e]; exact stc_14 tA b W H (k % 50) (by omega)
  | 15, h1, e => rw [e]; exact stc_15 tA b W H (k % 50) (by omega)
  | 16, h1, e => rw [e]; exact stc_16 tA b W H (k % 50) (by omega)
  | 17, h1, e => rw [e]; exact stc_17 tA b W H (k % 50) (by omega)
  | 18, h1, e => rw [e]; exact stc_18 tA b W H (k % 50) (by omega)
  | 19, h1, e => rw [e]; exact stc_19 tA b W H (k % 50) (by omega)
  | 20, h1, e => rw [e]; exact stc_20 tA b W H (k % 50) (by omega)
  | 21, h1, e => rw [e]; exact stc_21 tA b W H (k % 50) (by omega)
  | 22, h1, e => rw [e]; exact stc_22 tA b W H (k % 50) (by omega)
  | 23, h1, e => rw [e]; exact stc_23 tA b W H (k % 50) (by omega)
  | 24, h1, e => rw [e]; exact stc_24 tA b W H (k % 50) (by omega)
  | 25, h1, e => rw [e]; exact stc_25 tA b W H (k % 50) (by omega)
  | 26, h1, e => rw [e]; exact stc_26 tA b W H (k % 50) (by omega)
  | q + 27, h1, _ => exact absurd h1 (by omega)
theorem sh0_none {k : Nat} (h : 1303 ≤ k) : sh0 W H k = none := by
  have e : ak k = 200 := by
    unfold ak
    rw [if_neg (by omega), if_neg (by omega), List.getD_eq_getElem?_getD, List.getElem?_eq_none (show akL.length ≤ k - 1121 from (show 182 ≤ k - 1121 by omega))]
  show (shL W H).getD (ak k) none = none
  rw [e]
  rfl
theorem st_sub (k : Nat) (x : va_E) (h : zW tA b (sh0 W H) (m0 W H) k = some x) : lawW tA b W H k = some x := by
  by_cases hk : k < 1303
  · rw [st_all tA b W H k hk]
    exact h
  · rw [zW, sh0_none W H (by omega)] at h
    cases h
end ZST0
theorem zr_sub {p : Program} {l : Launch} {e : Env} {R : Room} {s : State} {m : MethodId} {args : Array Value} {below : List Frame} {meth : Method} {c : Code} {Q : State → Prop} {nL : Nat} {D : va_G} {b n cells slots pc : Nat} {L : List (Nat × Value)} {st : List Value} {f g : zV} (h : ∀ (k : Nat) (x : va_E), g k = some x → f k = some x) (kk : Z p l e R s m args below meth c D b nL Q g n cells slots pc L st) : Z p l e R s m args below meth c D b nL Q f n cells slots pc L st := fun H locs ls hH hS hL => kk H locs ls ⟨hH.1, fun k x hx => hH.2 k x (h k x hx)⟩ hS hL
