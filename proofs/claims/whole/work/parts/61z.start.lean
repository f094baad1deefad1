section ZST0
variable (tA : Nat → ClassId) (b W H : Nat)
theorem st_sc {s i : Nat} (hs : s < 3) (hi : i < 369) : lawW tA b W H (12 + 370 * s + i) = zW tA b (sh0 W H) (m0 W H) (12 + 370 * s + i) := by
  rcases Nat.lt_or_ge i 25 with h | h
  · rcases (show s = 0 ∨ s = 1 ∨ s = 2 by omega) with rfl | rfl | rfl
    · exact stf_0 tA b W H i h
    · exact stf_1 tA b W H i h
    · exact stf_2 tA b W H i h
  rcases Nat.lt_or_ge i 49 with h1 | h1
  · rw [show i = 25 + (3 * ((i - 25) / 3) + (i - 25) % 3) by omega]
    exact stT tA b W H hs (by omega) (by omega)
  rcases Nat.lt_or_ge i 129 with h2 | h2
  · rw [show i = 49 + (5 * ((i - 49) / 5) + (i - 49) % 5) by omega]
    exact stM tA b W H hs (by omega) (by omega)
  rcases Nat.lt_or_ge i 273 with h3 | h3
  · rw [show i = 129 + (3 * ((i - 129) / 3) + (i - 129) % 3) by omega]
    exact stN tA b W H hs (by omega) (by omega)
  rw [show i = 273 + (3 * ((i - 273) / 3) + (i - 273) % 3) by omega]
  exact stK tA b W H hs (by omega) (by omega)
theorem st_all (k : Nat) (hk : k < 1303) : lawW tA b W H k = zW tA b (sh0 W H) (m0 W H) k := by
  rcases Nat.lt_or_ge k 12 with h | h
  · have e := sgs_d tA b W H k h
    rwa [Nat.zero_add] at e
  rcases Nat.lt_or_ge k 1121 with h1 | h1
  · by_cases h2 : k = 381
    · subst h2
      exact sg_381 tA b W H
    by_cases h3 : k = 751
    · subst h3
      exact sg_751 tA b W H
    rw [show k = 12 + 370 * ((k - 12) / 370) + (k - 12) % 370 by omega]
    exact st_sc tA b W H (by omega) (by omega)
  rcases Nat.lt_or_ge k 1185 with h2 | h2
  · rw [show k = 1121 + (k - 1121) by omega]
    exact sgs_e tA b W H _ (by omega)
  rcases Nat.lt_or_ge k 1245 with h3 | h3
  · rw [show k = 1185 + (k - 1185) by omega]
    exact sgs_f tA b W H _ (by omega)
  rw [show k = 1245 + (k - 1245) by omega]
  exact sgs_g tA b W H _ (by omega)
theorem sh0_none {k : Nat} (h : 1303 ≤ k) : sh0 W H k = none := by
  have e : ak k = 200 := by
    unfold ak
    rw [if_neg (by omega), if_neg (by omega), List.getD_eq_getElem?_getD, List.getElem?_eq_none (show akL.length ≤ k - 1121 from (show 182 ≤ k - 1121 by omega))]
    rfl
  show (shL W H).getD (ak k) none = none
  rw [e]
  rfl
theorem st_sub (k : Nat) (x : va_E) (h : zW tA b (sh0 W H) (m0 W H) k = some x) : lawW tA b W H k = some x := by
  by_cases hk : k < 1303
  · rw [st_all tA b W H k hk]
    exact h
  · rw [zW, sh0_none W H (by omega)] at h
    cases h
end ZST0
theorem zr_sub {p : Program} {l : Launch} {e : Env} {R : Room} {s : State} {m : MethodId} {args : Array Value} {below : List Frame} {meth : Method} {c : Code} {Q : State → Prop} {nL : Nat} {D : va_G} {b n cells slots pc : Nat} {L : List (Nat × Value)} {st : List Value} {f g : zV} (h : ∀ (k : Nat) (x : va_E), g k = some x → f k = some x) (kk : Z p l e R s m args below meth c D b nL Q g n cells slots pc L st) : Z p l e R s m args below meth c D b nL Q f n cells slots pc L st := fun H locs ls hH hS hL => kk H locs ls ⟨hH.1, fun k x hx => hH.2 k x (h k x hx)⟩ hS hL
