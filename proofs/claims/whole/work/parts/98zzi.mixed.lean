/-! PURE: the class's nearness and mixed values of a piece -/
section ZMX
variable {W H : Nat}
theorem e_nearC {m : zMem} {O T : Nat} (hO : pcT W H O T m) : F_XPiece_near (sh0 W H) m O = some (zx_div (m.2.1 O 5) (m.2.1 O 0), m) := by
  obtain ⟨o1, _, _⟩ := hO
  unfold F_XPiece_near
  rw [zoS_h o1, zoS_h o1]
theorem e_mixC {m : zMem} {O T c : Nat} {A B C : Nat → Int64} (hO : pcT W H O T m) (hT : tri (m.1 T) A B C) (hc : c < 6) : F_XPiece_mixed (sh0 W H) m O (nI c) = some (zx_div ((m.2.1 O 2 * A c + m.2.1 O 3 * B c) + m.2.1 O 4 * C c) (m.2.1 O 5), m) := by
  obtain ⟨o1, o2, o3⟩ := hO
  have six : (6 : Int32) + nI c = nI (6 + c) := nI_pp 6 c
  have twl : (12 : Int32) + nI c = nI (12 + c) := nI_pp 12 c
  unfold F_XPiece_mixed
  rw [zoS_h o1, zoS_h o1, zob_h o2, zoS_h o3, nI_ix (by omega) (by decide), nI_cl (n := c) (by omega), zoS_h o1, zoS_h o1, zob_h o2, six, zoL_e, zoS_h o3, nI_ix (by omega) (by decide), nI_cl (n := 6 + c) (by omega), zoS_h o1, zoS_h o1, zob_h o2, twl, zoL_e, zoS_h o3, nI_ix (by omega) (by decide), nI_cl (n := 12 + c) (by omega), zoS_h o1, (hT c hc).1, (hT c hc).2.1, (hT c hc).2.2, zoL_e]
end ZMX
