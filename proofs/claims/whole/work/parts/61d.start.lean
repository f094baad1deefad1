section ZST0
variable (tA : Nat → ClassId) (b W H : Nat)
set_option maxRecDepth 100000 in
theorem sg_0 : lawW tA b W H 0 = zW tA b (sh0 W H) (m0 W H) 0 := (lw_ob tA b W H (k := 0) (by decide)).trans (Eq.trans (b := some _) rfl rfl)
set_option maxRecDepth 100000 in
theorem sg_1 : lawW tA b W H 1 = zW tA b (sh0 W H) (m0 W H) 1 := (lw_ob tA b W H (k := 1) (by decide)).trans (Eq.trans (b := some _) rfl rfl)
set_option maxRecDepth 100000 in
theorem sg_3 : lawW tA b W H 3 = zW tA b (sh0 W H) (m0 W H) 3 := (lw_ob tA b W H (k := 3) (by decide)).trans (Eq.trans (b := some _) rfl rfl)
set_option maxRecDepth 100000 in
theorem sg_4 : lawW tA b W H 4 = zW tA b (sh0 W H) (m0 W H) 4 := (lw_ob tA b W H (k := 4) (by decide)).trans (Eq.trans (b := some _) rfl rfl)
set_option maxRecDepth 100000 in
theorem sg_5 : lawW tA b W H 5 = zW tA b (sh0 W H) (m0 W H) 5 := (lw_ob tA b W H (k := 5) (by decide)).trans (Eq.trans (b := some _) rfl rfl)
set_option maxRecDepth 100000 in
theorem sg_6 : lawW tA b W H 6 = zW tA b (sh0 W H) (m0 W H) 6 := (lw_ob tA b W H (k := 6) (by decide)).trans (Eq.trans (b := some _) rfl rfl)
set_option maxRecDepth 100000 in
theorem sg_7 : lawW tA b W H 7 = zW tA b (sh0 W H) (m0 W H) 7 := (lw_ob tA b W H (k := 7) (by decide)).trans (Eq.trans (b := some _) rfl rfl)
set_option maxRecDepth 100000 in
theorem sg_8 : lawW tA b W H 8 = zW tA b (sh0 W H) (m0 W H) 8 := (lw_ob tA b W H (k := 8) (by decide)).trans (Eq.trans (b := some _) rfl rfl)
set_option maxRecDepth 100000 in
theorem sg_9 : lawW tA b W H 9 = zW tA b (sh0 W H) (m0 W H) 9 := (lw_ob tA b W H (k := 9) (by decide)).trans (Eq.trans (b := some _) rfl rfl)
set_option maxRecDepth 100000 in
theorem sg_10 : lawW tA b W H 10 = zW tA b (sh0 W H) (m0 W H) 10 := (lw_ob tA b W H (k := 10) (by decide)).trans (Eq.trans (b := some _) rfl rfl)
set_option maxRecDepth 100000 in
theorem sg_11 : lawW tA b W H 11 = zW tA b (sh0 W H) (m0 W H) 11 := (lw_ob tA b W H (k := 11) (by decide)).trans (Eq.trans (b := some _) rfl rfl)
set_option maxRecDepth 100000 in
theorem sg_381 : lawW tA b W H 381 = zW tA b (sh0 W H) (m0 W H) 381 := (lw_ob tA b W H (k := 381) (by decide)).trans (Eq.trans (b := some _) rfl rfl)
set_option maxRecDepth 100000 in
theorem sg_751 : lawW tA b W H 751 = zW tA b (sh0 W H) (m0 W H) 751 := (lw_ob tA b W H (k := 751) (by decide)).trans (Eq.trans (b := some _) rfl rfl)
theorem sgs_d : ∀ j, j < 12 → lawW tA b W H (0 + j) = zW tA b (sh0 W H) (m0 W H) (0 + j) := by
  intro j hj
  match j, hj with
  | 0, _ => exact sg_0 tA b W H
  | 1, _ => exact sg_1 tA b W H
  | 2, _ => exact st_2 tA b W H
  | 3, _ => exact sg_3 tA b W H
  | 4, _ => exact sg_4 tA b W H
  | 5, _ => exact sg_5 tA b W H
  | 6, _ => exact sg_6 tA b W H
  | 7, _ => exact sg_7 tA b W H
  | 8, _ => exact sg_8 tA b W H
  | 9, _ => exact sg_9 tA b W H
  | 10, _ => exact sg_10 tA b W H
  | 11, _ => exact sg_11 tA b W H
  | j + 12, h => exact absurd h (by omega)
end ZST0
