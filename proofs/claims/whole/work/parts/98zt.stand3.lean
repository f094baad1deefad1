/-! PURE: the class stands, whole -/
section ZST3
variable {W H : Nat}
def cl30 (g : Nat → Nat → Int32) : Nat → Nat → Int32 := fun a => if a < 30 then g a else fun _ => 0
theorem cl30_e {g g' : Nat → Nat → Int32} (h : ∀ q, q < 30 → g q = g' q) : cl30 g = cl30 g' := by
  funext a
  unfold cl30
  by_cases e : a < 30
  · rw [if_pos e, if_pos e, h a e]
  · rw [if_neg e, if_neg e]
theorem Cls_i (f : Nat → Nat → Int32) (s : Nat) (g : Nat → Nat → Int32) : Cls f s (cl30 g) = Cls f s g := rfl
theorem Cls_g {f : Nat → Nat → Int32} {s : Nat} {g g' : Nat → Nat → Int32} (h : ∀ q, q < 30 → g' q = g q) (k : Cls f s g) : Cls f s g' := by
  rw [← Cls_i, cl30_e h, Cls_i]
  exact k
theorem ahd_i (g : Nat → Nat → Int32) : ahd (cl30 g) = ahd g := rfl
theorem ahd_30 {g g' : Nat → Nat → Int32} (h : ∀ q, q < 30 → g q = g' q) : ahd g = ahd g' := by rw [← ahd_i, cl30_e h, ahd_i]
theorem ordS_g {g g' : Nat → Nat → Int32} {vis : Nat → Bool} {ky : Nat → Int64} (h : ∀ q, q < 30 → g q = g' q) : ∀ n, ordS g vis ky n = ordS g' vis ky n := by
  intro n
  induction n with
  | zero => rfl
  | succ n ih => rw [ordS, ordS, ih, ahd_30 h]
theorem ordR_g {f f' : Nat → Nat → Int32} {r : Nat} (h : ∀ q, q < 30 → f (r + q) = f' (r + q)) : ordR f r = ordR f' r := by
  have hvis : visN f r = visN f' r := funext (visN_g h)
  have hmw : (fun k => mW f r k 11) = (fun k => mW f' r k 11) := funext fun i => wW_g h i 11
  have hc : cn (fun a => f (r + a)) 3 = cn (fun a => f' (r + a)) 3 := by
    have e : f r = f' r := h 0 (by decide)
    show (f r 3).toNatClampNeg = (f' r 3).toNatClampNeg
    rw [e]
  unfold ordR
  rw [hvis, hmw, hc]
  exact ordS_g h _
/-- what the sight has when it stands before scene s with the rows r of F -/
def Std (s r : Nat) (F : Nat → Nat → Int32) (m : zMem) : Prop := m.2.2 1121 7 = some s ∧ m.1 1121 11 = nI (ordR F r).1 ∧ (∀ k, k < (ordR F r).1 → m.1 1175 k = nI ((ordR F r).2 k)) ∧ sgt m.1 (mW F r) (visN F r) (cn (fun a => F (r + a)) 3)
set_option maxHeartbeats 1000000 in
theorem e_stand {m : zMem} {s r : Nat} (hs : gS s) (hr : gM r) (hR : RF m.2.2) (h : Cls m.1 s (fun a => m.1 (r + a))) (hP : Plc m.1 s r (cn (fun a => m.1 (r + a)) 3)) : zok (F_XSight_stand (sh0 W H) m 1121 s) (fun m' => Std s r m.1 m' ∧ m'.2 = (mR m 1121 7 (some s)).2 ∧ (∀ a, ¬ (1121 ≤ a ∧ a < 1178) → m'.1 a = m.1 a) ∧ (∀ c, c ≠ 1 → c ≠ 3 → c ≠ 4 → c ≠ 11 → c ≠ 12 → m'.1 1121 c = m.1 1121 c) ∧ m'.1 1121 12 = 0 ∧ m'.1 1121 1 = -1 ∧ m'.1 1121 3 = 0 ∧ m'.1 1121 4 = 0) := by
  have N := Wsc_n h.1
  have lt := s_lt hs
  have lr : 1187 ≤ r ∧ r ≤ 1247 := by rcases hr with e | e | e <;> omega
  unfold F_XSight_stand
  rw [zoS_h sh_1121, zoL_e, zoS_h sh_1121, zoL_e, zoS_h sh_1121, zoL_e, zoS_h sh_1121, zoL_e, zoS_h sh_1121, zoL_e, zoS_h sh_1121, zoL_e, zoS_h sh_1121]
  generalize hm1 : mI (mI (mI (mI (mI (mR m 1121 7 (some s)) 1121 11 0) 1121 12 0) 1121 1 (-1)) 1121 3 0) 1121 4 0 = m1
  have q2 : m1.2 = (mR m 1121 7 (some s)).2 := by rw [← hm1]; rfl
  have qo : ∀ a, a ≠ 1121 → m1.1 a = m.1 a := fun a ha => by rw [← hm1, mI_o ha, mI_o ha, mI_o ha, mI_o ha, mI_o ha, mR_1]
  have qv : ∀ c, m1.1 1121 c = if c = 4 then 0 else if c = 3 then 0 else if c = 1 then -1 else if c = 12 then 0 else if c = 11 then 0 else m.1 1121 c := fun c => by
    rw [← hm1, mI_v, if_pos rfl, mI_v, if_pos rfl, mI_v, if_pos rfl, mI_v, if_pos rfl, mI_v, if_pos rfl, mR_1]
  have h7 : m1.2.2 1121 7 = some s := by rw [q2]; exact mR_e
  have hR1 : RF m1.2.2 := fun k j hk => by
    rw [q2]
    refine (mR_ne (fun q => hk ?_)).trans (hR k j hk)
    unfold rMut
    omega
  have hcam := h.2.2.2.2.2.1.1
  have hpv := e_pView (W := W) (H := H) (m := m1) (s := s) (r := r) (F := m.1) hs hR1 h7 (fun c hc => by
    rw [qo (s + 23) (by omega)]
    exact hcam c hc)
  obtain ⟨m2, e2, a1, a2, a3⟩ := hpv
  rw [zob_h e2]
  have rows : ∀ q, q < 30 → m2.1 (r + q) = m.1 (r + q) := fun q hq => by rw [a2 _ (by omega), qo _ (by omega)]
  have rw0 : (fun a => m2.1 (r + a)) 0 = (fun a => m.1 (r + a)) 0 := rows 0 (by decide)
  have hcn : cn (fun a => m2.1 (r + a)) 3 = cn (fun a => m.1 (r + a)) 3 := by unfold cn; rw [rw0]
  have fr : ∀ b, s < b → b < s + 370 → m2.1 b = m.1 b := fun b b1 b2 => by rw [a2 _ (by omega), qo _ (by omega)]
  have hC2 : Cls m2.1 s (fun a => m2.1 (r + a)) := Cls_g rows (Cls_c hs fr h)
  have hP2 : Plc m2.1 s r (cn (fun a => m2.1 (r + a)) 3) := by rw [hcn]; exact Plc_c N.2.2.2 fr rows hP
  have hvis : visN m2.1 r = visN m.1 r := funext (visN_g rows)
  have hmw : mW m2.1 r = mW m.1 r := funext fun i => funext fun k => wW_g rows i k
  have hor : ordR m2.1 r = ordR m.1 r := ordR_g rows
  have hL := e_st36 (W := W) (H := H) (m0 := m2) hs hr (by rw [a1]; exact hR1) (by rw [a1]; exact h7) hC2 hP2 (fun k hk => by rw [a3 k hk, vW_c (rows 27 (by decide)) (rows 28 (by decide))]) (cn (fun a => m2.1 (r + a)) 3) 0 zfuel m2 (by omega) (zf_lt (by rw [hcn]; omega)) ⟨rfl, fun _ _ _ _ => rfl, fun _ _ => rfl, by rw [a2 1121 (by decide), qv]; rfl, fun k hk => absurd hk (Nat.not_lt_zero k), fun j hj => absurd hj (Nat.not_lt_zero j)⟩
  obtain ⟨⟨z0, z1, m3⟩, e3, b1, b2, b3, b4, b5, b6⟩ := hL
  rw [show (0 : Int32) = nI 0 from rfl, zob_h e3]
  simp only at b1 b2 b3 b4 b5 b6
  have b4' : m3.1 1121 11 = nI (ordR m2.1 r).1 := b4
  have b5' : ∀ k, k < (ordR m2.1 r).1 → m3.1 1175 k = nI ((ordR m2.1 r).2 k) := b5
  rw [hor] at b4' b5'
  rw [hmw, hvis, hcn] at b6
  refine zok_s ⟨⟨by rw [b1, a1]; exact h7, b4', b5', b6⟩, by rw [b1, a1]; exact q2, fun a ha => by rw [b2 a (by omega) (by omega) (by omega), a2 a (by omega), qo a (by omega)], fun c c1 c3 c4 c11 c12 => ?_, ?_, ?_, ?_, ?_⟩
  · rw [b3 c c11, a2 1121 (by decide), qv, if_neg c4, if_neg c3, if_neg c1, if_neg c12, if_neg c11]
  · rw [b3 12 (by decide), a2 1121 (by decide), qv]; rfl
  · rw [b3 1 (by decide), a2 1121 (by decide), qv]; rfl
  · rw [b3 3 (by decide), a2 1121 (by decide), qv]; rfl
  · rw [b3 4 (by decide), a2 1121 (by decide), qv]; rfl
end ZST3
