/-! PURE: the reference reads a whole text -/
theorem sRead_b {t : Nat → Int32} {n : Nat} {g : Nat → Nat → Int32} : sRead t n g = (sgn t n 123 (wp t n 0)).bind fun p1 => if p1 < n ∧ t p1 = 125 then rdTl t n g p1 else ((pLp t n 7 0 g p1).bind pTl).bind fun a => rdTl t n a.1 a.2 := by
  unfold sRead
  congr 1
  funext p1
  by_cases hx : p1 < n ∧ t p1 = 125
  · rw [if_pos hx, if_pos hx]
  · rw [if_neg hx, if_neg hx]
    cases pLp t n 7 0 g p1 with
    | error e => rfl
    | ok a =>
      obtain ⟨a0, a1, a2⟩ := a
      cases a0 <;> rfl
section ZMX
variable {W H : Nat} {mm : zMem} {n : Nat}
def mRd (mm : zMem) (n : Nat) (g' : Nat → Nat → Int32) (m' : zMem) : Prop := gC g' ∧ ∃ q, mS mm n q g' m'
theorem m_tail {p : Nat} {g : Nat → Nat → Int32} {m : zMem} (h : mS mm n p g m) (hg : gC g) : oR (rdTl (mm.1 1186) n g p) (Option.bind (F_MReader_sign (sh0 W H) m 1277 125) (fun p68 => if p68.1 1277 4 = 0 then Option.bind (F_MReader_next (sh0 W H) p68 1277) (fun p74 => if p74.1 = -1 then some p74.2 else Option.bind (F_MReader_fail (sh0 W H) p74.2 1277 1 (p74.2.1 1277 3)) (fun p80 => some p80)) else some p68)) (mRd mm n) (mE mm) := by
  unfold rdTl
  refine oR_k (m_sign h (by decide) (by decide)) (fun q m1 _ h1 => ?_) (fun a b r hE => ?_)
  rotate_left
  · simp only [mE_w hE, ↓reduceIte]
    exact zok_s hE
  have hw := h1.1.2.1
  simp only [hw, ↓reduceIte, m_next' h1.1, zob_e, bb_m1, mP_3]
  by_cases hq : q < n
  · rw [if_pos hq, if_neg (fun z => z hq)]
    exact zok_b (m_fail (k := 1) (q := q) (mS_Pp h1.1) (by decide)) (fun m hm => zok_s hm)
  · rw [if_neg hq, if_pos hq]
    exact zok_s ⟨hg, q, mS_Pp h1.1⟩
theorem m_tailE {k q : Nat} {m : zMem} (h : mE mm k q m) : Option.bind (F_MReader_sign (sh0 W H) m 1277 125) (fun p68 => if p68.1 1277 4 = 0 then Option.bind (F_MReader_next (sh0 W H) p68 1277) (fun p74 => if p74.1 = -1 then some p74.2 else Option.bind (F_MReader_fail (sh0 W H) p74.2 1277 1 (p74.2.1 1277 3)) (fun p80 => some p80)) else some p68) = some m := by
  simp only [m_signE h, zob_e, mE_w h, ↓reduceIte]
theorem m_start (hR : RF mm.2.2) (hn : n ≤ 65536) (hb : btB (mm.1 1186) n) : mS mm n (wp (mm.1 1186) n 0) (fun a => mm.1 (1217 + a)) (mI (mI (mI (mI (mI mm 1277 2 (nI n)) 1277 3 0) 1277 4 0) 1277 5 0) 1277 10 0) ∧ (mI (mI (mI (mI (mI mm 1277 2 (nI n)) 1277 3 0) 1277 4 0) 1277 5 0) 1277 10 0).1 1277 10 = nI 0 := by
  have e : mI (mI (mI (mI (mI mm 1277 2 (nI n)) 1277 3 0) 1277 4 0) 1277 5 0) 1277 10 0 = sI mm 1277 (upd (upd (upd (upd (upd (mm.1 1277) 2 (nI n)) 3 0) 4 0) 5 0) 10 0) := by
    simp only [mI_sI, sI_sI, sI_at]
  rw [e]
  refine ⟨⟨⟨0, ⟨hR, ?_, ?_, hn, Nat.zero_le _, ?_⟩, rfl⟩, ?_, ?_, rfl, fun a ha => ?_, fun a h1 h2 => ?_⟩, ?_⟩
  · rw [sI_at]
    rfl
  · rw [sI_at]
    rfl
  · rw [sI_ne (by decide)]
    exact hb
  · rw [sI_at]
    rfl
  · rw [sI_at]
    rfl
  · rw [sI_ne (by omega)]
  · rw [sI_ne h1]
  · rw [sI_at]
    rfl
set_option maxHeartbeats 4000000 in
theorem m_read (hR : RF mm.2.2) (hn : n ≤ 65536) (hb : btB (mm.1 1186) n) (hg : gC (fun a => mm.1 (1217 + a))) : oR (sRead (mm.1 1186) n (fun a => mm.1 (1217 + a))) (F_MReader_read (sh0 W H) mm 1277 (nI n)) (mRd mm n) (mE mm) := by
  have stop : ∀ (m2 : zMem), L_MReader_read_53 (sh0 W H) zfuel 1277 0 m2 = some (1277, 0, m2) := by
    intro m2
    rw [zfuel_s]
    simp only [L_MReader_read_53, i0eq0, ↓reduceIte]
  obtain ⟨h, h10⟩ := m_start hR hn hb
  rw [sRead_b]
  unfold F_MReader_read
  simp only [sh_1277, zoS_e, zoL_e]
  generalize mI (mI (mI (mI (mI mm 1277 2 (nI n)) 1277 3 0) 1277 4 0) 1277 5 0) 1277 10 0 = m at h h10
  refine oR_k (m_sign h (by decide) (by decide)) (fun p1 m1 _ h1 => ?_) (fun a b r hE => ?_)
  rotate_left
  · simp only [mE_w hE, ↓reduceIte, stop, zob_e, sh_1277, zoS_e]
    rw [m_tailE hE]
    exact zok_s hE
  have hw1 := h1.1.2.1
  have b1 := bb_eq (t := mm.1 1186) (n := n) (k := p1) (mS_b h1.1) (c := 125) (by decide) (by decide)
  simp only [hw1, ↓reduceIte, m_next' h1.1, zob_e, b1]
  by_cases hx : p1 < n ∧ mm.1 1186 p1 = 125
  · rw [if_pos hx, if_pos hx]
    simp only [stop, zob_e, sh_1277, zoS_e]
    exact m_tail (mS_Pp h1.1) hg
  · rw [if_neg hx, if_neg hx]
    have h110 : (mP m1 p1).1 1277 10 = nI 0 := by
      show (sI m1 1277 _).1 1277 10 = _
      rw [sI_at, upd_ne (by decide), h1.2 10 (by decide), h10]
    have hq := m_pLp (W := W) (H := H) 7 7 0 _ p1 zfuel (mP m1 p1) (Nat.le_refl _) (zf_lt (by decide)) (by decide) (by decide) (mS_Pp h1.1) h110 hg
    cases hs : (pLp (mm.1 1186) n 7 0 (fun a => mm.1 (1217 + a)) p1).bind pTl with
    | error e =>
      rw [hs] at hq
      refine zok_b hq (fun q hq => ?_)
      rw [hq.1]
      simp only [sh_1277, zoS_e]
      rw [m_tailE hq.2]
      exact zok_s hq.2
    | ok a =>
      rw [hs] at hq
      obtain ⟨q, e, q1, q2, q3⟩ := hq
      rw [e]
      simp only [zob_e]
      rw [q1]
      simp only [sh_1277, zoS_e]
      exact m_tail q2 q3
end ZMX
