/-! PURE: both packers put bytes -/
section ZBY
variable {W H : Nat}
/-- a byte as it is kept -/
def st8 (x : Int32) : Int32 := vp_nar .byte (x.toInt8.toInt32)
def ush (x k : Int32) : Int32 := (x.toUInt32 >>> (k.toUInt32 &&& Int32.toUInt32 31)).toInt32
/-- what putting bytes leaves: only places a to b of A and the size change -/
def wF (o sf A a b : Nat) (m m' : zMem) : Prop := m'.2 = m.2 ∧ (∀ k, k ≠ o → k ≠ A → m'.1 k = m.1 k) ∧ (∀ c, c ≠ sf → m'.1 o c = m.1 o c) ∧ ∀ k, ¬ (a ≤ k ∧ k < b) → m'.1 A k = m.1 A k
theorem wF_r {o sf A a b : Nat} {m : zMem} : wF o sf A a b m m := ⟨rfl, fun _ _ _ => rfl, fun _ _ => rfl, fun _ _ => rfl⟩
theorem wF_t {o sf A a b c d : Nat} {m m' m'' : zMem} (h : wF o sf A a b m m') (k : wF o sf A c d m' m'') (e : ∀ x, ¬ (a ≤ x ∧ x < d) → ¬ (a ≤ x ∧ x < b) ∧ ¬ (c ≤ x ∧ x < d)) : wF o sf A a d m m'' := ⟨k.1.trans h.1, fun x h1 h2 => (k.2.1 x h1 h2).trans (h.2.1 x h1 h2), fun x h1 => (k.2.2.1 x h1).trans (h.2.2.1 x h1), fun x h1 => (k.2.2.2 x (e x h1).2).trans (h.2.2.2 x (e x h1).1)⟩
/-- the bytes that are written -/
def wB (o sf A : Nat) (B : List Int32) (m : zMem) : Prop := m.1 o sf = nI B.length ∧ ∀ k, k < B.length → m.1 A k = B.getD k 0
theorem getD_app {B C : List Int32} {k : Nat} : (B ++ C).getD k 0 = if k < B.length then B.getD k 0 else C.getD (k - B.length) 0 := by
  rw [List.getD_eq_getElem?_getD, List.getD_eq_getElem?_getD, List.getD_eq_getElem?_getD]
  by_cases h : k < B.length
  · rw [if_pos h, List.getElem?_append_left h]
  · rw [if_neg h, List.getElem?_append_right (by omega)]
theorem wB_1 {o sf A : Nat} {B : List Int32} {v : Int32} {m m' : zMem} (hA : A ≠ o) (h : wB o sf A B m) (e1 : m'.1 o sf = nI (B.length + 1)) (e2 : m'.1 A = upd (m.1 A) B.length v) : wB o sf A (B ++ [v]) m' := by
  refine ⟨by rw [e1, List.length_append]; rfl, fun k hk => ?_⟩
  rw [List.length_append] at hk
  have hk' : k < B.length + 1 := hk
  rw [e2, getD_app]
  by_cases c : k < B.length
  · rw [if_pos c, upd_ne (by omega)]
    exact h.2 k c
  · obtain rfl : k = B.length := by omega
    rw [if_neg c, upd_at, Nat.sub_self]
    rfl
theorem c_put {m : zMem} {B : List Int32} {x : Int32} (hR : RF m.2.2) (h : wB 5 1 6 B m) (hB : B.length < 7958) : zok (F_XPacker_putByte (sh0 W H) m 5 x) (fun m' => wF 5 1 6 B.length (B.length + 1) m m' ∧ wB 5 1 6 (B ++ [st8 x]) m') := by
  have h1 := h.1
  unfold F_XPacker_putByte
  rw [zoS_h sh_5, zoS_h sh_5, zob_h (rf_5_0 hR), sh_6, zoA_e (by decide), h1, if_neg (by show ¬ (nI 7958 ≤ nI B.length); rw [nI_leD (by decide) (by omega)]; omega), zoS_h sh_5, zob_h (rf_5_0 hR), zoS_h sh_5, zoL_e, zoL_e, zoS_h sh_6, nI_ix hB (by decide), nI_cl (n := B.length) (by omega), zoL_e, zoS_h sh_5, mI_o (show 5 ≠ 6 by decide), h1, nI_p1, zoL_e, zoS_h sh_5, zoL_e]
  refine zok_s ⟨⟨rfl, fun k h5 h6 => by rw [mI_o h5, mI_o h6], fun c hc => by rw [mI_v, if_pos rfl, if_neg hc, mI_o (by decide)], fun k hk => by rw [mI_o (by decide), mI_v, if_pos rfl, if_neg (by omega)]⟩, wB_1 (by decide) h (by rw [mI_v, if_pos rfl, if_pos rfl]) (by rw [mI_o (by decide), mI_a]; rfl)⟩
theorem m_put {m : zMem} {B : List Int32} {x : Int32} (hR : RF m.2.2) (h : wB 1278 3 1280 B m) (hB : B.length < 8192) : zok (F_MPacker_put (sh0 W H) m 1278 x) (fun m' => wF 1278 3 1280 B.length (B.length + 1) m m' ∧ wB 1278 3 1280 (B ++ [st8 x]) m') := by
  have h1 := h.1
  unfold F_MPacker_put
  rw [zoS_h sh_1278, zob_h (rf_1278_2 hR), zoS_h sh_1278, zoL_e, h1, zoL_e, zoS_h sh_1280, nI_ix hB (by decide), nI_cl (n := B.length) (by omega), zoL_e, zoS_h sh_1278, mI_o (show 1278 ≠ 1280 by decide), h1, nI_p1, zoL_e, zoS_h sh_1278, zoL_e]
  refine zok_s ⟨⟨rfl, fun k h5 h6 => by rw [mI_o h5, mI_o h6], fun c hc => by rw [mI_v, if_pos rfl, if_neg hc, mI_o (by decide)], fun k hk => by rw [mI_o (by decide), mI_v, if_pos rfl, if_neg (by omega)]⟩, wB_1 (by decide) h (by rw [mI_v, if_pos rfl, if_pos rfl]) (by rw [mI_o (by decide), mI_a]; rfl)⟩
/-- a number's four bytes -/
def nmB (v : Int32) : List Int32 := [st8 (v >>> (24 &&& 31)), st8 (v >>> (16 &&& 31)), st8 (v >>> (8 &&& 31)), st8 v]
theorem nmB_l {v : Int32} : (nmB v).length = 4 := rfl
theorem c_num {m : zMem} {B : List Int32} {v : Int32} (hR : RF m.2.2) (h : wB 5 1 6 B m) (hB : B.length + 4 ≤ 7958) : zok (F_XPacker_putNumber (sh0 W H) m 5 v) (fun m' => wF 5 1 6 B.length (B.length + 4) m m' ∧ wB 5 1 6 (B ++ nmB v) m') := by
  unfold F_XPacker_putNumber
  rw [zoS_h sh_5]
  refine zok_b (c_put hR h (by omega)) (fun m1 h1 => ?_)
  rw [zoS_h sh_5]
  refine zok_b (c_put (by rw [h1.1.1]; exact hR) h1.2 (by rw [List.length_append]; show B.length + 1 < _; omega)) (fun m2 h2 => ?_)
  have f2 := wF_t h1.1 h2.1 (fun x hx => by rw [List.length_append] at hx ⊢; have : [st8 (v >>> (24 &&& 31))].length = 1 := rfl; omega)
  rw [zoS_h sh_5]
  refine zok_b (c_put (by rw [f2.1]; exact hR) h2.2 (by rw [List.length_append, List.length_append]; show B.length + 1 + 1 < _; omega)) (fun m3 h3 => ?_)
  have f3 := wF_t f2 h3.1 (fun x hx => by simp only [List.length_append, List.length_cons, List.length_nil] at hx ⊢; omega)
  rw [zoS_h sh_5]
  refine zok_b (c_put (by rw [f3.1]; exact hR) h3.2 (by simp only [List.length_append, List.length_cons, List.length_nil]; omega)) (fun m4 h4 => zok_s ?_)
  have f4 := wF_t f3 h4.1 (fun x hx => by simp only [List.length_append, List.length_cons, List.length_nil] at hx ⊢; omega)
  simp only [List.length_append, List.length_cons, List.length_nil] at f4
  refine ⟨f4, ?_⟩
  have := h4.2
  rw [List.append_assoc, List.append_assoc, List.append_assoc] at this
  exact this
theorem st8_e {x y : Int32} (h : ∀ i, i < 8 → x.toBitVec.getLsbD i = y.toBitVec.getLsbD i) : st8 x = st8 y := by
  have : x.toInt8 = y.toInt8 := by
    apply Int8.toBitVec_inj.mp
    show x.toBitVec.signExtend 8 = y.toBitVec.signExtend 8
    apply BitVec.eq_of_getLsbD_eq
    intro i hi
    rw [BitVec.getLsbD_signExtend, BitVec.getLsbD_signExtend, if_pos (by omega), if_pos (by omega), h i hi]
  unfold st8
  rw [this]
theorem st8_s {v k : Int32} {c : Nat} (hc : c ≤ 24) (h : (k.toBitVec.smod 32).toNat = c) (u : Int32) (h2 : u.toBitVec = v.toBitVec >>> c) : st8 (v >>> k) = st8 u := by
  apply st8_e
  intro i hi
  rw [h2]
  show (v.toBitVec.sshiftRight ((k.toBitVec.smod 32).toNat)).getLsbD i = (v.toBitVec >>> c).getLsbD i
  rw [h, BitVec.getLsbD_sshiftRight, BitVec.getLsbD_ushiftRight]
  have e1 : ¬ (32 ≤ i) := by omega
  have e2 : c + i < 32 := by omega
  simp [e1, e2]
theorem ush_24 (v : Int32) : (ush v 24).toBitVec = v.toBitVec >>> 24 := rfl
theorem ush_16 (v : Int32) : (ush v 16).toBitVec = v.toBitVec >>> 16 := rfl
theorem ush_8 (v : Int32) : (ush v 8).toBitVec = v.toBitVec >>> 8 := rfl
theorem ush_0 (v : Int32) : ush v 0 = v := by
  apply Int32.toBitVec_inj.mp
  show v.toBitVec >>> 0 = v.toBitVec
  exact BitVec.ushiftRight_zero _
theorem m_num {m : zMem} {B : List Int32} {v : Int32} (hR : RF m.2.2) (h : wB 1278 3 1280 B m) (hB : B.length + 4 ≤ 8192) : zok (F_MPacker_put4 (sh0 W H) m 1278 v) (fun m' => wF 1278 3 1280 B.length (B.length + 4) m m' ∧ wB 1278 3 1280 (B ++ nmB v) m') := by
  have s24 : st8 (v >>> (24 &&& 31)) = st8 (ush v 24) := st8_s (c := 24) (by decide) (by decide) _ (ush_24 v)
  have s16 : st8 (v >>> (16 &&& 31)) = st8 (ush v 16) := st8_s (c := 16) (by decide) (by decide) _ (ush_16 v)
  have s8 : st8 (v >>> (8 &&& 31)) = st8 (ush v 8) := st8_s (c := 8) (by decide) (by decide) _ (ush_8 v)
  have f1 : zfuel = 999995 + 1 + 1 + 1 + 1 + 1 := nrfl rfl
  unfold F_MPacker_put4
  rw [f1, L_MPacker_put4_3, if_neg (by decide), zoS_h sh_1278, zoL_e, show (24 : Int32) + (-8) = 16 by decide]
  refine zok_b (zok_b (show zok (F_MPacker_put (sh0 W H) m 1278 (ush v 24)) _ from m_put hR h (by omega)) (P := _) (Q := fun q => wF 1278 3 1280 B.length (B.length + 4) m q.2.2.2 ∧ wB 1278 3 1280 (B ++ nmB v) q.2.2.2) (fun m1 h1 => ?_)) (fun q hq => zok_s hq)
  rw [L_MPacker_put4_3, if_neg (by decide), zoS_h sh_1278, zoL_e, show (16 : Int32) + (-8) = 8 by decide]
  refine zok_b (show zok (F_MPacker_put (sh0 W H) m1 1278 (ush v 16)) _ from m_put (by rw [h1.1.1]; exact hR) h1.2 (by simp only [List.length_append, List.length_cons, List.length_nil]; omega)) (fun m2 h2 => ?_)
  have f2 := wF_t h1.1 h2.1 (fun x hx => by simp only [List.length_append, List.length_cons, List.length_nil] at hx ⊢; omega)
  rw [L_MPacker_put4_3, if_neg (by decide), zoS_h sh_1278, zoL_e, show (8 : Int32) + (-8) = 0 by decide]
  refine zok_b (show zok (F_MPacker_put (sh0 W H) m2 1278 (ush v 8)) _ from m_put (by rw [f2.1]; exact hR) h2.2 (by simp only [List.length_append, List.length_cons, List.length_nil]; omega)) (fun m3 h3 => ?_)
  have f3 := wF_t f2 h3.1 (fun x hx => by simp only [List.length_append, List.length_cons, List.length_nil] at hx ⊢; omega)
  rw [L_MPacker_put4_3, if_neg (by decide), zoS_h sh_1278, zoL_e]
  refine zok_b (show zok (F_MPacker_put (sh0 W H) m3 1278 (ush v 0)) _ from m_put (by rw [f3.1]; exact hR) h3.2 (by simp only [List.length_append, List.length_cons, List.length_nil]; omega)) (fun m4 h4 => ?_)
  have f4 := wF_t f3 h4.1 (fun x hx => by simp only [List.length_append, List.length_cons, List.length_nil] at hx ⊢; omega)
  simp only [List.length_append, List.length_cons, List.length_nil] at f4
  rw [L_MPacker_put4_3, if_pos (by decide)]
  refine zok_s ⟨f4, ?_⟩
  have := h4.2
  rw [List.append_assoc, List.append_assoc, List.append_assoc, ush_0, ← s24, ← s16, ← s8] at this
  exact this
end ZBY
