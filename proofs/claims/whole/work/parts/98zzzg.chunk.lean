/-! PURE: both packers' chunks -/
section ZCH
variable {W H : Nat}
def cst (x : Int32) : Int32 := if (x &&& 1) = 1 then ush x 1 ^^^ (-306674912) else ush x 1
def c8 : Nat → Int32 → Int32
  | 0, x => x
  | n + 1, x => c8 n (cst x)
theorem and_1 (x : Int32) : (x &&& 1) = 0 ∨ (x &&& 1) = 1 := by
  have h := and_msk (x := x) (k := 1) (s := 2) (by decide) rfl
  have h' : x &&& 1 = nI (x.toInt % 2).toNat := h
  rcases (show x.toInt % 2 = 0 ∨ x.toInt % 2 = 1 by omega) with e | e
  · left
    rw [h', e]
    rfl
  · right
    rw [h', e]
    rfl
theorem e_crcW {sh : zSh} {m : zMem} : ∀ (d v fuel : Nat) (x : Int32), v + d = 8 → d < fuel → L_XPacker_crcWith_6 sh fuel x (nI v) m = some (c8 d x, nI 8, m) := by
  intro d
  induction d with
  | zero =>
    intro v fuel x hv hf
    obtain ⟨fu, rfl⟩ : ∃ fu, fuel = fu + 1 := ⟨fuel - 1, by omega⟩
    obtain rfl : v = 8 := by omega
    rw [L_XPacker_crcWith_6, if_pos (by decide)]
    rfl
  | succ d ih =>
    intro v fuel x hv hf
    obtain ⟨fu, rfl⟩ : ∃ fu, fuel = fu + 1 := ⟨fuel - 1, by omega⟩
    rw [L_XPacker_crcWith_6, if_neg (by rw [show (8 : Int32) = nI 8 from rfl, nI_leD (by decide) (by omega)]; omega), zoL_e, zoL_e, nI_p1, ih (v + 1) fu _ (by omega) (by omega), ih (v + 1) fu _ (by omega) (by omega), c8]
    unfold cst ush
    by_cases c : (x &&& 1) = 1
    · rw [if_pos c, if_pos c]
    · rw [if_neg c, if_neg c]
theorem e_crcM {sh : zSh} {m : zMem} {o : Nat} {v2 v4 : Int32} : ∀ (d v fuel : Nat) (x : Int32), v + d = 8 → d < fuel → L_MPacker_crc_28 sh fuel o v2 x v4 (nI v) m = some (o, v2, c8 d x, v4, nI 8, m) := by
  intro d
  induction d with
  | zero =>
    intro v fuel x hv hf
    obtain ⟨fu, rfl⟩ : ∃ fu, fuel = fu + 1 := ⟨fuel - 1, by omega⟩
    obtain rfl : v = 8 := by omega
    rw [L_MPacker_crc_28, if_pos (by decide)]
    rfl
  | succ d ih =>
    intro v fuel x hv hf
    obtain ⟨fu, rfl⟩ : ∃ fu, fuel = fu + 1 := ⟨fuel - 1, by omega⟩
    rw [L_MPacker_crc_28, if_neg (by rw [show (8 : Int32) = nI 8 from rfl, nI_leD (by decide) (by omega)]; omega), zoL_e, zoL_e, nI_p1, ih (v + 1) fu _ (by omega) (by omega), ih (v + 1) fu _ (by omega) (by omega), c8]
    unfold cst ush
    rcases and_1 x with c | c
    · rw [if_pos c, if_neg (by rw [c]; decide)]
    · rw [if_neg (by rw [c]; decide), if_pos c]
def crcF : List Int32 → Int32 → Int32
  | [], c => c
  | b :: t, c => crcF t (c8 8 (c ^^^ (b &&& 255)))
theorem drop_g {B : List Int32} {i : Nat} (h : i < B.length) : B.drop i = B.getD i 0 :: B.drop (i + 1) := by
  rw [List.drop_eq_getElem_cons h, List.getD_eq_getElem?_getD, List.getElem?_eq_getElem h]
  rfl
theorem c_crc {m : zMem} {B : List Int32} {v1 : Int32} (hR : RF m.2.2) (h : wB 5 1 6 B m) (hB : B.length ≤ 7958) : ∀ (d i fuel : Nat) (c : Int32), i + d = B.length → d < fuel → L_XPacker_closeChunk_12 (sh0 W H) fuel 5 v1 (nI B.length) c (nI i) m = some (5, v1, nI B.length, crcF (B.drop i) c, nI B.length, m) := by
  intro d
  induction d with
  | zero =>
    intro i fuel c hi hf
    obtain ⟨fu, rfl⟩ : ∃ fu, fuel = fu + 1 := ⟨fuel - 1, by omega⟩
    obtain rfl : i = B.length := by omega
    rw [L_XPacker_closeChunk_12, if_pos (by rw [nI_leD (by omega) (by omega)]; omega), List.drop_length]
    rfl
  | succ d ih =>
    intro i fuel c hi hf
    obtain ⟨fu, rfl⟩ : ∃ fu, fuel = fu + 1 := ⟨fuel - 1, by omega⟩
    have hcw : F_XPacker_crcWith (sh0 W H) m c (B.getD i 0 &&& 255) = some (c8 8 (c ^^^ (B.getD i 0 &&& 255)), m) := by
      unfold F_XPacker_crcWith
      rw [zoL_e, zob_h (show L_XPacker_crcWith_6 (sh0 W H) zfuel _ 0 m = _ from e_crcW 8 0 zfuel _ (by omega) (zf_lt (by decide)))]
    rw [L_XPacker_closeChunk_12, if_neg (by rw [nI_leD (by omega) (by omega)]; omega), zoS_h sh_5, zob_h (rf_5_0 hR), zoS_h sh_6, nI_ix (by omega) (by decide), nI_cl (n := i) (by omega), h.2 i (by omega), zoL_e, zob_h hcw]
    dsimp only
    rw [nI_p1, ih (i + 1) fu _ (by omega) (by omega), drop_g (show i < B.length by omega)]
    rfl
theorem m_crc5 {m : zMem} {B : List Int32} (hR : RF m.2.2) (h : wB 1278 3 1280 B m) (hB : B.length ≤ 8192) : ∀ (d i fuel : Nat) (c : Int32), i + d = B.length → d < fuel → L_MPacker_crc_5 (sh0 W H) fuel 1278 (nI B.length) c (nI i) m = some (1278, nI B.length, crcF (B.drop i) c, nI B.length, m) := by
  intro d
  induction d with
  | zero =>
    intro i fuel c hi hf
    obtain ⟨fu, rfl⟩ : ∃ fu, fuel = fu + 1 := ⟨fuel - 1, by omega⟩
    obtain rfl : i = B.length := by omega
    rw [L_MPacker_crc_5, if_pos (by rw [nI_leD (by omega) (by omega)]; omega), List.drop_length]
    rfl
  | succ d ih =>
    intro i fuel c hi hf
    obtain ⟨fu, rfl⟩ : ∃ fu, fuel = fu + 1 := ⟨fuel - 1, by omega⟩
    rw [L_MPacker_crc_5, if_neg (by rw [nI_leD (by omega) (by omega)]; omega), zoS_h sh_1278, zob_h (rf_1278_2 hR), zoS_h sh_1280, nI_ix (by omega) (by decide), nI_cl (n := i) (by omega), h.2 i (by omega), zoL_e, zob_h (show L_MPacker_crc_28 (sh0 W H) zfuel 1278 (nI B.length) _ (nI i) 0 m = _ from e_crcM 8 0 zfuel _ (by omega) (zf_lt (by decide)))]
    dsimp only
    rw [nI_p1, ih (i + 1) fu _ (by omega) (by omega), drop_g (show i < B.length by omega)]
    rfl
/-- what writing leaves at all -/
def pF (o sf A : Nat) (m m' : zMem) : Prop := m'.2 = m.2 ∧ (∀ k, k ≠ o → k ≠ A → m'.1 k = m.1 k) ∧ ∀ c, c ≠ sf → m'.1 o c = m.1 o c
theorem pF_w {o sf A a b : Nat} {m m' : zMem} (h : wF o sf A a b m m') : pF o sf A m m' := ⟨h.1, h.2.1, h.2.2.1⟩
theorem pF_r {o sf A : Nat} {m : zMem} : pF o sf A m m := ⟨rfl, fun _ _ _ => rfl, fun _ _ => rfl⟩
theorem pF_t {o sf A : Nat} {m m' m'' : zMem} (h : pF o sf A m m') (k : pF o sf A m' m'') : pF o sf A m m'' := ⟨k.1.trans h.1, fun x h1 h2 => (k.2.1 x h1 h2).trans (h.2.1 x h1 h2), fun x h1 => (k.2.2 x h1).trans (h.2.2 x h1)⟩
/-- a chunk that is closed -/
def clB (P Q : List Int32) (v : Int32) : List Int32 := ((P ++ nmB v) ++ Q) ++ nmB (crcF Q (-1) ^^^ (-1))
theorem drop_3 {P Z Q : List Int32} (hz : Z.length = 4) : ((P ++ Z) ++ Q).drop (P.length + 4) = Q := by
  rw [List.drop_append_of_le_length (by rw [List.length_append]; omega), List.drop_eq_nil_of_le (by rw [List.length_append]; omega), List.nil_append]
theorem wB_over {o sf A : Nat} {P Z Y Q : List Int32} {m m' : zMem} (hz : Z.length = 4) (hy : Y.length = 4) (h : wB o sf A ((P ++ Z) ++ Q) m) (e1 : m'.1 o sf = nI ((P ++ Z) ++ Q).length) (e2 : ∀ k, k < P.length + 4 → m'.1 A k = (P ++ Y).getD k 0) (e3 : ∀ k, ¬ (P.length ≤ k ∧ k < P.length + 4) → m'.1 A k = m.1 A k) : wB o sf A ((P ++ Y) ++ Q) m' := by
  have l1 : ((P ++ Z) ++ Q).length = P.length + 4 + Q.length := by rw [List.length_append, List.length_append, hz]
  have l2 : ((P ++ Y) ++ Q).length = P.length + 4 + Q.length := by rw [List.length_append, List.length_append, hy]
  refine ⟨by rw [e1, l1, l2], fun k hk => ?_⟩
  rw [getD_app, List.length_append, hy]
  by_cases c : k < P.length + 4
  · rw [if_pos c]
    exact e2 k c
  · rw [if_neg c, e3 k (by omega), h.2 k (by omega), getD_app, List.length_append, hz, if_neg c]
theorem c_close {m : zMem} {P Z Q : List Int32} (hR : RF m.2.2) (hz : Z.length = 4) (h : wB 5 1 6 ((P ++ Z) ++ Q) m) (hB : P.length + 4 + Q.length + 4 ≤ 7958) : zok (F_XPacker_closeChunk (sh0 W H) m 5 (nI P.length)) (fun m' => pF 5 1 6 m m' ∧ wB 5 1 6 (clB P Q ((nI (P.length + 4 + Q.length) - nI P.length) - 8)) m') := by
  have l1 : ((P ++ Z) ++ Q).length = P.length + 4 + Q.length := by rw [List.length_append, List.length_append, hz]
  unfold F_XPacker_closeChunk
  rw [zoS_h sh_5, h.1, zoL_e, nI_p4, zoL_e, zob_h (c_crc (W := W) (H := H) hR h (by omega) (((P ++ Z) ++ Q).length - (P.length + 4)) (P.length + 4) zfuel (-1) (by omega) (zf_lt (by omega))), drop_3 hz]
  dsimp only
  rw [zoS_h sh_5, zoL_e, zoS_h sh_5, l1]
  have h1 : wB 5 1 6 P (mI m 5 1 (nI P.length)) := ⟨by rw [mI_v, if_pos rfl, if_pos rfl], fun k hk => by
    rw [mI_o (by decide), h.2 k (by omega), getD_app, if_pos (by rw [List.length_append]; omega), getD_app, if_pos hk]⟩
  refine zok_b (c_num (W := W) (H := H) (show RF (mI m 5 1 (nI P.length)).2.2 from hR) h1 (by omega)) (fun m2 h2 => ?_)
  obtain ⟨f2, w2⟩ := h2
  rw [zoS_h sh_5, zoL_e, zoS_h sh_5]
  have f2' : pF 5 1 6 m m2 := ⟨f2.1, fun k h5 h6 => by rw [f2.2.1 k h5 h6, mI_o h5], fun c hc => by rw [f2.2.2.1 c hc, mI_v, if_pos rfl, if_neg hc]⟩
  have w3 : wB 5 1 6 ((P ++ nmB ((nI (P.length + 4 + Q.length) - nI P.length) - 8)) ++ Q) (mI m2 5 1 (nI (P.length + 4 + Q.length))) := by
    refine wB_over hz nmB_l h (by rw [mI_v, if_pos rfl, if_pos rfl, l1]) (fun k hk => ?_) (fun k hk => ?_)
    · rw [mI_o (by decide)]
      exact w2.2 k (by rw [List.length_append, nmB_l]; exact hk)
    · rw [mI_o (by decide), f2.2.2.2 k hk, mI_o (by decide)]
  refine zok_b (c_num (W := W) (H := H) (show RF (mI m2 5 1 (nI (P.length + 4 + Q.length))).2.2 by show RF m2.2.2; rw [f2'.1]; exact hR) w3 (by rw [List.length_append, List.length_append, nmB_l]; omega)) (fun m4 h4 => zok_s ⟨?_, h4.2⟩)
  refine pF_t f2' (pF_t ?_ (pF_w h4.1))
  exact ⟨rfl, fun k h5 _ => mI_o h5, fun c hc => by rw [mI_v, if_pos rfl, if_neg hc]⟩
theorem m_close {m : zMem} {P Z Q : List Int32} (hR : RF m.2.2) (hz : Z.length = 4) (h : wB 1278 3 1280 ((P ++ Z) ++ Q) m) (hB : P.length + 4 + Q.length + 4 ≤ 8192) : zok (F_MPacker_finish (sh0 W H) m 1278 (nI P.length)) (fun m' => pF 1278 3 1280 m m' ∧ wB 1278 3 1280 (clB P Q ((nI (P.length + 4 + Q.length) - nI P.length) - 8)) m') := by
  have l1 : ((P ++ Z) ++ Q).length = P.length + 4 + Q.length := by rw [List.length_append, List.length_append, hz]
  have f1 : zfuel = 999995 + 1 + 1 + 1 + 1 + 1 := nrfl rfl
  unfold F_MPacker_finish
  rw [zoS_h sh_1278, h.1, zoL_e, l1]
  generalize hv : (nI (P.length + 4 + Q.length) - nI P.length) - 8 = v
  have s24 : st8 (v >>> (24 &&& 31)) = st8 (ush v 24) := st8_s (c := 24) (by decide) (by decide) _ (ush_24 v)
  have s16 : st8 (v >>> (16 &&& 31)) = st8 (ush v 16) := st8_s (c := 16) (by decide) (by decide) _ (ush_16 v)
  have s8 : st8 (v >>> (8 &&& 31)) = st8 (ush v 8) := st8_s (c := 8) (by decide) (by decide) _ (ush_8 v)
  have a0 : nI P.length + (0 : Int32) = nI P.length := nI_pp P.length 0
  have hl : L_MPacker_finish_12 (sh0 W H) zfuel 1278 (nI P.length) v 0 m = some (1278, nI P.length, v, 4, mI (mI (mI (mI m 1280 P.length (st8 (ush v 24))) 1280 (P.length + 1) (st8 (ush v 16))) 1280 (P.length + 2) (st8 (ush v 8))) 1280 (P.length + 3) (st8 (ush v 0))) := by
    rw [f1, L_MPacker_finish_12, if_neg (by decide), zoS_h sh_1278, zob_h (rf_1278_2 hR), zoL_e, a0, zoL_e, zoS_h sh_1280, nI_ix (by omega) (by decide), nI_cl (n := P.length) (by omega), zoL_e, show (0 : Int32) + 1 = 1 by decide, L_MPacker_finish_12, if_neg (by decide), zoS_h sh_1278, zob_h (rf_1278_2 (show RF (mI m 1280 P.length _).2.2 from hR)), zoL_e, nI_p1, zoL_e, zoS_h sh_1280, nI_ix (by omega) (by decide), nI_cl (n := P.length + 1) (by omega), zoL_e, show (1 : Int32) + 1 = 2 by decide, L_MPacker_finish_12, if_neg (by decide), zoS_h sh_1278, zob_h (rf_1278_2 (show RF (mI (mI m 1280 P.length _) 1280 (P.length + 1) _).2.2 from hR)), zoL_e, nI_p2, zoL_e, zoS_h sh_1280, nI_ix (by omega) (by decide), nI_cl (n := P.length + 2) (by omega), zoL_e, show (2 : Int32) + 1 = 3 by decide, L_MPacker_finish_12, if_neg (by decide), zoS_h sh_1278, zob_h (rf_1278_2 (show RF (mI (mI (mI m 1280 P.length _) 1280 (P.length + 1) _) 1280 (P.length + 2) _).2.2 from hR)), zoL_e, nI_p3, zoL_e, zoS_h sh_1280, nI_ix (by omega) (by decide), nI_cl (n := P.length + 3) (by omega), zoL_e, show (3 : Int32) + 1 = 4 by decide, L_MPacker_finish_12, if_pos (by decide)]
    rfl
  rw [zob_h hl, ush_0, ← s24, ← s16, ← s8]
  dsimp only
  generalize hm1 : mI (mI (mI (mI m 1280 P.length (st8 (v >>> (24 &&& 31)))) 1280 (P.length + 1) (st8 (v >>> (16 &&& 31)))) 1280 (P.length + 2) (st8 (v >>> (8 &&& 31)))) 1280 (P.length + 3) (st8 v) = m1
  have o1 : ∀ a, a ≠ 1280 → m1.1 a = m.1 a := fun a ha => by rw [← hm1, mI_o ha, mI_o ha, mI_o ha, mI_o ha]
  have r1 : m1.2 = m.2 := by rw [← hm1]; rfl
  have v1 : ∀ k, m1.1 1280 k = if k = P.length + 3 then st8 v else if k = P.length + 2 then st8 (v >>> (8 &&& 31)) else if k = P.length + 1 then st8 (v >>> (16 &&& 31)) else if k = P.length then st8 (v >>> (24 &&& 31)) else m.1 1280 k := fun k => by rw [← hm1, mI_v, if_pos rfl, mI_v, if_pos rfl, mI_v, if_pos rfl, mI_v, if_pos rfl]
  have w1 : wB 1278 3 1280 ((P ++ nmB v) ++ Q) m1 := by
    refine wB_over hz nmB_l h (by rw [o1 1278 (by decide)]; exact h.1) (fun k hk => ?_) (fun k hk => ?_)
    · rw [v1, getD_app]
      by_cases c : k < P.length
      · rw [if_neg (by omega), if_neg (by omega), if_neg (by omega), if_neg (by omega), if_pos c, h.2 k (by omega), getD_app, if_pos (by rw [List.length_append]; omega), getD_app, if_pos c]
      · rw [if_neg c]
        rcases (show k = P.length ∨ k = P.length + 1 ∨ k = P.length + 2 ∨ k = P.length + 3 by omega) with rfl | rfl | rfl | rfl
        · rw [if_neg (by omega), if_neg (by omega), if_neg (by omega), if_pos rfl, Nat.sub_self]; rfl
        · rw [if_neg (by omega), if_neg (by omega), if_pos rfl, Nat.add_sub_cancel_left]; rfl
        · rw [if_neg (by omega), if_pos rfl, Nat.add_sub_cancel_left]; rfl
        · rw [if_pos rfl, Nat.add_sub_cancel_left]; rfl
    · rw [v1, if_neg (by omega), if_neg (by omega), if_neg (by omega), if_neg (by omega)]
  have R1 : RF m1.2.2 := by rw [r1]; exact hR
  have l2 : ((P ++ nmB v) ++ Q).length = P.length + 4 + Q.length := by rw [List.length_append, List.length_append, nmB_l]
  have hcrc : F_MPacker_crc (sh0 W H) m1 1278 (nI (P.length + 4)) (nI (P.length + 4 + Q.length)) = some (crcF Q (-1) ^^^ (-1), m1) := by
    unfold F_MPacker_crc
    have := m_crc5 (W := W) (H := H) R1 w1 (by omega) (((P ++ nmB v) ++ Q).length - (P.length + 4)) (P.length + 4) zfuel (-1) (by omega) (zf_lt (by omega))
    rw [l2, drop_3 nmB_l] at this
    rw [zob_h this]
  rw [zoS_h sh_1278, zoS_h sh_1278, o1 1278 (by decide), h.1, l1, nI_p4, zob_h hcrc]
  dsimp only
  rw [zoS_h sh_1278]
  refine zok_b (m_num (W := W) (H := H) R1 w1 (by omega)) (fun m4 h4 => zok_s ⟨pF_t ⟨r1, fun k _ h6 => o1 k h6, fun c _ => by rw [o1 1278 (by decide)]⟩ (pF_w h4.1), h4.2⟩)
end ZCH
