/-! PURE: both packers write a file -/
section ZWR
variable {W H : Nat}
def nm4 (a b c d : Int32) : List Int32 := [st8 a, st8 b, st8 c, st8 d]
/-- the class's packer with its bytes B -/
def cI (R : Nat → Nat) (N : Nat) (m0 : zMem) (B : List Int32) (m : zMem) : Prop := (m.2 = m0.2 ∧ ∀ k, (k < 5 ∨ 10 < k) → m.1 k = m0.1 k) ∧ rwI 8 R N m ∧ m.1 5 4 = nI N ∧ wB 5 1 6 B m ∧ RF m.2.2
theorem cI_p {R : Nat → Nat} {N : Nat} {m0 m m' : zMem} {B B' : List Int32} (h : cI R N m0 B m) (k : pF 5 1 6 m m') (w : wB 5 1 6 B' m') : cI R N m0 B' m' := by
  obtain ⟨⟨a1, a2⟩, a3, a4, a5, a6⟩ := h
  exact ⟨⟨k.1.trans a1, fun x hx => by rw [k.2.1 x (by omega) (by omega), a2 x hx]⟩, fun x hx => by rw [k.2.1 8 (by decide) (by decide)]; exact a3 x hx, by rw [k.2.2 4 (by decide)]; exact a4, w, by rw [k.1]; exact a6⟩
theorem cI_z {R : Nat → Nat} {N : Nat} {m0 m m' : zMem} {B B' : List Int32} (h : cI R N m0 B m) (k : cZ m m') (w : wB 5 1 6 B' m') : cI R N m0 B' m' := by
  obtain ⟨⟨a1, a2⟩, a3, a4, a5, a6⟩ := h
  exact ⟨⟨k.1.trans a1, fun x hx => by rw [k.2.1 x (by omega) (by omega) (by omega) (by omega), a2 x hx]⟩, rwI_Z a3 k, by rw [k.2.2 4 (by decide) (by decide) (by decide) (by decide) (by decide)]; exact a4, w, by rw [k.1]; exact a6⟩
theorem c_num' {R : Nat → Nat} {N : Nat} {m0 m : zMem} {B : List Int32} {v : Int32} (h : cI R N m0 B m) (hB : B.length + 4 ≤ 7958) : zok (F_XPacker_putNumber (sh0 W H) m 5 v) (fun m' => cI R N m0 (B ++ nmB v) m') := zok_w (c_num h.2.2.2.2 h.2.2.2.1 hB) (fun m' g => cI_p h (pF_w g.1) g.2)
theorem c_put' {R : Nat → Nat} {N : Nat} {m0 m : zMem} {B : List Int32} {v : Int32} (h : cI R N m0 B m) (hB : B.length < 7958) : zok (F_XPacker_putByte (sh0 W H) m 5 v) (fun m' => cI R N m0 (B ++ [st8 v]) m') := zok_w (c_put h.2.2.2.2 h.2.2.2.1 hB) (fun m' g => cI_p h (pF_w g.1) g.2)
theorem c_open' {R : Nat → Nat} {N t : Nat} {m0 m : zMem} {B : List Int32} {a b c d : Int32} (h : cI R N m0 B m) (hB : B.length + 8 ≤ 7958) (ht : t < 67) (hn : ztxn t = 4) (h0 : ztxc t 0 = a) (h1 : ztxc t 1 = b) (h2 : ztxc t 2 = c) (h3 : ztxc t 3 = d) : zok (F_XPacker_openChunk (sh0 W H) m 5 t) (fun z => z.1 = nI B.length ∧ cI R N m0 ((B ++ nmB 0) ++ nm4 a b c d) z.2) := by
  have f1 : zfuel = 999995 + 1 + 1 + 1 + 1 + 1 := nrfl rfl
  have k0 : (0 : Int32).toNatClampNeg = 0 := by decide
  have k1 : (1 : Int32).toNatClampNeg = 1 := by decide
  have k2 : (2 : Int32).toNatClampNeg = 2 := by decide
  have k3 : (3 : Int32).toNatClampNeg = 3 := by decide
  unfold F_XPacker_openChunk
  rw [zoS_h sh_5, h.2.2.2.1.1, zoL_e, zoS_h sh_5]
  refine zok_b (c_num' (W := W) (H := H) h (by omega)) (fun m1 g1 => ?_)
  rw [f1, L_XPacker_openChunk_12, if_pos ht, hn, if_neg (by decide), if_pos ⟨ht, by decide, by decide⟩, zoS_h sh_5, k0, h0, zoL_e]
  refine zok_b (zok_b (c_put' (W := W) (H := H) g1 (by rw [List.length_append, nmB_l]; omega)) (Q := fun q => q.2.2.1 = nI B.length ∧ cI R N m0 ((B ++ nmB 0) ++ nm4 a b c d) q.2.2.2.2) (fun m2 g2 => ?_)) (fun q hq => zok_s hq)
  rw [show (0 : Int32) + 1 = 1 by decide, L_XPacker_openChunk_12, if_pos ht, hn, if_neg (by decide), if_pos ⟨ht, by decide, by decide⟩, zoS_h sh_5, k1, h1, zoL_e]
  refine zok_b (c_put' (W := W) (H := H) g2 (by rw [List.length_append, List.length_append, nmB_l]; show B.length + 4 + 1 < _; omega)) (fun m3 g3 => ?_)
  rw [show (1 : Int32) + 1 = 2 by decide, L_XPacker_openChunk_12, if_pos ht, hn, if_neg (by decide), if_pos ⟨ht, by decide, by decide⟩, zoS_h sh_5, k2, h2, zoL_e]
  refine zok_b (c_put' (W := W) (H := H) g3 (by rw [List.length_append, List.length_append, List.length_append, nmB_l]; show B.length + 4 + 1 + 1 < _; omega)) (fun m4 g4 => ?_)
  rw [show (2 : Int32) + 1 = 3 by decide, L_XPacker_openChunk_12, if_pos ht, hn, if_neg (by decide), if_pos ⟨ht, by decide, by decide⟩, zoS_h sh_5, k3, h3, zoL_e]
  refine zok_b (c_put' (W := W) (H := H) g4 (by rw [List.length_append, List.length_append, List.length_append, List.length_append, nmB_l]; show B.length + 4 + 1 + 1 + 1 < _; omega)) (fun m5 g5 => ?_)
  rw [show (3 : Int32) + 1 = 4 by decide, L_XPacker_openChunk_12, if_pos ht, hn, if_pos (by decide)]
  refine zok_s ⟨rfl, ?_⟩
  have e : (((((B ++ nmB 0) ++ [st8 a]) ++ [st8 b]) ++ [st8 c]) ++ [st8 d]) = (B ++ nmB 0) ++ nm4 a b c d := by
    rw [List.append_assoc, List.append_assoc, List.append_assoc]
    rfl
  rw [e] at g5
  exact g5
theorem c_close' {R : Nat → Nat} {N : Nat} {m0 m : zMem} {P Z Q : List Int32} (hz : Z.length = 4) (h : cI R N m0 ((P ++ Z) ++ Q) m) (hB : P.length + 4 + Q.length + 4 ≤ 7958) : zok (F_XPacker_closeChunk (sh0 W H) m 5 (nI P.length)) (fun m' => cI R N m0 (clB P Q ((nI (P.length + 4 + Q.length) - nI P.length) - 8)) m') := zok_w (c_close h.2.2.2.2 hz h.2.2.2.1 hB) (fun m' g => cI_p h g.1 g.2)
/-- the file -/
def hdB : List Int32 := nmB (-1991225785) ++ nmB 218765834
def q1B (W H : Nat) : List Int32 := (((nm4 73 72 68 82 ++ nmB (nI W)) ++ nmB (nI H)) ++ nmB 134348800) ++ [st8 0]
def b1B (W H : Nat) : List Int32 := clB hdB (q1B W H) ((nI (8 + 4 + 17) - nI 8) - 8)
def q2B (R : Nat → Nat) (N : Nat) : List Int32 := (((nm4 73 68 65 84 ++ [st8 120]) ++ [st8 1]) ++ dfl (allB R N)) ++ nmB (adS R N)
def b2B (W H : Nat) (R : Nat → Nat) (N : Nat) : List Int32 := clB (b1B W H) (q2B R N) ((nI (33 + 4 + (q2B R N).length) - nI 33) - 8)
def b3B (W H : Nat) (R : Nat → Nat) (N : Nat) : List Int32 := clB (b2B W H R N) (nm4 73 69 78 68) ((nI ((b2B W H R N).length + 4 + 4) - nI (b2B W H R N).length) - 8)
theorem clB_l {P Q : List Int32} {v : Int32} : (clB P Q v).length = P.length + 4 + Q.length + 4 := by
  unfold clB
  rw [List.length_append, List.length_append, List.length_append, nmB_l, nmB_l]
theorem q1B_l : (q1B W H).length = 17 := by
  unfold q1B
  rw [List.length_append, List.length_append, List.length_append, List.length_append, nmB_l, nmB_l, nmB_l]
  rfl
theorem b1B_l : (b1B W H).length = 33 := by
  unfold b1B
  rw [clB_l, q1B_l]
  rfl
theorem q2B_l {R : Nat → Nat} {N : Nat} : (q2B R N).length = 6 + ((allB R N).length + 7) / 8 + 4 := by
  unfold q2B
  rw [List.length_append, List.length_append, List.length_append, List.length_append, nmB_l, dfl_l]
  show 4 + 1 + 1 + _ + 4 = _
  omega
theorem b2B_l {R : Nat → Nat} {N : Nat} : (b2B W H R N).length = 33 + 4 + (6 + ((allB R N).length + 7) / 8 + 4) + 4 := by
  unfold b2B
  rw [clB_l, b1B_l, q2B_l]
theorem b3B_l {R : Nat → Nat} {N : Nat} : (b3B W H R N).length = 33 + 4 + (6 + ((allB R N).length + 7) / 8 + 4) + 4 + 12 := by
  unfold b3B
  rw [clB_l, b2B_l]
  rfl
theorem as3 {a b c d : List Int32} : ((a ++ b) ++ c) ++ d = (a ++ b) ++ (c ++ d) := List.append_assoc _ _ _
set_option maxHeartbeats 2000000 in
theorem c_write {m : zMem} {c : Nat → Nat} (hR : RF m.2.2) (hW8 : 8 ≤ W) (hH8 : 8 ≤ H) (hW48 : W ≤ 48) (hH48 : H ≤ 48) (hc : ∀ k, k < W * H → m.1 1183 k = pk (c (3 * k)) (c (3 * k + 1)) (c (3 * k + 2))) (hb : ∀ k, k < 3 * (W * H) → c k < 256) : zok (F_XPacker_write (sh0 W H) m 5 1183 (nI W) (nI H)) (fun m' => (m'.2 = m.2 ∧ ∀ k, (k < 5 ∨ 10 < k) → m'.1 k = m.1 k) ∧ wB 5 1 6 (b3B W H (RWf c (3 * W)) (H * (3 * W + 1))) m' ∧ (b3B W H (RWf c (3 * W)) (H * (3 * W + 1))).length ≤ 7958) := by
  have hWH : W * H ≤ 48 * 48 := Nat.mul_le_mul hW48 hH48
  have hN : H * (3 * W + 1) ≤ 48 * 145 := Nat.mul_le_mul hH48 (by omega)
  have e3 : 3 * (W * H) = H * (3 * W) := by rw [Nat.mul_comm W H, ← Nat.mul_assoc, Nat.mul_comm 3 H, Nat.mul_assoc]
  have sx := sh_5 (W := W) (H := H)
  unfold F_XPacker_write
  rw [zoS_h sx, nI_mul]
  have hraw : zok (F_XPacker_makeRaw (sh0 W H) m 5 1183 (nI (W * H))) (fun m1 => (m1.2 = m.2 ∧ ∀ k, k ≠ 7 → m1.1 k = m.1 k) ∧ rwI 7 c (H * (3 * W)) m1) := by
    unfold F_XPacker_makeRaw
    refine zok_b (show zok (L_XPacker_makeRaw_2 (sh0 W H) zfuel 5 1183 (nI (W * H)) 0 m) _ from c_raw2 (W := W) (H := H) (c := c) rfl (by omega) (W * H) 0 zfuel m (by omega) (zf_lt (by omega)) hR hc hb (fun k hk => absurd hk (Nat.not_lt_zero _))) (fun q hq => zok_s ⟨hq.1, ?_⟩)
    rw [← e3]
    exact hq.2
  refine zok_b hraw (fun m1 g1 => ?_)
  obtain ⟨⟨r1, o1⟩, h7⟩ := g1
  have R1 : RF m1.2.2 := by rw [r1]; exact hR
  rw [zoS_h sx, nI_3mul]
  have hrows : zok (F_XPacker_makeRows (sh0 W H) m1 5 (nI (3 * W)) (nI H)) (fun m2 => rF 5 4 8 m1 m2 ∧ m2.1 5 4 = nI (H * (3 * W + 1)) ∧ rwI 8 (RWf c (3 * W)) (H * (3 * W + 1)) m2) := by
    unfold F_XPacker_makeRows
    rw [zoS_h sx, zoL_e]
    have Fa : rF 5 4 8 m1 (mI m1 5 4 0) := ⟨rfl, fun k h5 _ => mI_o h5, fun c hc => by rw [mI_v, if_pos rfl, if_neg hc]⟩
    refine zok_b (show zok (L_XPacker_makeRows_7 (sh0 W H) zfuel 5 (nI (3 * W)) (nI H) 0 (mI m1 5 4 0)) _ from c_rw7 (W := W) (H := H) (c := c) (l := 3 * W) (hh := H) (by omega) (by omega) (by omega) hH48 H 0 zfuel (mI m1 5 4 0) (by omega) (zf_lt (by omega)) R1 (fun k hk => by rw [mI_o (by decide)]; exact h7 k hk) (by rw [mI_v, if_pos rfl, if_pos rfl, Nat.zero_mul]; rfl) (fun k hk => by rw [Nat.zero_mul] at hk; exact absurd hk (Nat.not_lt_zero _))) (fun q hq => zok_s ⟨rF_t Fa hq.1, hq.2⟩)
  refine zok_b hrows (fun m2 g2 => ?_)
  obtain ⟨F2, s2, h8⟩ := g2
  generalize hRd : RWf c (3 * W) = R at *
  generalize hNd : H * (3 * W + 1) = N at *
  rw [zoS_h sx, zoL_e]
  have I3 : cI R N m [] (mI m2 5 1 0) := ⟨⟨by show m2.2 = m.2; rw [F2.1, r1], fun k hk => by rw [mI_o (by omega), F2.2.1 k (by omega) (by omega), o1 k (by omega)]⟩, fun k hk => by rw [mI_o (by decide)]; exact h8 k hk, by rw [mI_v, if_pos rfl, if_neg (by decide)]; exact s2, ⟨by rw [mI_v, if_pos rfl, if_pos rfl]; rfl, fun k hk => absurd hk (Nat.not_lt_zero _)⟩, by show RF m2.2.2; rw [F2.1]; exact R1⟩
  rw [zoS_h sx]
  refine zok_b (c_num' (W := W) (H := H) (v := -1991225785) I3 (by decide)) (fun m4 I4 => ?_)
  rw [zoS_h sx]
  refine zok_b (c_num' (W := W) (H := H) (v := 218765834) I4 (by rw [List.length_append, nmB_l]; decide)) (fun m5 I5 => ?_)
  have I5' : cI R N m hdB m5 := I5
  have lh : hdB.length = 8 := rfl
  rw [zoS_h sx]
  refine zok_b (c_open' (W := W) (H := H) (t := 0) (a := 73) (b := 72) (c := 68) (d := 82) I5' (by rw [lh]; decide) (by decide) (by decide) (by decide) (by decide) (by decide) (by decide)) (fun z6 g6 => ?_)
  obtain ⟨v6, m6⟩ := z6
  obtain ⟨e6, I6⟩ := g6
  dsimp only at e6 I6 ⊢
  have l6 : ((hdB ++ nmB 0) ++ nm4 73 72 68 82).length = 16 := rfl
  rw [zoS_h sx]
  refine zok_b (c_num' (W := W) (H := H) (v := nI W) I6 (by rw [l6]; decide)) (fun m7 I7 => ?_)
  rw [zoS_h sx]
  refine zok_b (c_num' (W := W) (H := H) (v := nI H) I7 (by rw [List.length_append, l6, nmB_l]; decide)) (fun m8 I8 => ?_)
  rw [zoS_h sx]
  refine zok_b (c_num' (W := W) (H := H) (v := 134348800) I8 (by rw [List.length_append, List.length_append, l6, nmB_l, nmB_l]; decide)) (fun m9 I9 => ?_)
  rw [zoS_h sx]
  refine zok_b (c_put' (W := W) (H := H) (v := 0) I9 (by rw [List.length_append, List.length_append, List.length_append, l6, nmB_l, nmB_l, nmB_l]; decide)) (fun m10 I10 => ?_)
  have I10' : cI R N m ((hdB ++ nmB 0) ++ q1B W H) m10 := by
    rw [as3, as3, as3, as3] at I10
    exact I10
  rw [zoS_h sx, e6]
  refine zok_b (c_close' (W := W) (H := H) nmB_l I10' (by rw [lh, q1B_l]; decide)) (fun m11 I11 => ?_)
  rw [lh, q1B_l] at I11
  have I11' : cI R N m (b1B W H) m11 := I11
  rw [zoS_h sx]
  refine zok_b (c_open' (W := W) (H := H) (t := 1) (a := 73) (b := 68) (c := 65) (d := 84) I11' (by rw [b1B_l]; decide) (by decide) (by decide) (by decide) (by decide) (by decide) (by decide)) (fun z12 g12 => ?_)
  obtain ⟨v12, m12⟩ := z12
  obtain ⟨e12, I12⟩ := g12
  dsimp only at e12 I12 ⊢
  have l12 : ((b1B W H ++ nmB 0) ++ nm4 73 68 65 84).length = 41 := by rw [List.length_append, List.length_append, b1B_l, nmB_l]; rfl
  rw [zoS_h sx]
  refine zok_b (c_put' (W := W) (H := H) (v := 120) I12 (by rw [l12]; decide)) (fun m13 I13 => ?_)
  rw [zoS_h sx]
  refine zok_b (c_put' (W := W) (H := H) (v := 1) I13 (by rw [List.length_append, l12]; decide)) (fun m14 I14 => ?_)
  rw [zoS_h sx]
  refine zok_b (c_pack (W := W) (H := H) (by omega) I14.2.2.2.2 I14.2.1 I14.2.2.1 I14.2.2.2.1 (by rw [List.length_append, List.length_append, l12]; decide)) (fun m15 g15 => ?_)
  obtain ⟨Z15, w15, la⟩ := g15
  have I15 := cI_z I14 Z15 w15
  have l15 : (((((b1B W H ++ nmB 0) ++ nm4 73 68 65 84) ++ [st8 120]) ++ [st8 1]) ++ dfl (allB R N)).length = 43 + ((allB R N).length + 7) / 8 := by
    rw [List.length_append, List.length_append, List.length_append, l12, dfl_l]
    rfl
  rw [zoS_h sx, zob_h (c_sum (W := W) (H := H) I15.2.2.2.2 I15.2.1 (by omega) I15.2.2.1)]
  dsimp only
  rw [zoS_h sx]
  refine zok_b (c_num' (W := W) (H := H) (v := adS R N) I15 (by rw [l15]; omega)) (fun m16 I16 => ?_)
  have I16' : cI R N m ((b1B W H ++ nmB 0) ++ q2B R N) m16 := by
    rw [as3, as3, as3, as3] at I16
    exact I16
  rw [zoS_h sx, e12]
  refine zok_b (c_close' (W := W) (H := H) nmB_l I16' (by rw [b1B_l, q2B_l]; omega)) (fun m17 I17 => ?_)
  rw [b1B_l] at I17
  have I17' : cI R N m (b2B W H R N) m17 := I17
  have l17 := b2B_l (W := W) (H := H) (R := R) (N := N)
  rw [zoS_h sx]
  refine zok_b (c_open' (W := W) (H := H) (t := 2) (a := 73) (b := 69) (c := 78) (d := 68) I17' (by rw [l17]; omega) (by decide) (by decide) (by decide) (by decide) (by decide) (by decide)) (fun z18 g18 => ?_)
  obtain ⟨v18, m18⟩ := z18
  obtain ⟨e18, I18⟩ := g18
  dsimp only at e18 I18 ⊢
  rw [zoS_h sx, e18]
  refine zok_b (c_close' (W := W) (H := H) nmB_l I18 (by rw [l17]; show _ + 4 + 4 + 4 ≤ _; omega)) (fun m19 I19 => zok_s ⟨I19.1, I19.2.2.2.1, ?_⟩)
  rw [b3B_l]
  omega
end ZWR
