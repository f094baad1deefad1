/-! PURE: the class draws a pixel -/
section ZDP
variable {W H : Nat}
theorem fdiv_oL {n d : Nat} (hn : n < 9223372036854775808) (hd : d < 9223372036854775808) (h0 : 0 < d) : zx_fdiv (oL n) (oL d) = oL (n / d) := by
  have : n / d ≤ n := Nat.div_le_self _ _
  apply i64_ext
  rw [fdiv_pos (by rw [oL_i hd]; omega), oL_i hn, oL_i hd, oL_i (by omega)]
  rfl
def chN (own col lt : Nat) : Nat := own * col / 255 * lt / 65536
def nwN (ch cl old : Nat) : Nat := if cl = 255 then ch else (ch * cl + old * (255 - cl)) / 255
theorem chN_b {own col lt : Nat} (h1 : own < 256) (h2 : col < 256) (h3 : lt ≤ 65536) : own * col ≤ 65025 ∧ own * col / 255 * lt ≤ 16711680 ∧ chN own col lt < 256 := by
  have a : own * col ≤ 255 * 255 := Nat.mul_le_mul (by omega) (by omega)
  have b : own * col / 255 * lt ≤ 255 * 65536 := Nat.mul_le_mul (by omega) h3
  refine ⟨a, b, ?_⟩
  unfold chN
  omega
theorem nwN_b {ch cl old : Nat} (h1 : ch < 256) (h2 : cl < 256) (h3 : old < 256) : ch * cl + old * (255 - cl) ≤ 65025 ∧ nwN ch cl old < 256 := by
  have a := Nat.mul_le_mul_right cl (show ch ≤ 255 by omega)
  have b := Nat.mul_le_mul_right (255 - cl) (show old ≤ 255 by omega)
  refine ⟨by omega, ?_⟩
  unfold nwN
  split <;> omega
theorem chn3_N {own col lt : Nat} (h1 : own < 256) (h2 : col < 256) (h3 : lt ≤ 65536) : chn3 (oL own) (nI col) (oL lt) = oL (chN own col lt) := by
  obtain ⟨a, b, _⟩ := chN_b h1 h2 h3
  unfold chn3 chN
  rw [oL_n (by omega), oL_m, show (255 : Int64) = oL 255 from rfl, fdiv_oL (by omega) (by decide) (by decide), oL_m, show (65536 : Int64) = oL 65536 from rfl, fdiv_oL (by omega) (by decide) (by decide)]
theorem nwC_N {ch cl old : Nat} (h1 : ch < 256) (h2 : cl < 256) (h3 : old < 256) : nwC (oL ch) (oL cl) (nI old) = nI (nwN ch cl old) := by
  obtain ⟨a, b⟩ := nwN_b h1 h2 h3
  unfold nwC nwN
  by_cases c : cl = 255
  · rw [if_pos (lgc_eq.mpr (by rw [oL_i (by omega), c]; rfl)), if_pos c, ← oL_n (by omega), i32_rt]
  · rw [if_neg (fun q => c (by have := lgc_eq.mp q; rw [oL_i (by omega), show (255 : Int64).toInt = 255 from rfl] at this; omega)), if_neg c, oL_n (by omega), oL_m, show (255 : Int64) = oL 255 from rfl, oL_s (by omega) (by decide), oL_m, oL_a, fdiv_oL (by omega) (by decide) (by decide), ← oL_n (by omega), i32_rt]
theorem px_1 {t col lt : Nat} (h1 : t < 256) (h2 : col < 256) (h3 : lt ≤ 65536) : (((nI t * nI col) / 255) * nI lt) >>> (16 &&& 31) = nI (chN t col lt) := by
  obtain ⟨a, b, _⟩ := chN_b h1 h2 h3
  have d : nI (t * col) / (255 : Int32) = nI (t * col / 255) := nI_div (b := 255) (by omega) (by decide) (by decide)
  rw [nI_mul, d, nI_mul, nI_shr16 (by omega)]
  rfl
theorem px_2 {ch cl old : Nat} (h1 : ch < 256) (h2 : cl < 256) (h3 : old < 256) (hc : cl ≠ 255) : ((nI ch * nI cl) + (nI old * (255 - nI cl))) / 255 = nI (nwN ch cl old) := by
  obtain ⟨a, b⟩ := nwN_b h1 h2 h3
  have e1 : (255 : Int32) - nI cl = nI (255 - cl) := nI_sub (a := 255) (by omega)
  have d : nI (ch * cl + old * (255 - cl)) / (255 : Int32) = nI ((ch * cl + old * (255 - cl)) / 255) := nI_div (b := 255) (by omega) (by decide) (by decide)
  rw [e1, nI_mul, nI_mul, nI_pp, d]
  unfold nwN
  rw [if_neg hc]
theorem pk_dn {r g b : Nat} (hr : r < 256) (hg : g < 256) (hb : b < 256) : (((0 : Int32) ||| (nI r <<< (16 &&& 31))) ||| (nI g <<< (8 &&& 31))) ||| (nI b <<< (0 &&& 31)) = pk r g b := by
  rw [Int32.zero_or, nI_shl0, pk_mk hr hg hb]
theorem e_dp30 {m : zMem} {o mr : Nat} {t c old : Nat → Nat} {lt cl : Nat} {v1 : Int32} (hm : sh0 W H mr = some (100, 6)) (ht : ∀ k, k < 3 → t k < 256) (hc : ∀ k, k < 3 → c k < 256 ∧ m.1 mr k = nI (c k)) (ho : ∀ k, k < 3 → old k < 256) (hl : lt ≤ 65536) (hcl : cl < 256) : L_XPicture_drawPixel_30 (sh0 W H) zfuel o v1 mr (pk (t 0) (t 1) (t 2)) (nI lt) (nI cl) (pk (old 0) (old 1) (old 2)) 0 0 m = some (o, v1, mr, pk (t 0) (t 1) (t 2), nI lt, nI cl, pk (old 0) (old 1) (old 2), pk (nwN (chN (t 0) (c 0) lt) cl (old 0)) (nwN (chN (t 1) (c 1) lt) cl (old 1)) (nwN (chN (t 2) (c 2) lt) cl (old 2)), 3, m) := by
  have f1 : zfuel = 999996 + 1 + 1 + 1 + 1 := nrfl rfl
  have x0 := ht 0 (by decide)
  have x1 := ht 1 (by decide)
  have x2 := ht 2 (by decide)
  obtain ⟨y0, w0⟩ := hc 0 (by decide)
  obtain ⟨y1, w1⟩ := hc 1 (by decide)
  obtain ⟨y2, w2⟩ := hc 2 (by decide)
  have z0 := ho 0 (by decide)
  have z1 := ho 1 (by decide)
  have z2 := ho 2 (by decide)
  have s0 : (16 : Int32) - 8 * 0 = 16 := by decide
  have s1 : (16 : Int32) - 8 * 1 = 8 := by decide
  have s2 : (16 : Int32) - 8 * 2 = 0 := by decide
  have k0 : (0 : Int32).toNatClampNeg = 0 := by decide
  have k1 : (1 : Int32).toNatClampNeg = 1 := by decide
  have k2 : (2 : Int32).toNatClampNeg = 2 := by decide
  have c0 := (chN_b x0 y0 hl).2.2
  have c1 := (chN_b x1 y1 hl).2.2
  have c2 := (chN_b x2 y2 hl).2.2
  by_cases q : cl = 255
  · have q' : (255 : Int32) ≤ nI cl := by rw [q]; exact (by decide : (255 : Int32) ≤ nI 255)
    rw [f1, L_XPicture_drawPixel_30, if_neg (by decide), zoL_e, zoS_h hm, if_neg (by decide), zoL_e, if_pos q', zoL_e, show (0 : Int32) + 1 = 1 by decide, L_XPicture_drawPixel_30, if_neg (by decide), zoL_e, zoS_h hm, if_neg (by decide), zoL_e, if_pos q', zoL_e, show (1 : Int32) + 1 = 2 by decide, L_XPicture_drawPixel_30, if_neg (by decide), zoL_e, zoS_h hm, if_neg (by decide), zoL_e, if_pos q', zoL_e, show (2 : Int32) + 1 = 3 by decide, L_XPicture_drawPixel_30, if_pos (by decide), s0, s1, s2, k0, k1, k2, w0, w1, w2, pk_0 x0 x1 x2, pk_8 x0 x1 x2, pk_16 x0 x1 x2, px_1 x0 y0 hl, px_1 x1 y1 hl, px_1 x2 y2 hl, pk_dn c0 c1 c2]
    unfold nwN
    rw [if_pos q, if_pos q, if_pos q]
  · have q' : ¬ (255 : Int32) ≤ nI cl := fun h => q (by have := (nI_leD (a := 255) (b := cl) (by decide) (by omega)).mp h; omega)
    rw [f1, L_XPicture_drawPixel_30, if_neg (by decide), zoL_e, zoS_h hm, if_neg (by decide), zoL_e, if_neg q', zoL_e, zoL_e, show (0 : Int32) + 1 = 1 by decide, L_XPicture_drawPixel_30, if_neg (by decide), zoL_e, zoS_h hm, if_neg (by decide), zoL_e, if_neg q', zoL_e, zoL_e, show (1 : Int32) + 1 = 2 by decide, L_XPicture_drawPixel_30, if_neg (by decide), zoL_e, zoS_h hm, if_neg (by decide), zoL_e, if_neg q', zoL_e, zoL_e, show (2 : Int32) + 1 = 3 by decide, L_XPicture_drawPixel_30, if_pos (by decide), s0, s1, s2, k0, k1, k2, w0, w1, w2, pk_0 x0 x1 x2, pk_8 x0 x1 x2, pk_16 x0 x1 x2, pk_0 z0 z1 z2, pk_8 z0 z1 z2, pk_16 z0 z1 z2, px_1 x0 y0 hl, px_1 x1 y1 hl, px_1 x2 y2 hl, px_2 c0 hcl z0 q, px_2 c1 hcl z1 q, px_2 c2 hcl z2 q, pk_dn (nwN_b c0 hcl z0).2 (nwN_b c1 hcl z1).2 (nwN_b c2 hcl z2).2]
/-- what drawing pixels leaves -/
def PF (m m' : zMem) : Prop := m'.2.2 = m.2.2 ∧ (∀ a, a ≠ 1183 → a ≠ 1184 → m'.1 a = m.1 a) ∧ (∀ a, a ≠ 1181 → m'.2.1 a = m.2.1 a) ∧ m'.2.1 1181 0 = m.2.1 1181 0
theorem PF_r {m : zMem} : PF m m := ⟨rfl, fun _ _ _ => rfl, fun _ _ => rfl, rfl⟩
theorem PF_t {m m' m'' : zMem} (h : PF m m') (k : PF m' m'') : PF m m'' := ⟨k.1.trans h.1, fun a h1 h2 => (k.2.1 a h1 h2).trans (h.2.1 a h1 h2), fun a h1 => (k.2.2.1 a h1).trans (h.2.2.1 a h1), k.2.2.2.trans h.2.2.2⟩
theorem PF_v {m m' : zMem} (h : cvF 1181 m m') : PF m m' := ⟨h.2.1, fun _ _ _ => by rw [h.1], h.2.2.1, h.2.2.2⟩
theorem mix_p {m : zMem} {A B C : Nat → Int64} {x y : Int64} {c : Nat} (hH : cvH 1181 A B C x y m) (hp : 0 < (pHH A B C x y).toInt) : zx_div ((m.2.1 1181 2 * A c + m.2.1 1181 3 * B c) + m.2.1 1181 4 * C c) (m.2.1 1181 5) = pMx A B C x y c := by
  obtain ⟨h2, h3, h4, h5⟩ := hH
  rw [h2, h3, h4, h5, zx_div_pos hp]
  rfl
theorem e_dpx {m : zMem} {mr at_ : Nat} {A B C : Nat → Int64} {x y : Int64} {t c old : Nat → Nat} {cl lt : Nat} (hR : RF m.2.2) (hm : sh0 W H mr = some (100, 6)) (hat : at_ < W * H) (hwh : W * H < 2147483648) (hmr : mr ≠ 1183 ∧ mr ≠ 1184) (hT : tri (m.1 1182) A B C) (hH : cvH 1181 A B C x y m) (hp : 0 < (pHH A B C x y).toInt) (hlt : pMx A B C x y 5 = oL lt) (hl : lt ≤ 65536) (h0 : m.2.1 1181 0 = are A B C) (har : 0 < (are A B C).toInt) (ht : ∀ k, k < 3 → t k < 256) (hc : ∀ k, k < 3 → c k < 256 ∧ m.1 mr k = nI (c k)) (hcl : cl < 256) (hc3 : m.1 mr 3 = nI cl) (ho : ∀ k, k < 3 → old k < 256) (hold : m.1 1183 at_ = pk (old 0) (old 1) (old 2)) : zok (F_XPicture_drawPixel (sh0 W H) m 1178 (nI at_) mr (pk (t 0) (t 1) (t 2))) (fun m' => PF m m' ∧ m'.1 1183 = upd (m.1 1183) at_ (pk (nwN (chN (t 0) (c 0) lt) cl (old 0)) (nwN (chN (t 1) (c 1) lt) cl (old 1)) (nwN (chN (t 2) (c 2) lt) cl (old 2))) ∧ m'.1 1184 = if cl = 255 then upd (m.1 1184) at_ (pNr A B C (are A B C) x y).toInt32 else m.1 1184) := by
  have pc : pcT W H 1181 1182 m := ⟨sh_1181, rf_1181_1 hR, sh_1182⟩
  have mx := e_mixC (c := 5) pc hT (by decide)
  rw [mix_p hH hp, hlt] at mx
  have mx' : F_XPiece_mixed (sh0 W H) m 1181 5 = some (oL lt, m) := mx
  have l32 : (oL lt).toInt32 = nI lt := by rw [← oL_n (by omega), i32_rt]
  unfold F_XPicture_drawPixel
  rw [zoS_h sh_1178, zob_h (rf_1178_11 hR), zoS_h sh_1181, zob_h mx']
  dsimp only
  rw [zoL_e, l32, zoS_h hm, if_neg (by decide), show (3 : Int32).toNatClampNeg = 3 by decide, hc3, zoL_e, zoS_h sh_1178, zob_h (rf_1178_1 hR), zoS_h sh_1183, nI_ix hat hwh, nI_cl (n := at_) (by omega), hold, zoL_e, zob_h (e_dp30 hm ht hc ho hl hcl)]
  dsimp only
  rw [zoS_h sh_1178, zob_h (rf_1178_1 hR), zoS_h sh_1183, if_neg (fun q => q.elim (nI_pos (by omega)) (by rw [nI_cl (n := at_) (by omega)]; omega)), nI_cl (n := at_) (by omega), zoL_e]
  generalize hv : pk (nwN (chN (t 0) (c 0) lt) cl (old 0)) (nwN (chN (t 1) (c 1) lt) cl (old 1)) (nwN (chN (t 2) (c 2) lt) cl (old 2)) = v
  generalize hm1 : mI m 1183 at_ v = m1
  have R1 : m1.2.2 = m.2.2 := by rw [← hm1]; rfl
  have hR1 : RF m1.2.2 := by rw [R1]; exact hR
  have L1 : m1.2.1 = m.2.1 := by rw [← hm1]; rfl
  have e1 : ∀ a, a ≠ 1183 → m1.1 a = m.1 a := fun a ha => by rw [← hm1, mI_o ha]
  have v1 : m1.1 1183 = upd (m.1 1183) at_ v := by rw [← hm1, mI_a]
  have f1 : PF m m1 := ⟨R1, fun a ha _ => e1 a ha, fun a _ => by rw [L1], by rw [L1]⟩
  by_cases q : cl = 255
  · have nr := e_nearC (W := W) (H := H) (m := m1) (O := 1181) (T := 1182) ⟨sh_1181, rf_1181_1 hR1, sh_1182⟩
    rw [L1, hH.2.2.2, h0, zx_div_pos har] at nr
    have nr' : F_XPiece_near (sh0 W H) m1 1181 = some (pNr A B C (are A B C) x y, m1) := nr
    rw [if_pos (show nI cl = 255 by rw [q]; rfl), zoS_h sh_1178, zob_h (rf_1178_2 hR1), zoS_h sh_1178, zob_h (rf_1178_11 hR1), zoS_h sh_1181, zob_h nr']
    dsimp only
    rw [zoL_e, zoS_h sh_1184, if_neg (fun q => q.elim (nI_pos (by omega)) (by omega)), zoL_e, if_pos q]
    refine zok_s ⟨⟨R1, fun a ha hb => by rw [mI_o hb, e1 a ha], fun a _ => f1.2.2.1 a ‹_›, f1.2.2.2⟩, ?_, ?_⟩
    · rw [mI_o (by decide), v1]
    · rw [mI_a, e1 1184 (by decide)]
  · rw [if_neg (show ¬ (nI cl = 255) from fun h => q ((nI_eqD (by omega) (by decide)).mp (show nI cl = nI 255 from h))), if_neg q]
    exact zok_s ⟨f1, v1, e1 1184 (by decide)⟩
end ZDP
