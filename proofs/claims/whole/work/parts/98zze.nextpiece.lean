/-! PURE: the class goes to the next piece -/
section ZNP
variable {W H : Nat}
def npB (F : Nat → Nat → Int32) (r k : Nat) : Bool := decide (F (r + 7) (mtN (fun a => F (r + a)) ((ordR F r).2 k)) = 1)
def lpR (W H : Nat) (F : Nat → Nat → Int32) (r k fc : Nat) : List (Nat → Int64) := ply (w64 W) (w64 H) (mW F r ((ordR F r).2 k)) (wW F r ((ordR F r).2 k)) F r (msN (fun a => F (r + a)) ((ordR F r).2 k)) fc
def lpl (W H : Nat) (F : Nat → Nat → Int32) (r k fc : Nat) : List (Nat → Int64) := (lpR W H F r k fc).map (pcr (F r 34).toInt64 (w8n W) (w8n H))
/-- what rests from triangle j of face fc of node k on -/
def rsT (W H : Nat) (F : Nat → Nat → Int32) (r k fc j : Nat) : List Pc := fanG (npB F r k) ((ordR F r).2 k) fc ((lpl W H F r k fc).getD 0 oF) ((lpl W H F r k fc).drop j) ++ rsF W H F r k (fc + 1)
theorem lpl_len {F : Nat → Nat → Int32} {r k fc : Nat} : (lpl W H F r k fc).length = (lpR W H F r k fc).length := by
  unfold lpl
  exact List.length_map _
theorem rsF_T {F : Nat → Nat → Int32} {r k fc : Nat} (h : fc < nfN F r ((ordR F r).2 k)) (hl : 3 ≤ (lpR W H F r k fc).length) : rsF W H F r k fc = rsT W H F r k fc 1 := by
  have e : fcL W H (mW F r ((ordR F r).2 k)) (wW F r ((ordR F r).2 k)) F r ((ordR F r).2 k) fc = fanG (npB F r k) ((ordR F r).2 k) fc ((lpl W H F r k fc).getD 0 oF) ((lpl W H F r k fc).drop 1) := by
    show fanL (npB F r k) ((ordR F r).2 k) fc (lpl W H F r k fc) = _
    have := lpl_len (W := W) (H := H) (F := F) (r := r) (k := k) (fc := fc)
    generalize lpl W H F r k fc = l at this ⊢
    cases l with
    | nil => rw [← this] at hl; exact absurd hl (by decide)
    | cons A t => rfl
  unfold rsT
  rw [← e]
  unfold rsF
  rw [show nfN F r ((ordR F r).2 k) - fc = (nfN F r ((ordR F r).2 k) - (fc + 1)) + 1 by omega, fcsL, List.append_assoc]
theorem lpl_get {F : Nat → Nat → Int32} {r k fc q : Nat} (h : q < (lpR W H F r k fc).length) : (lpl W H F r k fc).getD q oF = pcr (F r 34).toInt64 (w8n W) (w8n H) ((lpR W H F r k fc).getD q oF) := by
  unfold lpl
  rw [List.getD_eq_getElem?_getD, List.getD_eq_getElem?_getD, List.getElem?_map, List.getElem?_eq_getElem h]
  rfl
theorem rsT_s {F : Nat → Nat → Int32} {r k fc j : Nat} (h : j + 1 < (lpR W H F r k fc).length) : rsT W H F r k fc j = fan1 (npB F r k) ((ordR F r).2 k) fc ((lpl W H F r k fc).getD 0 oF) ((lpl W H F r k fc).getD j oF) ((lpl W H F r k fc).getD (j + 1) oF) ++ rsT W H F r k fc (j + 1) := by
  unfold rsT
  have l := lpl_len (W := W) (H := H) (F := F) (r := r) (k := k) (fc := fc)
  rw [drop_c (l := lpl W H F r k fc) (c := j) (by omega), drop_c (l := lpl W H F r k fc) (c := j + 1) (by omega), fanG_s, List.append_assoc]
theorem rsT_e {F : Nat → Nat → Int32} {r k fc j : Nat} (h : (lpR W H F r k fc).length ≤ j + 1) : rsT W H F r k fc j = rsF W H F r k (fc + 1) := by
  unfold rsT
  have l := lpl_len (W := W) (H := H) (F := F) (r := r) (k := k) (fc := fc)
  by_cases e : j < (lpl W H F r k fc).length
  · rw [drop_c e, List.drop_eq_nil_of_le (by omega)]
    rfl
  · rw [List.drop_eq_nil_of_le (by omega)]
    rfl
/-- the sight between two pieces, L rests -/
def npS (W H s r : Nat) (F : Nat → Nat → Int32) (L : List Pc) (m : zMem) : Prop := WS W H s r F m ∧ ((m.1 1121 4 = nI 0 ∧ m.1 1121 3 = nI 0 ∧ m.1 1121 12 = nI 0 ∧ m.1 1121 1 = -1 ∧ L = rsN W H F r 0) ∨ ∃ k fc i, fcS W H s r F k fc m ∧ m.1 1121 4 = nI i ∧ (1 ≤ i ∧ i < 18) ∧ i + 1 < (lpR W H F r k fc).length ∧ L = rsT W H F r k fc (i + 1))
def npM (d : Nat) (m : zMem) : Prop := 104449 ≤ d ∨ 17 * (128 * (48 - (m.1 1121 12).toNatClampNeg) - ((m.1 1121 1).toNatClampNeg + 1)) + (18 - (m.1 1121 4).toNatClampNeg) ≤ d
theorem NF_T {m m' : zMem} (h : TF m m') : NF m m' := ⟨fun _ _ _ => by rw [h.1], fun a _ h2 _ _ _ => h.2.1 a h2, fun _ _ _ _ _ => by rw [h.2.1 1121 (by decide)], h.2.2⟩
theorem fcS_T {s r k fc : Nat} {F : Nat → Nat → Int32} {m m' : zMem} (hs : gS s) (hm : msN (fun a => F (r + a)) ((ordR F r).2 k) < 16) (h : fcS W H s r F k fc m) (e1 : m'.1 1121 12 = m.1 1121 12) (e2 : m'.1 1121 1 = m.1 1121 1) (e2' : m'.1 1121 3 = m.1 1121 3) (e3 : ∀ a, a ≠ 1121 → a ≠ 1123 → m'.1 a = m.1 a) (e4 : m'.2.2 = m.2.2) : fcS W H s r F k fc m' := by
  obtain ⟨h1, h2, h3, h4, h5, ⟨A, B, p1, p2, p3, p4, p5⟩, h7⟩ := h
  have lm : msA s (msN (fun a => F (r + a)) ((ordR F r).2 k)) + 4 < 1121 := by unfold msA; rcases hs with e | e | e <;> omega
  have nA : A ≠ 1121 ∧ A ≠ 1123 := by rcases p1 with ⟨e, f⟩ | ⟨e, f⟩ <;> omega
  exact ⟨h1, e1.trans h2, e2.trans h3, h4, PTS_n h5 (e3 1176 (by decide) (by decide)) (e3 _ (by omega) (by omega)), ⟨A, B, p1, by rw [e4]; exact p2, by rw [e4]; exact p3, e2'.trans p4, by rw [e3 A nA.1 nA.2]; exact p5⟩, h7⟩
theorem e_mtNo {m : zMem} {s r k : Nat} {F : Nat → Nat → Int32} (hs : gS s) (hS : WS W H s r F m) (hk : k < (ordR F r).1) (h12 : m.1 1121 12 = nI k) : F_XSight_materialNumber (sh0 W H) m 1121 = some (nI (mtN (fun a => F (r + a)) ((ordR F r).2 k)), m) ∧ mtN (fun a => F (r + a)) ((ordR F r).2 k) < 16 ∧ msN (fun a => F (r + a)) ((ordR F r).2 k) < cn (fun a => F (r + a)) 2 ∧ m.1 (s + (4 + mtN (fun a => F (r + a)) ((ordR F r).2 k))) 5 = F (r + 7) (mtN (fun a => F (r + a)) ((ordR F r).2 k)) := by
  have hob := ord_b (g := fun a => F (r + a)) (vis := visN F r) (ky := fun k => mW F r k 11) (cn (fun a => F (r + a)) 3)
  have hon : (ordR F r).1 ≤ cn (fun a => F (r + a)) 3 := hob.1
  have hov := hob.2 k hk
  have hnd : (ordR F r).2 k < cn (fun a => F (r + a)) 3 := hov.1
  have hvs : visN F r ((ordR F r).2 k) = true := hov.2
  have hmd := vis_m hvs
  have N := Wsc_n hS.2.2.1.1
  have o75 := hS.2.1.2.2.1 k hk
  obtain ⟨a1, a2, a3, a4⟩ := Wsc_ms hS.2.2.1.1 hnd hmd
  obtain ⟨_, n2, _⟩ := hS.2.2.1.2.2.2.2.1 _ hnd
  obtain ⟨n3, _⟩ := hS.2.2.1.2.2.2.1 _ a2
  obtain ⟨_, _, n5⟩ := hS.2.2.1.2.2.1 _ a4
  refine ⟨?_, by omega, a2, n5⟩
  generalize (ordR F r).2 k = nd at hnd hvs hmd o75 a1 a2 a3 a4 n2 n3 n5 ⊢
  have n2' : m.1 (ndA s nd) 1 = nI (msN (fun a => F (r + a)) nd) := n2.trans a1
  have n3' : m.1 (msA s (msN (fun a => F (r + a)) nd)) 0 = nI (mtN (fun a => F (r + a)) nd) := n3.trans a3
  unfold F_XSight_materialNumber
  rw [zoS_h sh_1121, zob_h hS.2.1.1, zoS_h (sh_s0 hs), zob_h (rf_s3 hS.1 hs), zoS_h sh_1121, zob_h hS.2.1.1, zoS_h (sh_s0 hs), zob_h (rf_s4 hS.1 hs), zoS_h sh_1121, zob_h (rf_1121_10 hS.1), zoS_h sh_1121, h12, zoL_e, zoS_h sh_1175, nI_ix (by omega) (by decide), nI_cl (n := k) (by omega), o75, zoL_e, zoR_h (sh_s21 hs) (by decide), nI_ix (by omega) (by decide), nI_cl (n := nd) (by omega), zob_h (rf_nd hS.1 hs (by omega)), zoS_h (sh_ndA hs (by omega)), n2', zoL_e, zoR_h (sh_s20 hs) (by decide), nI_ix (by omega) (by decide), nI_cl (n := msN (fun a => F (r + a)) nd) (by omega), zob_h (rf_ms hS.1 hs (by omega)), zoS_h (sh_msA hs (by omega)), n3']
theorem lpR_CP {s r k fc : Nat} {F : Nat → Nat → Int32} {m : zMem} (hS : WS W H s r F m) (hW8 : 8 ≤ W) (hH8 : 8 ≤ H) (hW48 : W ≤ 48) (hH48 : H ≤ 48) (hms : msN (fun a => F (r + a)) ((ordR F r).2 k) < cn (fun a => F (r + a)) 2) (hfc : fc < nfN F r ((ordR F r).2 k)) : (lpR W H F r k fc).length ≤ 19 ∧ ∀ q, q < (lpR W H F r k fc).length → CP (pcr (F r 34).toInt64 (w8n W) (w8n H) ((lpR W H F r k fc).getD q oF)) := by
  have cam' : 8 ≤ (F r 34).toInt ∧ (F r 34).toInt ≤ 512 := hS.2.2.1.1.2.2.2.2.1.2
  have wW' := w64_i hW48
  have wH' := w64_i hH48
  have hwf : whf (w64 W) (w64 H) (F r 34).toInt64 := ⟨by omega, by omega, by rw [Int32.toInt_toInt64]; exact cam'⟩
  obtain ⟨b1, b2⟩ := fc3_B (M := mW F r ((ordR F r).2 k)) (Wd := wW F r ((ordR F r).2 k)) (w := (w64 W).toInt) (h := (w64 H).toInt) (F := (F r 34).toInt64.toInt) (fc := fc) hS.2.2.1.1 hms hfc
  have B := cutN_B hwf b2 5 (by decide)
  refine ⟨(cutN_19 rfl (by decide)).1, fun q hq => (CP_of hwf (by rw [w8n_i hW48, wW']) (by rw [w8n_i hH48, wH']) (B _ ?_)).1⟩
  show (lpR W H F r k fc).getD q oF ∈ lpR W H F r k fc
  rw [List.getD_eq_getElem?_getD, List.getElem?_eq_getElem hq, Option.getD_some]
  exact List.getElem_mem hq
set_option maxHeartbeats 4000000 in
theorem e_np2 {s r : Nat} {F : Nat → Nat → Int32} {L : List Pc} (hs : gS s) (hW8 : 8 ≤ W) (hH8 : 8 ≤ H) (hW48 : W ≤ 48) (hH48 : H ≤ 48) : ∀ (d v fuel : Nat) (m : zMem), v + d < 147456 → d < fuel → npM d m → npS W H s r F L m → zok (L_XSight_nextPiece_2 (sh0 W H) fuel 1121 (nI v) m) (fun z => NF m z.2.2.2.2 ∧ hAB z.2.2.2.2 ∧ ((z.1 = 0 ∧ z.2.1 = 0 ∧ L = []) ∨ (z.1 = 0 ∧ z.2.1 = 1 ∧ ∃ k fc P Y Z t, (L = ((ordR F r).2 k, fc, P, Y, Z) :: t ∧ k < (ordR F r).1) ∧ npS W H s r F t z.2.2.2.2 ∧ (z.2.2.2.2.1 1121 12 = nI k ∧ z.2.2.2.2.1 1121 1 = nI fc) ∧ PCm P Y Z z.2.2.2.2 ∧ CP P ∧ CP Y ∧ CP Z ∧ 0 < (are P Y Z).toInt))) := by
  intro d
  induction d with
  | zero =>
    intro v fuel m hv hf hM hN
    rcases hM with h | h
    · omega
    · rcases hN.2 with ⟨c4, _, c12, c1, _⟩ | ⟨k, fc, i, _, c4, hi, _⟩
      · rw [c4, c12, c1] at h
        exact absurd h (by decide)
      · rw [c4, nI_cl (n := i) (by omega)] at h
        omega
  | succ d ih =>
    intro v fuel m hv hf hM hN
    obtain ⟨fu, rfl⟩ : ∃ fu, fuel = fu + 1 := ⟨fuel - 1, by omega⟩
    have hob := ord_b (g := fun a => F (r + a)) (vis := visN F r) (ky := fun k => mW F r k 11) (cn (fun a => F (r + a)) 3)
    have hon : (ordR F r).1 ≤ cn (fun a => F (r + a)) 3 := hob.1
    have N := Wsc_n hN.1.2.2.1.1
    have nf8 : ∀ k, msN (fun a => F (r + a)) ((ordR F r).2 k) < cn (fun a => F (r + a)) 2 → nfN F r ((ordR F r).2 k) ≤ 128 := fun k a2 => by
      obtain ⟨_, _, np', nf', n1, n2, n3, n4, n5, n6, n7, n8, n9⟩ := hN.1.2.2.1.1.2.2.1 _ a2
      have e6 : F (r + 10) (msN (fun a => F (r + a)) ((ordR F r).2 k)) = nI nf' := n6
      unfold nfN
      rw [e6, nI_cl (by omega)]
      exact n4
    have tail : ∀ (m2 : zMem) (k fc j : Nat), NF m m2 → WS W H s r F m2 → fcS W H s r F k fc m2 → m2.1 1121 4 = nI j → 1 ≤ j → j + 1 < (lpR W H F r k fc).length → 17 * (128 * (48 - k) - (fc + 1)) + (18 - j) ≤ d → L = rsT W H F r k fc j → zok (zoS ((sh0 W H) 1121) 9 (fun le14 => Option.bind (m2.2.2 1121 0) (fun a15 => zoS ((sh0 W H) 1121) 9 (fun le17 => Option.bind (m2.2.2 1121 2) (fun a18 => zoS ((sh0 W H) 1121) 9 (fun le20 => zoS ((sh0 W H) 1121) 9 (fun le22 => Option.bind (m2.2.2 1121 7) (fun a23 => zoS ((sh0 W H) a23) 8 (fun le25 => Option.bind (m2.2.2 a23 2) (fun a26 => zoS ((sh0 W H) 1121) 9 (fun le28 => Option.bind (F_XSight_materialNumber (sh0 W H) m2 1121) (fun p29 => zoR ((sh0 W H) a26) (fun t33 le31 => if (p29.1 : Int32) < 0 ∨ le31 ≤ (p29.1 : Int32).toNatClampNeg then none else Option.bind ((p29.2).2.2 a26 (p29.1 : Int32).toNatClampNeg) (fun a34 => zoS ((sh0 W H) a34) 100 (fun le36 => if (5 : Int32) < 0 ∨ le36 ≤ (5 : Int32).toNatClampNeg then none else (if ((p29.2).1 a34 (5 : Int32).toNatClampNeg) = 1 then zoS ((sh0 W H) a15) 6 (fun le44 => Option.bind (F_XPiece_take (sh0 W H) (p29.2) a15 a18 (m2.1 1121 4) 1) (fun p45 => (if p45.1 = 0 then L_XSight_nextPiece_2 (sh0 W H) fu 1121 (nI v + 1) (p45.2) else some (0, 1, (0 : Nat), (0 : Int32), p45.2)))) else zoS ((sh0 W H) a15) 6 (fun le40 => Option.bind (F_XPiece_take (sh0 W H) (p29.2) a15 a18 (m2.1 1121 4) 0) (fun p41 => (if p41.1 = 0 then L_XSight_nextPiece_2 (sh0 W H) fu 1121 (nI v + 1) (p41.2) else some (0, 1, (0 : Nat), (0 : Int32), p41.2)))))))))))))))))))) (fun z => NF m z.2.2.2.2 ∧ hAB z.2.2.2.2 ∧ ((z.1 = 0 ∧ z.2.1 = 0 ∧ L = []) ∨ (z.1 = 0 ∧ z.2.1 = 1 ∧ ∃ k fc P Y Z t, (L = ((ordR F r).2 k, fc, P, Y, Z) :: t ∧ k < (ordR F r).1) ∧ npS W H s r F t z.2.2.2.2 ∧ (z.2.2.2.2.1 1121 12 = nI k ∧ z.2.2.2.2.1 1121 1 = nI fc) ∧ PCm P Y Z z.2.2.2.2 ∧ CP P ∧ CP Y ∧ CP Z ∧ 0 < (are P Y Z).toInt))) := by
      intro m2 k fc j N2 S2 C2 c4 j1 jn hmu hL
      obtain ⟨hmt, mt16, hms, hfl⟩ := e_mtNo (W := W) (H := H) hs S2 C2.1 C2.2.1
      obtain ⟨l19, hCP⟩ := lpR_CP (fc := fc) S2 hW8 hH8 hW48 hH48 hms C2.2.2.2.1
      have hms16 : msN (fun a => F (r + a)) ((ordR F r).2 k) < 16 := by omega
      have f128 := nf8 k hms
      have C2' := C2
      obtain ⟨q1, q2, q3, q4, q5, ⟨A, B, p1, p2, p3, p4, p5⟩, q7⟩ := C2
      have P5 : ∀ q, q < (lpR W H F r k fc).length → ∀ i, i < 6 → (m2.1 A (6 * q + i)).toInt64 = pcr (F r 34).toInt64 (w8n W) (w8n H) ((lpR W H F r k fc).getD q oF) i := p5
      have htk := e_take (W := W) (H := H) (m := m2) (A := A) (D := B) (b := j) (nd := (ordR F r).2 k) (fc := fc) (both := npB F r k) S2.1 p1 (by omega) (fun i hi => by have := P5 0 (by omega) i hi; rw [Nat.mul_zero, Nat.zero_add] at this; exact this) (P5 j (by omega)) (P5 (j + 1) (by omega)) (hCP 0 (by omega)) (hCP j (by omega)) (hCP (j + 1) (by omega))
      rw [← lpl_get (by omega), ← lpl_get (by omega), ← lpl_get jn] at htk
      have hTL := rsT_s (W := W) (H := H) (F := F) (r := r) (k := k) (fc := fc) (j := j) jn
      have cont : ∀ p : Int32 × zMem, TF m2 p.2 ∧ ((p.1 = 0 ∧ fan1 (npB F r k) ((ordR F r).2 k) fc ((lpl W H F r k fc).getD 0 oF) ((lpl W H F r k fc).getD j oF) ((lpl W H F r k fc).getD (j + 1) oF) = []) ∨ ∃ Y Z, p.1 = 1 ∧ fan1 (npB F r k) ((ordR F r).2 k) fc ((lpl W H F r k fc).getD 0 oF) ((lpl W H F r k fc).getD j oF) ((lpl W H F r k fc).getD (j + 1) oF) = [((ordR F r).2 k, fc, (lpl W H F r k fc).getD 0 oF, Y, Z)] ∧ PCm ((lpl W H F r k fc).getD 0 oF) Y Z p.2 ∧ CP Y ∧ CP Z ∧ 0 < (are ((lpl W H F r k fc).getD 0 oF) Y Z).toInt) → zok (if p.1 = 0 then L_XSight_nextPiece_2 (sh0 W H) fu 1121 (nI v + 1) (p.2) else some (0, 1, (0 : Nat), (0 : Int32), p.2)) (fun z => NF m z.2.2.2.2 ∧ hAB z.2.2.2.2 ∧ ((z.1 = 0 ∧ z.2.1 = 0 ∧ L = []) ∨ (z.1 = 0 ∧ z.2.1 = 1 ∧ ∃ k fc P Y Z t, (L = ((ordR F r).2 k, fc, P, Y, Z) :: t ∧ k < (ordR F r).1) ∧ npS W H s r F t z.2.2.2.2 ∧ (z.2.2.2.2.1 1121 12 = nI k ∧ z.2.2.2.2.1 1121 1 = nI fc) ∧ PCm P Y Z z.2.2.2.2 ∧ CP P ∧ CP Y ∧ CP Z ∧ 0 < (are P Y Z).toInt))) := by
        intro p hp
        obtain ⟨T, hp⟩ := hp
        have NT := NF_T T
        have e21 : p.2.1 1121 = m2.1 1121 := T.2.1 1121 (by decide)
        have S3 : WS W H s r F p.2 := WS_n hs S2 NT ⟨A, B, p1, by rw [T.1]; exact p2, by rw [T.1]; exact p3⟩
        have C3 : fcS W H s r F k fc p.2 := fcS_T hs hms16 C2' (by rw [e21]) (by rw [e21]) (by rw [e21]) (fun a _ a2 => T.2.1 a a2) T.1
        have c43 : p.2.1 1121 4 = nI j := by rw [e21]; exact c4
        have S4 : npS W H s r F (rsT W H F r k fc (j + 1)) p.2 := ⟨S3, .inr ⟨k, fc, j, C3, c43, ⟨j1, by omega⟩, jn, rfl⟩⟩
        rcases hp with ⟨e0, e1⟩ | ⟨Y, Z, e0, e1, e2, e3, e4, e5⟩
        · rw [if_pos e0, nI_p1]
          have hL' : L = rsT W H F r k fc (j + 1) := by rw [hL, hTL, e1, List.nil_append]
          rw [← hL'] at S4
          refine zok_w (ih (v + 1) fu p.2 (by omega) (by omega) (.inr (by rw [C3.2.1, C3.2.2.1, c43, nI_cl (n := k) (by omega), nI_cl (n := fc) (by omega), nI_cl (n := j) (by omega)]; exact hmu)) S4) (fun z hz => ⟨NF_t (NF_t N2 NT) hz.1, hz.2⟩)
        · rw [if_neg (by rw [e0]; decide)]
          refine zok_s ⟨NF_t N2 NT, S3.2.2.2.2.2, .inr ⟨rfl, rfl, k, fc, (lpl W H F r k fc).getD 0 oF, Y, Z, rsT W H F r k fc (j + 1), ⟨?_, C3.1⟩, S4, ⟨C3.2.1, C3.2.2.1⟩, e2, ?_, e3, e4, e5⟩⟩
          · rw [hL, hTL, e1, List.singleton_append]
          · rw [lpl_get (by omega)]
            exact hCP 0 (by omega)
      rw [zoS_h sh_1121, zob_h (rf_1121_0 S2.1), zoS_h sh_1121, zob_h p2, zoS_h sh_1121, zoS_h sh_1121, zob_h S2.2.1.1, zoS_h (sh_s0 hs), zob_h (rf_s2 S2.1 hs), zoS_h sh_1121, zob_h hmt]
      dsimp only
      rw [zoR_h (sh_s3 hs) (by decide), nI_ix mt16 (by decide), nI_cl (n := mtN (fun a => F (r + a)) ((ordR F r).2 k)) (by omega), zob_h (rf_mt S2.1 hs mt16), zoS_h (sh_smt hs mt16), if_neg (by decide), show (5 : Int32).toNatClampNeg = 5 from rfl, hfl, c4]
      by_cases both : F (r + 7) (mtN (fun a => F (r + a)) ((ordR F r).2 k)) = 1
      · have eb : npB F r k = true := decide_eq_true both
        rw [if_pos both, zoS_h sh_1122]
        refine zok_b (show zok (F_XPiece_take (sh0 W H) m2 1122 A (nI j) 1) _ by rw [eb] at htk; exact htk) (fun p hp => cont p (by rw [eb]; exact hp))
      · have eb : npB F r k = false := decide_eq_false both
        rw [if_neg both, zoS_h sh_1122]
        refine zok_b (show zok (F_XPiece_take (sh0 W H) m2 1122 A (nI j) 0) _ by rw [eb] at htk; exact htk) (fun p hp => cont p (by rw [eb]; exact hp))
    have nft : ∀ (m7 : zMem) (k : Nat), NF m m7 → WS W H s r F m7 → m7.1 1121 12 = nI k → k ≤ (ordR F r).1 → nfS W H s r F k L m7 → (∀ k' fc' : Nat, (k < k' ∨ k' = k ∧ (m7.1 1121 1).toInt < fc') → k' < 48 → fc' < 128 → 17 * (128 * (48 - k') - (fc' + 1)) + 17 ≤ d) → zok (zoS ((sh0 W H) 1121) 9 (fun le48 => Option.bind (F_XSight_nextFace (sh0 W H) m7 1121) (fun p49 => (if p49.1 = 0 then some (0, 0, (0 : Nat), (0 : Int32), p49.2) else zoS ((sh0 W H) 1121) 9 (fun le52 => zoL (mI (p49.2) 1121 4 1) (fun mm53 => zoS ((sh0 W H) 1121) 9 (fun le14 => Option.bind (mm53.2.2 1121 0) (fun a15 => zoS ((sh0 W H) 1121) 9 (fun le17 => Option.bind (mm53.2.2 1121 2) (fun a18 => zoS ((sh0 W H) 1121) 9 (fun le20 => zoS ((sh0 W H) 1121) 9 (fun le22 => Option.bind (mm53.2.2 1121 7) (fun a23 => zoS ((sh0 W H) a23) 8 (fun le25 => Option.bind (mm53.2.2 a23 2) (fun a26 => zoS ((sh0 W H) 1121) 9 (fun le28 => Option.bind (F_XSight_materialNumber (sh0 W H) mm53 1121) (fun p29 => zoR ((sh0 W H) a26) (fun t33 le31 => if (p29.1 : Int32) < 0 ∨ le31 ≤ (p29.1 : Int32).toNatClampNeg then none else Option.bind ((p29.2).2.2 a26 (p29.1 : Int32).toNatClampNeg) (fun a34 => zoS ((sh0 W H) a34) 100 (fun le36 => if (5 : Int32) < 0 ∨ le36 ≤ (5 : Int32).toNatClampNeg then none else (if ((p29.2).1 a34 (5 : Int32).toNatClampNeg) = 1 then zoS ((sh0 W H) a15) 6 (fun le44 => Option.bind (F_XPiece_take (sh0 W H) (p29.2) a15 a18 (mm53.1 1121 4) 1) (fun p45 => (if p45.1 = 0 then L_XSight_nextPiece_2 (sh0 W H) fu 1121 (nI v + 1) (p45.2) else some (0, 1, (0 : Nat), (0 : Int32), p45.2)))) else zoS ((sh0 W H) a15) 6 (fun le40 => Option.bind (F_XPiece_take (sh0 W H) (p29.2) a15 a18 (mm53.1 1121 4) 0) (fun p41 => (if p41.1 = 0 then L_XSight_nextPiece_2 (sh0 W H) fu 1121 (nI v + 1) (p41.2) else some (0, 1, (0 : Nat), (0 : Int32), p41.2))))))))))))))))))))))))) (fun z => NF m z.2.2.2.2 ∧ hAB z.2.2.2.2 ∧ ((z.1 = 0 ∧ z.2.1 = 0 ∧ L = []) ∨ (z.1 = 0 ∧ z.2.1 = 1 ∧ ∃ k fc P Y Z t, (L = ((ordR F r).2 k, fc, P, Y, Z) :: t ∧ k < (ordR F r).1) ∧ npS W H s r F t z.2.2.2.2 ∧ (z.2.2.2.2.1 1121 12 = nI k ∧ z.2.2.2.2.1 1121 1 = nI fc) ∧ PCm P Y Z z.2.2.2.2 ∧ CP P ∧ CP Y ∧ CP Z ∧ 0 < (are P Y Z).toInt))) := by
      intro m7 k N7 S7 c12 hk hnf hmu
      have hF : zok (F_XSight_nextFace (sh0 W H) m7 1121) (fun p => NF m7 p.2 ∧ hAB p.2 ∧ ((p.1 = 0 ∧ L = []) ∨ (p.1 = 1 ∧ ∃ k' fc', fcS W H s r F k' fc' p.2 ∧ L = rsF W H F r k' fc' ∧ (k < k' ∨ k' = k ∧ (m7.1 1121 1).toInt < fc')))) := by
        unfold F_XSight_nextFace
        refine zok_b (e_nf0 (W := W) (H := H) (L := L) hs hW8 hH8 hW48 hH48 ((ordR F r).1 - k) k zfuel m7 (by omega) (zf_lt (by omega)) S7 c12 hnf) (fun z hz => ?_)
        obtain ⟨x1, x2, x3⟩ := hz
        rcases x3 with ⟨y0, y1⟩ | ⟨y0, y1, y2⟩
        · rw [if_pos y0]
          exact zok_s ⟨x1, x2, .inl ⟨rfl, y1⟩⟩
        · rw [if_neg (by rw [y0]; decide)]
          exact zok_s ⟨x1, x2, .inr ⟨y1, y2⟩⟩
      rw [zoS_h sh_1121]
      refine zok_b hF (fun p hp => ?_)
      obtain ⟨x1, x2, x3⟩ := hp
      rcases x3 with ⟨y0, y1⟩ | ⟨y0, k', fc', y1, y2, y3⟩
      · rw [if_pos y0]
        exact zok_s ⟨NF_t N7 x1, x2, .inl ⟨rfl, rfl, y1⟩⟩
      · rw [if_neg (by rw [y0]; decide), zoS_h sh_1121, zoL_e]
        have S8 := WS_n hs S7 x1 x2
        have N8 : NF p.2 (mI p.2 1121 4 1) := NF_i (.inr (.inr (.inl rfl)))
        obtain ⟨_, _, hms, _⟩ := e_mtNo (W := W) (H := H) hs S8 y1.1 y1.2.1
        have f128 := nf8 k' hms
        have fl := y1.2.2.2.1
        have kl := y1.1
        have ln : 3 ≤ (lpR W H F r k' fc').length := y1.2.2.2.2.2.2
        exact tail (mI p.2 1121 4 1) k' fc' 1 (NF_t (NF_t N7 x1) N8) (WS_n hs S8 N8 x2) (fcS_T hs (by omega) y1 (by rw [mI_v, if_pos rfl, if_neg (by decide)]) (by rw [mI_v, if_pos rfl, if_neg (by decide)]) (by rw [mI_v, if_pos rfl, if_neg (by decide)]) (fun a a1 _ => mI_o a1) rfl) (by rw [mI_v, if_pos rfl, if_pos rfl]; rfl) (Nat.le_refl _) (by omega) (hmu k' fc' y3 (by omega) (by omega)) (by rw [y2, rsF_T fl ln])
    have v0 : ¬ (147456 : Int32) ≤ nI v := by rw [show (147456 : Int32) = nI 147456 from rfl, nI_leD (by omega) (by omega)]; omega
    rcases hN.2 with ⟨c4, c3, c12, c1, hL⟩ | ⟨k, fc, i, C, c4, hi, hn, hL⟩
    · have N7 : NF m (mI m 1121 4 (nI 1)) := NF_i (.inr (.inr (.inl rfl)))
      have hd : 104449 ≤ d + 1 := by
        rcases hM with h | h
        · exact h
        · rw [c4, c12, c1] at h
          exact h
      rw [L_XSight_nextPiece_2, if_neg v0, zoS_h sh_1121, c4, nI_p1, zoL_e, zoS_h sh_1121, zoL_e, zoS_h sh_1121, zoS_h sh_1121, if_neg (by rw [mI_v, if_pos rfl, if_pos rfl, mI_v, if_pos rfl, if_neg (by decide), c3]; decide)]
      exact nft (mI m 1121 4 (nI 1)) 0 N7 (WS_n hs hN.1 N7 hN.1.2.2.2.2.2) (by rw [mI_v, if_pos rfl, if_neg (by decide)]; exact c12) (by omega) (.inl ⟨by rw [mI_v, if_pos rfl, if_neg (by decide)]; exact c1, hL⟩) (fun k' fc' _ h1 h2 => by omega)
    · have N7 : NF m (mI m 1121 4 (nI (i + 1))) := NF_i (.inr (.inr (.inl rfl)))
      obtain ⟨_, _, hms, _⟩ := e_mtNo (W := W) (H := H) hs hN.1 C.1 C.2.1
      have f128 := nf8 k hms
      have l19 := (lpR_CP (fc := fc) hN.1 hW8 hH8 hW48 hH48 hms C.2.2.2.1).1
      have fl := C.2.2.2.1
      have kl := C.1
      have C7 : fcS W H s r F k fc (mI m 1121 4 (nI (i + 1))) := fcS_T hs (by omega) C (by rw [mI_v, if_pos rfl, if_neg (by decide)]) (by rw [mI_v, if_pos rfl, if_neg (by decide)]) (by rw [mI_v, if_pos rfl, if_neg (by decide)]) (fun a a1 _ => mI_o a1) rfl
      have S7 := WS_n hs hN.1 N7 hN.1.2.2.2.2.2
      have hmu : 17 * (128 * (48 - k) - (fc + 1)) + (18 - i) ≤ d + 1 := by
        rcases hM with h | h
        · omega
        · rw [C.2.1, C.2.2.1, c4, nI_cl (n := k) (by omega), nI_cl (n := fc) (by omega), nI_cl (n := i) (by omega)] at h
          exact h
      obtain ⟨A, B, p1, p2, p3, p4, p5⟩ := C7.2.2.2.2.2.1
      have c37 : (mI m 1121 4 (nI (i + 1))).1 1121 3 = nI (lpR W H F r k fc).length := p4
      have c47 : (mI m 1121 4 (nI (i + 1))).1 1121 4 = nI (i + 1) := by rw [mI_v, if_pos rfl, if_pos rfl]
      rw [L_XSight_nextPiece_2, if_neg v0, zoS_h sh_1121, c4, nI_p1, zoL_e, zoS_h sh_1121, zoL_e, zoS_h sh_1121, zoS_h sh_1121]
      by_cases more : i + 1 + 1 < (lpR W H F r k fc).length
      · rw [if_pos (by rw [c47, c37, nI_p1, i32_lt, nI_toInt (by omega), nI_toInt (by omega)]; omega)]
        exact tail (mI m 1121 4 (nI (i + 1))) k fc (i + 1) N7 S7 C7 c47 (by omega) more (by omega) hL
      · rw [if_neg (by rw [c47, c37, nI_p1, i32_lt, nI_toInt (by omega), nI_toInt (by omega)]; omega)]
        have c17 : (mI m 1121 4 (nI (i + 1))).1 1121 1 = nI fc := C7.2.2.1
        refine nft (mI m 1121 4 (nI (i + 1))) k N7 S7 C7.2.1 (by omega) (.inr ⟨C.1, fc, fl, c17, C7.2.2.2.2.1, by rw [hL, rsT_e (by omega)]⟩) (fun k' fc' ho h1 h2 => ?_)
        rw [c17, nI_toInt (by omega)] at ho
        omega
/-- the class's next piece: the head of what rests -/
theorem e_nextPiece {s r : Nat} {F : Nat → Nat → Int32} {L : List Pc} {m : zMem} (hs : gS s) (hW8 : 8 ≤ W) (hH8 : 8 ≤ H) (hW48 : W ≤ 48) (hH48 : H ≤ 48) (hN : npS W H s r F L m) : zok (F_XSight_nextPiece (sh0 W H) m 1121) (fun z => NF m z.2 ∧ hAB z.2 ∧ ((z.1 = 0 ∧ L = []) ∨ (z.1 = 1 ∧ ∃ k fc P Y Z t, (L = ((ordR F r).2 k, fc, P, Y, Z) :: t ∧ k < (ordR F r).1) ∧ npS W H s r F t z.2 ∧ (z.2.1 1121 12 = nI k ∧ z.2.1 1121 1 = nI fc) ∧ PCm P Y Z z.2 ∧ CP P ∧ CP Y ∧ CP Z ∧ 0 < (are P Y Z).toInt))) := by
  unfold F_XSight_nextPiece
  refine zok_b (show zok (L_XSight_nextPiece_2 (sh0 W H) zfuel 1121 (nI 0) m) _ from e_np2 (L := L) hs hW8 hH8 hW48 hH48 104449 0 zfuel m (by decide) (zf_lt (by decide)) (.inl (Nat.le_refl _)) hN) (fun z hz => ?_)
  obtain ⟨x1, xq, x2⟩ := hz
  rcases x2 with ⟨y0, y1, y2⟩ | ⟨y0, y1, y2⟩
  · rw [if_neg (by rw [y0]; decide)]
    exact zok_s ⟨x1, xq, .inl ⟨y1, y2⟩⟩
  · rw [if_neg (by rw [y0]; decide)]
    exact zok_s ⟨x1, xq, .inr ⟨y1, y2⟩⟩
end ZNP
