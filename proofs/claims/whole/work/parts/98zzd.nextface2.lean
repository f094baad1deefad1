/-! PURE: the class goes to the next face, over the nodes -/
section ZND
variable {W H : Nat}
def PTK (s r : Nat) (F : Nat → Nat → Int32) (k : Nat) (f : Nat → Nat → Int32) : Prop := PTS s (msN (fun a => F (r + a)) ((ordR F r).2 k)) (F (r + 9) (msN (fun a => F (r + a)) ((ordR F r).2 k))).toNatClampNeg (mW F r ((ordR F r).2 k)) (wW F r ((ordR F r).2 k)) F r f
/-- what rests from node k on -/
def rsN (W H : Nat) (F : Nat → Nat → Int32) (r k : Nat) : List Pc := ndsL W H F r (ordR F r).2 ((ordR F r).1 - k) k
/-- what rests from face fc of node k on -/
def rsF (W H : Nat) (F : Nat → Nat → Int32) (r k fc : Nat) : List Pc := fcsL W H (mW F r ((ordR F r).2 k)) (wW F r ((ordR F r).2 k)) F r ((ordR F r).2 k) (nfN F r ((ordR F r).2 k) - fc) fc ++ rsN W H F r (k + 1)
theorem rsN_s {F : Nat → Nat → Int32} {r k : Nat} (h : k < (ordR F r).1) : rsN W H F r k = rsF W H F r k 0 := by
  unfold rsN rsF rsN
  rw [show (ordR F r).1 - k = ((ordR F r).1 - (k + 1)) + 1 by omega, ndsL]
  rfl
theorem rsN_e {F : Nat → Nat → Int32} {r k : Nat} (h : (ordR F r).1 ≤ k) : rsN W H F r k = [] := by
  unfold rsN
  rw [show (ordR F r).1 - k = 0 by omega]
  rfl
/-- where the next face is looked for -/
def nfS (W H s r : Nat) (F : Nat → Nat → Int32) (k : Nat) (L : List Pc) (m : zMem) : Prop := (m.1 1121 1 = -1 ∧ L = rsN W H F r k) ∨ (k < (ordR F r).1 ∧ ∃ fc, fc < nfN F r ((ordR F r).2 k) ∧ m.1 1121 1 = nI fc ∧ PTK s r F k m.1 ∧ L = rsF W H F r k (fc + 1))
/-- a face is held -/
def fcS (W H s r : Nat) (F : Nat → Nat → Int32) (k fc : Nat) (m : zMem) : Prop := k < (ordR F r).1 ∧ m.1 1121 12 = nI k ∧ m.1 1121 1 = nI fc ∧ fc < nfN F r ((ordR F r).2 k) ∧ PTK s r F k m.1 ∧ PJ (F r 34).toInt64 (w8n W) (w8n H) (ply (w64 W) (w64 H) (mW F r ((ordR F r).2 k)) (wW F r ((ordR F r).2 k)) F r (msN (fun a => F (r + a)) ((ordR F r).2 k)) fc) m ∧ 3 ≤ (ply (w64 W) (w64 H) (mW F r ((ordR F r).2 k)) (wW F r ((ordR F r).2 k)) F r (msN (fun a => F (r + a)) ((ordR F r).2 k)) fc).length
set_option maxHeartbeats 4000000 in
theorem e_nf0 {s r : Nat} {F : Nat → Nat → Int32} {L : List Pc} (hs : gS s) (hW8 : 8 ≤ W) (hH8 : 8 ≤ H) (hW48 : W ≤ 48) (hH48 : H ≤ 48) : ∀ (d k fuel : Nat) (m : zMem), k + d = (ordR F r).1 → d < fuel → WS W H s r F m → m.1 1121 12 = nI k → nfS W H s r F k L m → zok (L_XSight_nextFace_0 (sh0 W H) fuel 1121 m) (fun z => NF m z.2.2.2 ∧ hAB z.2.2.2 ∧ ((z.1 = 1 ∧ L = []) ∨ (z.1 = 0 ∧ z.2.1 = 1 ∧ ∃ k' fc', fcS W H s r F k' fc' z.2.2.2 ∧ L = rsF W H F r k' fc' ∧ (k < k' ∨ k' = k ∧ (m.1 1121 1).toInt < fc')))) := by
  intro d
  induction d with
  | zero =>
    intro k fuel m hk hf hS h12 hN
    obtain ⟨fu, rfl⟩ : ∃ fu, fuel = fu + 1 := ⟨fuel - 1, by omega⟩
    have hob := ord_b (g := fun a => F (r + a)) (vis := visN F r) (ky := fun k => mW F r k 11) (cn (fun a => F (r + a)) 3)
    have hon : (ordR F r).1 ≤ cn (fun a => F (r + a)) 3 := hob.1
    have N := Wsc_n hS.2.2.1.1
    rw [L_XSight_nextFace_0, zoS_h sh_1121, zoS_h sh_1121, hS.2.1.2.1, h12, if_pos (by rw [nI_leD (by omega) (by omega)]; omega)]
    refine zok_s ⟨NF_r, hS.2.2.2.2.2, .inl ⟨rfl, ?_⟩⟩
    rcases hN with ⟨_, e⟩ | ⟨e, _⟩
    · rw [e, rsN_e (by omega)]
    · omega
  | succ d ih =>
    intro k fuel m hk hf hS h12 hN
    obtain ⟨fu, rfl⟩ : ∃ fu, fuel = fu + 1 := ⟨fuel - 1, by omega⟩
    have hkc : k < (ordR F r).1 := by omega
    have hob := ord_b (g := fun a => F (r + a)) (vis := visN F r) (ky := fun k => mW F r k 11) (cn (fun a => F (r + a)) 3)
    have hon : (ordR F r).1 ≤ cn (fun a => F (r + a)) 3 := hob.1
    have hov := hob.2 k hkc
    have hnd : (ordR F r).2 k < cn (fun a => F (r + a)) 3 := hov.1
    have hvs : visN F r ((ordR F r).2 k) = true := hov.2
    have hmd := vis_m hvs
    have N := Wsc_n hS.2.2.1.1
    have o75 := hS.2.1.2.2.1 k hkc
    obtain ⟨a1, a2, a3, a4⟩ := Wsc_ms hS.2.2.1.1 hnd hmd
    obtain ⟨_, n2, _⟩ := hS.2.2.1.2.2.2.2.1 _ hnd
    have hm16 : msN (fun a => F (r + a)) ((ordR F r).2 k) < 16 := by omega
    have nd48 : (ordR F r).2 k < 48 := by omega
    have lm : msA s (msN (fun a => F (r + a)) ((ordR F r).2 k)) + 4 < 1121 := by unfold msA; rcases hs with e | e | e <;> omega
    have n2' : m.1 (ndA s ((ordR F r).2 k)) 1 = nI (msN (fun a => F (r + a)) ((ordR F r).2 k)) := n2.trans a1
    have hnf : nfN F r ((ordR F r).2 k) ≤ 128 := by
      obtain ⟨_, _, np', nf', n1, n2, n3, n4, n5, n6, n7, n8, n9⟩ := hS.2.2.1.1.2.2.1 _ a2
      have e6 : F (r + 10) (msN (fun a => F (r + a)) ((ordR F r).2 k)) = nI nf' := n6
      unfold nfN
      rw [e6, nI_cl (by omega)]
      exact n4
    have tail : ∀ (m2 : zMem) (fc : Nat), fc ≤ nfN F r ((ordR F r).2 k) → NF m m2 → WS W H s r F m2 → m2.1 1121 12 = nI k → m2.1 1121 1 = nI fc → PTK s r F k m2.1 → L = rsF W H F r k fc → (m.1 1121 1).toInt < fc → zok (Option.bind (L_XSight_nextFace_62 (sh0 W H) zfuel 1121 (msA s (msN (fun a => F (r + a)) ((ordR F r).2 k))) m2) (fun q67 => (if q67.1 = 1 then zoS ((sh0 W H) (q67.2.2.1)) 9 (fun le69 => zoL (mI (q67.2.2.2.2) (q67.2.2.1) 1 (-1)) (fun mm70 => zoS ((sh0 W H) (q67.2.2.1)) 9 (fun le72 => zoL ((mm70.1 (q67.2.2.1) 12) + 1) (fun x73 => zoS ((sh0 W H) (q67.2.2.1)) 9 (fun le75 => zoL (mI mm70 (q67.2.2.1) 12 x73) (fun mm76 => L_XSight_nextFace_0 (sh0 W H) fu (q67.2.2.1) mm76)))))) else some (0, q67.2.1, (0 : Nat), q67.2.2.2.2)))) (fun z => NF m z.2.2.2 ∧ hAB z.2.2.2 ∧ ((z.1 = 1 ∧ L = []) ∨ (z.1 = 0 ∧ z.2.1 = 1 ∧ ∃ k' fc', fcS W H s r F k' fc' z.2.2.2 ∧ L = rsF W H F r k' fc' ∧ (k < k' ∨ k' = k ∧ (m.1 1121 1).toInt < fc')))) := by
      intro m2 fc hfc N2 S2 c12 c1 T2 hL hlt
      refine zok_b (e_nf62 (W := W) (H := H) (k := k) (nd := (ordR F r).2 k) hs hW8 hH8 hW48 hH48 S2.2.2.1.1 a2 rfl rfl rfl (nfN F r ((ordR F r).2 k) - fc) fc zfuel m2 (by show fc + (nfN F r ((ordR F r).2 k) - fc) = nfN F r ((ordR F r).2 k); omega) (zf_lt (by omega)) S2 c12 c1 T2) (fun z hz => ?_)
      obtain ⟨z0, z1, z2, z3, m3⟩ := z
      obtain ⟨q1, q2, q3, q4, q5⟩ := hz
      simp only at q1 q2 q3 q4 q5
      have N3 := NF_t N2 q1
      rcases q5 with ⟨e0, e1, e2⟩ | ⟨e0, e1, e, fc', ⟨p1, pl⟩, p2, p3, p4, p5⟩
      · subst e0 e1
        rw [if_pos rfl]
        dsimp only
        have c3 : (mI m3 1121 1 (-1)).1 1121 12 = nI k := by rw [mI_v, if_pos rfl, if_neg (by decide)]; exact q3
        rw [zoS_h sh_1121, zoL_e, zoS_h sh_1121, c3, nI_p1, zoL_e, zoS_h sh_1121, zoL_e]
        have N4 : NF m3 (mI (mI m3 1121 1 (-1)) 1121 12 (nI (k + 1))) := NF_t (NF_i (.inl rfl)) (NF_i (.inr (.inr (.inr rfl))))
        have S4 := WS_n hs (WS_n hs S2 q1 q2) N4 q2
        refine zok_w (ih (k + 1) fu _ (by omega) (by omega) S4 (by rw [mI_v, if_pos rfl, if_pos rfl]) (.inl ⟨by rw [mI_v, if_pos rfl, if_neg (by decide), mI_v, if_pos rfl, if_pos rfl], ?_⟩)) (fun z hz => ⟨NF_t (NF_t N3 N4) hz.1, hz.2.1, ?_⟩)
        rotate_left
        · rcases hz.2.2 with q | ⟨q0, q1, q2, q3, q4, q5, q6⟩
          · exact .inl q
          · exact .inr ⟨q0, q1, q2, q3, q4, q5, by omega⟩
        rw [hL]
        unfold rsF
        rw [e2, List.nil_append]
      · subst e0 e1
        dsimp only
        rw [if_neg (show ¬ (0 : Nat) = 1 by decide)]
        have p1' : fc' + (e + 1) = nfN F r ((ordR F r).2 k) := p1
        refine zok_s ⟨N3, q2, .inr ⟨rfl, rfl, k, fc', ⟨hkc, q3, p3, by omega, q4, p4, p5⟩, ?_, .inr ⟨rfl, by omega⟩⟩⟩
        rw [hL]
        unfold rsF
        rw [p2, show nfN F r ((ordR F r).2 k) - fc' = e + 1 by omega]
    have ix := nI_cl (show k < 2147483648 by omega)
    generalize hcv : (m.1 1121 1).toInt = cv at tail ⊢
    rw [L_XSight_nextFace_0, zoS_h sh_1121, zoS_h sh_1121, hS.2.1.2.1, h12, if_neg (by rw [nI_leD (by omega) (by omega)]; omega), zoS_h sh_1121, zob_h hS.2.1.1, zoS_h (sh_s0 hs), zob_h (rf_s3 hS.1 hs), zoS_h sh_1121, zob_h hS.2.1.1, zoS_h (sh_s0 hs), zob_h (rf_s4 hS.1 hs), zoS_h sh_1121, zob_h (rf_1121_10 hS.1), zoS_h sh_1121, zoL_e, zoS_h sh_1175, nI_ix (by omega) (by decide), ix, o75, zoL_e, zoR_h (sh_s21 hs) (by decide), nI_ix (by omega) (by decide), nI_cl (n := (ordR F r).2 k) (by omega), zob_h (rf_nd hS.1 hs nd48), zoS_h (sh_ndA hs nd48), n2', zoL_e, zoR_h (sh_s20 hs) (by decide), nI_ix (by omega) (by decide), nI_cl (n := msN (fun a => F (r + a)) ((ordR F r).2 k)) (by omega), zob_h (rf_ms hS.1 hs hm16), zoS_h sh_1121]
    rcases hN with ⟨e1, e2⟩ | ⟨_, fc, f1, f2, f3, f4⟩
    · rw [e1, if_neg (by decide), zoS_h sh_1121]
      refine zok_b (e_stP (W := W) (H := H) hs hS.1 hS.2.1 hS.2.2.1 hS.2.2.2.1 hkc h12) (fun m2 hm2 => ?_)
      obtain ⟨u1, u2, u3⟩ := hm2
      have N2 : NF m m2 := ⟨fun _ _ _ => by rw [u1], fun a h1 h2 h3 h4 h5 => u2 a h4, fun c _ _ _ _ => by rw [u2 1121 (by decide)], fun _ _ => by rw [u1]⟩
      have hq2 : hAB m2 := by
        obtain ⟨A, B, p1, p2, p3⟩ := hS.2.2.2.2.2
        exact ⟨A, B, p1, by rw [u1]; exact p2, by rw [u1]; exact p3⟩
      have S2 := WS_n hs hS N2 hq2
      have c2 : m2.1 1121 1 = -1 := by rw [u2 1121 (by decide)]; exact e1
      have c12 : m2.1 1121 12 = nI k := by rw [u2 1121 (by decide)]; exact h12
      have N3 : NF m2 (mI m2 1121 1 (nI 0)) := NF_i (.inl rfl)
      rw [zoS_h sh_1121, c2, show (-1 : Int32) + 1 = nI 0 from rfl, zoL_e, zoS_h sh_1121, zoL_e]
      exact tail (mI m2 1121 1 (nI 0)) 0 (by omega) (NF_t N2 N3) (WS_n hs S2 N3 hq2) (by rw [mI_v, if_pos rfl, if_neg (by decide)]; exact c12) (by rw [mI_v, if_pos rfl, if_pos rfl]) (PTS_n u3 (mI_o (by decide)) (mI_o (by omega))) (by rw [e2, rsN_s hkc]) (by rw [← hcv, e1]; decide)
    · have N3 : NF m (mI m 1121 1 (nI (fc + 1))) := NF_i (.inl rfl)
      rw [f2, if_pos (by rw [show (0 : Int32) = nI 0 from rfl, nI_leD (by omega) (by omega)]; omega), zoS_h sh_1121, nI_p1, zoL_e, zoS_h sh_1121, zoL_e]
      exact tail (mI m 1121 1 (nI (fc + 1))) (fc + 1) (by omega) N3 (WS_n hs hS N3 hS.2.2.2.2.2) (by rw [mI_v, if_pos rfl, if_neg (by decide)]; exact h12) (by rw [mI_v, if_pos rfl, if_pos rfl]) (PTS_n f3 (mI_o (by decide)) (mI_o (by omega))) f4 (by rw [← hcv, f2, nI_toInt (by omega)]; omega)
end ZND
