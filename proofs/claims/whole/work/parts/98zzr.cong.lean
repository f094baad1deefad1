/-! PURE: pieces are made of the rows' own places alone -/
section ZCG
variable {W H : Nat}
/-- two scenes' rows agree where they have places -/
def rEq (f : Nat → Nat → Int32) (r : Nat) (f' : Nat → Nat → Int32) (r' : Nat) : Prop := (∀ c, (c < 5 ∨ c = 34 ∨ c = 35) → f r c = f' r' c) ∧ (∀ j, 1 ≤ j → j < 30 → j ≠ 20 → ∀ q, q < rl j → f (r + j) q = f' (r' + j) q) ∧ ∀ q, q < cn (fun a => f (r + a)) 3 → f (r + 20) q = f' (r' + 20) q
variable {f f' : Nat → Nat → Int32} {r r' : Nat}
theorem cn_in (h : rEq f r f' r') {c : Nat} (hc : c < 5) : cn (fun a => f (r + a)) c = cn (fun a => f' (r' + a)) c := by
  show (f (r + 0) c).toNatClampNeg = (f' (r' + 0) c).toNatClampNeg
  have : f r c = f' r' c := h.1 c (Or.inl hc)
  rw [Nat.add_zero, Nat.add_zero, this]
theorem anc_in {p p' : Nat → Int32} {n : Nat} (hp : parB p n) (he : ∀ q, q < n → p q = p' q) : ∀ d i, i < n → anc p d i = anc p' d i ∧ ∀ x, x ∈ anc p d i → x < n := by
  intro d
  induction d with
  | zero =>
    intro i hi
    refine ⟨rfl, fun x hx => ?_⟩
    unfold anc at hx
    rw [List.mem_singleton] at hx
    omega
  | succ d ih =>
    intro i hi
    unfold anc
    rw [← he i hi]
    by_cases c : p i < 0
    · rw [if_pos c, if_pos c]
      exact ⟨rfl, fun x hx => by rw [List.mem_singleton] at hx; omega⟩
    · rw [if_neg c, if_neg c]
      have hl := (par_nI hp hi c).2
      obtain ⟨a1, a2⟩ := ih (p i).toNatClampNeg (by omega)
      refine ⟨by rw [a1], fun x hx => ?_⟩
      rcases List.mem_cons.mp hx with e | e
      · omega
      · exact a2 x e
theorem wch_in (h : rEq f r f' r') : ∀ l : List Nat, (∀ x, x ∈ l → x < 48) → ∀ k, k < 12 → wch f r l k = wch f' r' l k := by
  have hw : ∀ x, x < 48 → ∀ k, k < 12 → wL f r x k = wL f' r' x k := fun x hx k hk => by
    unfold wL
    exact lM_c (fun c hc => h.2.1 17 (by decide) (by decide) (by decide) _ (by have := rl_w.2.2.1; omega)) (fun c hc => h.2.1 18 (by decide) (by decide) (by decide) _ (by have := rl_w.2.2.2.1; omega)) (fun c hc => h.2.1 19 (by decide) (by decide) (by decide) _ (by have := rl_w.2.2.2.2.1; omega)) hk
  intro l
  induction l with
  | nil => intro _ k _; rfl
  | cons x t ih =>
    intro hl k hk
    cases t with
    | nil => exact hw x (hl x (List.mem_cons_self)) k hk
    | cons y t =>
      show pM (wch f r (y :: t)) (wL f r x) (fun _ => 0) k = pM (wch f' r' (y :: t)) (wL f' r' x) (fun _ => 0) k
      exact pM_c (fun k hk => ih (fun z hz => hl z (List.mem_cons_of_mem _ hz)) k hk) (fun k hk => hw x (hl x (List.mem_cons_self)) k hk) hk
theorem chn_in (h : rEq f r f' r') (hW : Wsc (fun a => f (r + a))) {i : Nat} (hi : i < cn (fun a => f (r + a)) 3) : chn (f (r + 15)) i = chn (f' (r' + 15)) i ∧ ∀ x, x ∈ chn (f (r + 15)) i → x < cn (fun a => f (r + a)) 3 := by
  have N := Wsc_n hW
  exact anc_in (Wsc_p hW).1 (fun q hq => h.2.1 15 (by decide) (by decide) (by decide) q (by have := rl_w.1; omega)) i i hi
theorem wW_in (h : rEq f r f' r') (hW : Wsc (fun a => f (r + a))) {i : Nat} (hi : i < cn (fun a => f (r + a)) 3) : ∀ k, k < 12 → wW f r i k = wW f' r' i k := by
  have N := Wsc_n hW
  obtain ⟨a1, a2⟩ := chn_in h hW hi
  intro k hk
  unfold wW
  rw [← a1]
  exact wch_in h _ (fun x hx => by have := a2 x hx; omega) k hk
theorem vW_in (h : rEq f r f' r') (k : Nat) : vW f r k = vW f' r' k := by
  have e : ∀ j c, (j = 27 ∨ j = 28) → c < 3 → f (r + j) c = f' (r' + j) c := fun j c hj hc => by
    have := rl_w
    rcases hj with rfl | rfl
    · exact h.2.1 27 (by decide) (by decide) (by decide) c (by omega)
    · exact h.2.1 28 (by decide) (by decide) (by decide) c (by omega)
  unfold vW vS3
  rw [e 28 0 (Or.inr rfl) (by decide), e 28 1 (Or.inr rfl) (by decide), e 28 2 (Or.inr rfl) (by decide), e 27 0 (Or.inl rfl) (by decide), e 27 1 (Or.inl rfl) (by decide), e 27 2 (Or.inl rfl) (by decide)]
theorem mW_in (h : rEq f r f' r') (hW : Wsc (fun a => f (r + a))) {i : Nat} (hi : i < cn (fun a => f (r + a)) 3) : mW f r i = mW f' r' i := by
  funext k
  unfold mW
  by_cases hk : k < 12
  · exact pM_c (fun k _ => vW_in h k) (wW_in h hW hi) hk
  · unfold pM
    rw [if_neg hk, if_neg hk]
theorem all_in {p q : Nat → Bool} : ∀ l : List Nat, (∀ x, x ∈ l → p x = q x) → l.all p = l.all q := by
  intro l
  induction l with
  | nil => intro _; rfl
  | cons x t ih =>
    intro hl
    rw [List.all_cons, List.all_cons, hl x (List.mem_cons_self), ih (fun z hz => hl z (List.mem_cons_of_mem _ hz))]
theorem ms_in (h : rEq f r f' r') (hW : Wsc (fun a => f (r + a))) {i : Nat} (hi : i < cn (fun a => f (r + a)) 3) : f (r + 16) i = f' (r' + 16) i ∧ msN (fun a => f (r + a)) i = msN (fun a => f' (r' + a)) i := by
  have N := Wsc_n hW
  have e := h.2.1 16 (by decide) (by decide) (by decide) i (by have := rl_w; omega)
  refine ⟨e, ?_⟩
  show (f (r + 16) i).toNatClampNeg = (f' (r' + 16) i).toNatClampNeg
  rw [e]
theorem mt_in (h : rEq f r f' r') (hW : Wsc (fun a => f (r + a))) {i : Nat} (hi : i < cn (fun a => f (r + a)) 3) (hm : 0 ≤ (f (r + 16) i).toInt) : mtN (fun a => f (r + a)) i = mtN (fun a => f' (r' + a)) i := by
  have N := Wsc_n hW
  obtain ⟨_, b, _, _⟩ := Wsc_ms hW hi hm
  have e := (ms_in h hW hi).2
  have e8 := h.2.1 8 (by decide) (by decide) (by decide) (msN (fun a => f (r + a)) i) (by have := rl_v; omega)
  show (f (r + 8) (msN (fun a => f (r + a)) i)).toNatClampNeg = (f' (r' + 8) (msN (fun a => f' (r' + a)) i)).toNatClampNeg
  rw [e8, e]
theorem vis_in (h : rEq f r f' r') (hW : Wsc (fun a => f (r + a))) {i : Nat} (hi : i < cn (fun a => f (r + a)) 3) : visN f r i = visN f' r' i := by
  obtain ⟨a1, a2⟩ := chn_in h hW hi
  unfold visN shn
  rw [(ms_in h hW hi).1, ← a1, all_in (q := fun x => decide (f' (r' + 20) x = 0)) _ (fun x hx => by
    show decide (f (r + 20) x = 0) = decide (f' (r' + 20) x = 0)
    rw [h.2.2 x (a2 x hx)])]
theorem ip_in {p q : Nat → Bool} : ∀ n, (∀ k, k < n → p k = q k) → ip p n = ip q n := by
  intro n
  induction n with
  | zero => intro _; rfl
  | succ n ih =>
    intro h
    rw [ip, ip, h n (by omega), ih (fun k hk => h k (by omega))]
theorem sol_in (h : rEq f r f' r') (hW : Wsc (fun a => f (r + a))) {i : Nat} (hi : i < cn (fun a => f (r + a)) 3) (hv : visN f r i = true) : sol (fun a => f (r + a)) i = sol (fun a => f' (r' + a)) i := by
  have N := Wsc_n hW
  have hm := vis_m hv
  obtain ⟨_, _, _, b4⟩ := Wsc_ms hW hi hm
  have r5 : rl 5 = 64 := rl_v.2.2.2.2.1
  have e5 := h.2.1 5 (by decide) (by decide) (by decide) (4 * mtN (fun a => f (r + a)) i + 3) (by omega)
  have et := mt_in h hW hi hm
  unfold sol
  show decide (f (r + 5) (4 * mtN (fun a => f (r + a)) i + 3) = 255) = decide (f' (r' + 5) (4 * mtN (fun a => f' (r' + a)) i + 3) = 255)
  rw [e5, et]
theorem ahd_c2 {g g' : Nat → Nat → Int32} {ky ky' : Nat → Int64} {a b : Nat} (h1 : sol g a = sol g' a) (h2 : sol g b = sol g' b) (h3 : ky a = ky' a) (h4 : ky b = ky' b) : ahd g ky a b = ahd g' ky' a b := by
  unfold ahd
  rw [h1, h2, h3, h4]
theorem ord_c2 {g g' : Nat → Nat → Int32} {vis vis' : Nat → Bool} {ky ky' : Nat → Int64} {n : Nat} (hv : ∀ i, i < n → vis i = vis' i) (ha : ∀ i x, i < n → x < n → vis i = true → vis x = true → ahd g ky i x = ahd g' ky' i x) : ∀ i, i ≤ n → ordS g vis ky i = ordS g' vis' ky' i := by
  intro i
  induction i with
  | zero => intro _; rfl
  | succ i ih =>
    intro hi
    have e := ih (by omega)
    have ob := ord_b (g := g) (vis := vis) (ky := ky) i
    rw [ordS, ordS, ← hv i (by omega), ← e]
    generalize ordS g vis ky i = O at *
    by_cases hc : vis i = true
    · rw [if_pos hc, if_pos hc]
      have ei : ip (fun k => ahd g ky i (O.2 k)) O.1 = ip (fun k => ahd g' ky' i (O.2 k)) O.1 := ip_in _ (fun k hk => ha i (O.2 k) (by omega) (by have := (ob.2 k hk).1; omega) hc (ob.2 k hk).2)
      rw [ei]
    · rw [if_neg hc, if_neg hc]
theorem ordR_in (h : rEq f r f' r') (hW : Wsc (fun a => f (r + a))) : ordR f r = ordR f' r' := by
  unfold ordR
  rw [← cn_in h (show 3 < 5 by decide)]
  exact ord_c2 (fun i hi => vis_in h hW hi) (fun i x hi hx hv hy => ahd_c2 (sol_in h hW hi hv) (sol_in h hW hx hy) (congrFun (mW_in h hW hi) 11) (congrFun (mW_in h hW hx) 11)) _ (Nat.le_refl _)
theorem crn_in (h : rEq f r f' r') {M Wd Wd' : Nat → Int64} {ms p : Nat} (hms : ms < 16) (hp : p < 128) (hWd : ∀ k, k < 12 → Wd k = Wd' k) : crn M Wd f r ms p = crn M Wd' f' r' ms p := by
  have v := rl_v
  have w := rl_w
  have e11 : ∀ q, q < 6144 → f (r + 11) q = f' (r' + 11) q := fun q hq => h.2.1 11 (by decide) (by decide) (by decide) q (by omega)
  have e12 : ∀ q, q < 6144 → f (r + 12) q = f' (r' + 12) q := fun q hq => h.2.1 12 (by decide) (by decide) (by decide) q (by omega)
  have e13 : ∀ q, q < 4096 → f (r + 13) q = f' (r' + 13) q := fun q hq => h.2.1 13 (by decide) (by decide) (by decide) q (by omega)
  have e29 : ∀ q, q < 3 → f (r + 29) q = f' (r' + 29) q := fun q hq => h.2.1 29 (by decide) (by decide) (by decide) q (by omega)
  funext k
  unfold crn lgD apD
  rw [e11 _ (by omega), e11 _ (by omega), e11 _ (by omega), e12 _ (by omega), e12 _ (by omega), e12 _ (by omega), e13 _ (by omega), e13 _ (by omega), e29 0 (by decide), e29 1 (by decide), e29 2 (by decide), h.1 35 (Or.inr (Or.inr rfl)), hWd 0 (by decide), hWd 1 (by decide), hWd 2 (by decide), hWd 4 (by decide), hWd 5 (by decide), hWd 6 (by decide), hWd 8 (by decide), hWd 9 (by decide), hWd 10 (by decide)]
theorem fcL_in (h : rEq f r f' r') (hW : Wsc (fun a => f (r + a))) {M Wd Wd' : Nat → Int64} {nd fc : Nat} (hnd : nd < cn (fun a => f (r + a)) 3) (hm : 0 ≤ (f (r + 16) nd).toInt) (hfc : fc < nfN f r nd) (hWd : ∀ k, k < 12 → Wd k = Wd' k) : fcL W H M Wd f r nd fc = fcL W H M Wd' f' r' nd fc := by
  have N := Wsc_n hW
  have v := rl_v
  obtain ⟨_, b2, _, b4⟩ := Wsc_ms hW hnd hm
  have e7 := h.2.1 7 (by decide) (by decide) (by decide) (mtN (fun a => f (r + a)) nd) (by omega)
  have ems := (ms_in h hW hnd).2
  have emt := mt_in h hW hnd hm
  obtain ⟨k1, _⟩ := fc3_B (M := M) (Wd := Wd) (w := 0) (h := 0) (F := 0) hW b2 hfc
  obtain ⟨np, nf, _, _, _, nf8, _, enf, _, _, _⟩ := (hW.2.2.1 _ b2).2.2
  have hnf : fc < nf := by
    have : nfN f r nd = nf := by
      show (f (r + 10) (msN (fun a => f (r + a)) nd)).toNatClampNeg = nf
      have enf' : f (r + 10) (msN (fun a => f (r + a)) nd) = nI nf := enf
      rw [enf', nI_cl (by omega)]
    omega
  have ep : ∀ k, k < 3 → fcP f r (msN (fun a => f (r + a)) nd) fc k = fcP f' r' (msN (fun a => f (r + a)) nd) fc k ∧ fcP f r (msN (fun a => f (r + a)) nd) fc k < 128 := fun k hk => by
    refine ⟨?_, (k1 k hk).2⟩
    unfold fcP
    rw [h.2.1 14 (by decide) (by decide) (by decide) _ (by omega)]
  unfold fcL plyP ply fc3
  rw [← ems, ← emt, ← e7, ← h.1 34 (Or.inr (Or.inl rfl)), ← (ep 0 (by decide)).1, ← (ep 1 (by decide)).1, ← (ep 2 (by decide)).1, crn_in h (by omega) (ep 0 (by decide)).2 hWd, crn_in h (by omega) (ep 1 (by decide)).2 hWd, crn_in h (by omega) (ep 2 (by decide)).2 hWd]
theorem fcsL_in (h : rEq f r f' r') (hW : Wsc (fun a => f (r + a))) {M Wd Wd' : Nat → Int64} {nd : Nat} (hnd : nd < cn (fun a => f (r + a)) 3) (hm : 0 ≤ (f (r + 16) nd).toInt) (hWd : ∀ k, k < 12 → Wd k = Wd' k) : ∀ d c, c + d ≤ nfN f r nd → fcsL W H M Wd f r nd d c = fcsL W H M Wd' f' r' nd d c := by
  intro d
  induction d with
  | zero => intro c _; rfl
  | succ d ih =>
    intro c hc
    rw [fcsL, fcsL, ih (c + 1) (by omega), fcL_in h hW hnd hm (by omega) hWd]
theorem PLr_in (h : rEq f r f' r') (hW : Wsc (fun a => f (r + a))) : PLr W H f r = PLr W H f' r' := by
  have N := Wsc_n hW
  have ho := ordR_in h hW
  have ob := ord_b (g := fun a => f (r + a)) (vis := visN f r) (ky := fun k => mW f r k 11) (cn (fun a => f (r + a)) 3)
  unfold PLr
  rw [← ho]
  have hob : ∀ k, k < (ordR f r).1 → (ordR f r).2 k < cn (fun a => f (r + a)) 3 ∧ visN f r ((ordR f r).2 k) = true := ob.2
  generalize ordR f r = O at *
  have : ∀ d k, k + d ≤ O.1 → ndsL W H f r O.2 d k = ndsL W H f' r' O.2 d k := by
    intro d
    induction d with
    | zero => intro k _; rfl
    | succ d ih =>
      intro k hk
      obtain ⟨o1, o2⟩ := hob k (by omega)
      have hm := vis_m o2
      obtain ⟨_, b2, _, _⟩ := Wsc_ms hW o1 hm
      have enf : nfN f' r' (O.2 k) = nfN f r (O.2 k) := by
        show (f' (r' + 10) (msN (fun a => f' (r' + a)) (O.2 k))).toNatClampNeg = (f (r + 10) (msN (fun a => f (r + a)) (O.2 k))).toNatClampNeg
        rw [← (ms_in h hW o1).2, h.2.1 10 (by decide) (by decide) (by decide) _ (by have := rl_v; omega)]
      rw [ndsL, ndsL, ih (k + 1) (by omega), enf, ← mW_in h hW o1, fcsL_in h hW o1 hm (wW_in h hW o1) _ _ (by omega)]
  exact this _ _ (by omega)
/-- whose pieces -/
theorem fan_1 {both : Bool} {nd fc : Nat} {A : Nat → Int64} : ∀ l : List (Nat → Int64), ∀ p, p ∈ fanG both nd fc A l → p.1 = nd := by
  intro l
  induction l with
  | nil => intro p hp; cases hp
  | cons B t ih =>
    intro p hp
    cases t with
    | nil => cases hp
    | cons C t =>
      rw [fanG_s] at hp
      rcases List.mem_append.mp hp with e | e
      · unfold fan1 at e
        split at e
        · rw [List.mem_singleton] at e
          rw [e]
        · split at e
          · rw [List.mem_singleton] at e
            rw [e]
          · cases e
      · exact ih p e
theorem fcs_1 {M Wd : Nat → Int64} {nd : Nat} : ∀ d c, ∀ p, p ∈ fcsL W H M Wd f r nd d c → p.1 = nd := by
  intro d
  induction d with
  | zero => intro c p hp; cases hp
  | succ d ih =>
    intro c p hp
    rw [fcsL] at hp
    rcases List.mem_append.mp hp with e | e
    · unfold fcL fanL at e
      split at e
      · cases e
      · exact fan_1 _ p e
    · exact ih (c + 1) p e
theorem PLr_1 {p : Pc} (hp : p ∈ PLr W H f r) : p.1 < cn (fun a => f (r + a)) 3 ∧ 0 ≤ (f (r + 16) p.1).toInt := by
  have ob := ord_b (g := fun a => f (r + a)) (vis := visN f r) (ky := fun k => mW f r k 11) (cn (fun a => f (r + a)) 3)
  have hob : ∀ k, k < (ordR f r).1 → (ordR f r).2 k < cn (fun a => f (r + a)) 3 ∧ visN f r ((ordR f r).2 k) = true := ob.2
  unfold PLr at hp
  generalize ordR f r = O at *
  have : ∀ d k, k + d ≤ O.1 → ∀ p, p ∈ ndsL W H f r O.2 d k → p.1 < cn (fun a => f (r + a)) 3 ∧ 0 ≤ (f (r + 16) p.1).toInt := by
    intro d
    induction d with
    | zero => intro k _ p hp; cases hp
    | succ d ih =>
      intro k hk p hp
      rw [ndsL] at hp
      rcases List.mem_append.mp hp with e | e
      · obtain ⟨o1, o2⟩ := hob k (by omega)
        rw [fcs_1 _ _ p e]
        exact ⟨o1, vis_m o2⟩
      · exact ih (k + 1) (by omega) p e
  exact this _ _ (by omega) p hp
theorem PLr_mt (hW : Wsc (fun a => f (r + a))) {p : Pc} (hp : p ∈ PLr W H f r) : mtN (fun a => f (r + a)) p.1 < cn (fun a => f (r + a)) 1 := by
  obtain ⟨a, b⟩ := PLr_1 hp
  exact (Wsc_ms hW a b).2.2.2
end ZCG
