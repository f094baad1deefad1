/-! PURE: time -/
section ZTM
variable {W H : Nat}
theorem vAt_c {tm tm' vl vl' : Nat → Int32} {how t : Int32} {nk c : Nat} (h1 : 1 ≤ nk) (hc : c < 3) (hT : ∀ j, j < nk → tm j = tm' j) (hV : ∀ j, j < 3 * nk → vl j = vl' j) : vAt tm vl how nk t c = vAt tm' vl' how nk t c := by
  unfold vAt
  rw [nxF_c hT nk 0 (by omega)]
  obtain ⟨g1, g2⟩ := nxF_g (tm := tm') (t := t) nk 0
  generalize nxF tm' t nk 0 = x at g1 g2
  by_cases e0 : x = 0
  · rw [if_pos e0, if_pos e0, hV c (by omega)]
  rw [if_neg e0, if_neg e0]
  by_cases e1 : x = nk
  · rw [if_pos e1, if_pos e1, hV _ (by omega)]
  rw [if_neg e1, if_neg e1, hT _ (by omega), hT _ (by omega), hV _ (by omega), hV _ (by omega)]
/-- a track's node, kind and values in the reference's rows -/
def kN (g : Nat → Nat → Int32) (k : Nat) : Nat := (g 21 k).toNatClampNeg
def kW (g : Nat → Nat → Int32) (k : Nat) : Nat := (g 22 k).toNatClampNeg
def kK (g : Nat → Nat → Int32) (k : Nat) : Nat := (g 24 k).toNatClampNeg
def kV (g : Nat → Nat → Int32) (t : Int32) (k c : Nat) : Int32 := vAt (fun j => g 25 (32 * k + j)) (fun j => g 26 (96 * k + j)) (g 23 k) (kK g k) t c
def NV (g : Nat → Nat → Int32) (t : Int32) : Nat → Nat → Nat → Int32
  | 0, w, q => g (17 + w) q
  | k + 1, w, q => if w = kW g k ∧ q / 3 = kN g k then kV g t k (q % 3) else NV g t k w q
set_option maxHeartbeats 4000000 in
theorem e_fol {k nk w nd : Nat} {m : zMem} {t : Int32} {V : Nat → Int32} (hk : k < 32) (hw : w < 3) (hnd : nd < 48) (hR : RF m.2.2) (h21 : m.1 (1187 + 21) k = nI nd) (h22 : m.1 (1187 + 22) k = nI w) (h24 : m.1 (1187 + 24) k = nI nk) (h1 : 1 ≤ nk) (hnk : nk ≤ 32) (ht : 0 ≤ t.toInt ∧ t.toInt ≤ 1000000) (hT : ∀ j, j < nk → 0 ≤ (m.1 (1187 + 25) (32 * k + j)).toInt ∧ (m.1 (1187 + 25) (32 * k + j)).toInt ≤ 1000000) (hVV : ∀ c, c < 3 → vAt (fun j => m.1 (1187 + 25) (32 * k + j)) (fun j => m.1 (1187 + 26) (96 * k + j)) (m.1 (1187 + 23) k) nk t c = V c) : F_MScene_follow (sh0 W H) m 1187 (nI k) t = some (mI (mI (mI m (1204 + w) (3 * nd) (V 0)) (1204 + w) (3 * nd + 1) (V 1)) (1204 + w) (3 * nd + 2) (V 2)) := by
  have hM : gM 1187 := Or.inl rfl
  obtain ⟨g1, g2⟩ := nxF_g (tm := fun j => m.1 (1187 + 25) (32 * k + j)) (t := t) nk 0
  obtain ⟨l1, l2⟩ := nxF_lt (tm := fun j => m.1 (1187 + 25) (32 * k + j)) (t := t) nk 0
  have hfo : L_MScene_follow_10 (sh0 W H) zfuel 1187 (nI k) t (nI nk) 0 m = some (1187, nI k, t, nI nk, nI (nxF (fun j => m.1 (1187 + 25) (32 * k + j)) t nk 0), m) := e_fo (W := W) (H := H) (m := m) (t := t) hk hR hnk nk 0 zfuel (by omega) (zf_lt (by omega))
  unfold vAt at hVV
  generalize nxF (fun j => m.1 (1187 + 25) (32 * k + j)) t nk 0 = x at g1 g2 l1 l2 hfo hVV
  dsimp only at l1 l2 hVV
  have ix : nI nk - 1 = nI (nk - 1) := i32_ext (by
    have e1 : (1 : Int32).toInt = 1 := rfl
    rw [i32_sub (by rw [nI_toInt (by omega), e1]; omega) (by rw [nI_toInt (by omega), e1]; omega), nI_toInt (by omega), nI_toInt (by omega), e1]
    omega)
  have a96 : ∀ c, 96 * nI k + nI c = nI (96 * k + c) := fun c => by
    rw [show (96 : Int32) = nI 96 from rfl, nI_mul]
    exact (Int32.ofNat_add _ _).symm
  have a96' : ∀ y c, 96 * nI k + 3 * nI y + nI c = nI (96 * k + (3 * y + c)) := fun y c => by
    rw [show (96 : Int32) = nI 96 from rfl, show (3 : Int32) = nI 3 from rfl, nI_mul, nI_mul]
    have q1 : nI (96 * k) + nI (3 * y) = nI (96 * k + 3 * y) := (Int32.ofNat_add _ _).symm
    have q2 : nI (96 * k + 3 * y) + nI c = nI (96 * k + 3 * y + c) := (Int32.ofNat_add _ _).symm
    rw [q1, q2, Nat.add_assoc]
  have step : ∀ (m' : zMem) (c fu : Nat), c < 3 → m'.2 = m.2 → (∀ j, 21 ≤ j → j < 27 → m'.1 (1187 + j) = m.1 (1187 + j)) → L_MScene_follow_53 (sh0 W H) (fu + 1) 1187 (nI k) t (nI nk) (nI x) (1204 + w) (nI c) m' = L_MScene_follow_53 (sh0 W H) fu 1187 (nI k) t (nI nk) (nI x) (1204 + w) (nI (c + 1)) (mI m' (1204 + w) (3 * nd + c) (V c)) := fun m' c fu hc q0 q1 => by
    have hR' : RF m'.2.2 := by rw [q0]; exact hR
    have v := hVV c hc
    conv => lhs; unfold L_MScene_follow_53
    rw [if_neg (by rw [show (3 : Int32) = nI 3 from rfl, nI_leD (by omega) (by omega)]; omega), zoS_h (sh_m0 hM), zob_h (rf_m25 hR' hM), zoS_h (sh_m21 hM), nI_ix (by omega) (by decide), nI_cl (by omega), q1 21 (by decide) (by decide), h21]
    by_cases e0 : x = 0
    · rw [if_pos e0] at v
      rw [if_pos (by rw [e0]; rfl), zoS_h (sh_m0 hM), zob_h (rf_m30 hR' hM), zoL_e, a96, zoS_h (sh_m26 hM), nI_ix (by omega) (by decide), nI_cl (by omega), zoL_e, zoL_e, nI_3, zoS_h (sh_mv hw), nI_ix (by omega) (by decide), nI_cl (by omega), zoL_e, nI_p1, q1 26 (by decide) (by decide), v]
    rw [if_neg e0] at v
    rw [if_neg (by rw [show (0 : Int32) = nI 0 from rfl, nI_eqD (by omega) (by omega)]; omega)]
    by_cases e1 : x = nk
    · rw [if_pos e1] at v
      rw [if_pos (by rw [e1]), zoS_h (sh_m0 hM), zob_h (rf_m30 hR' hM), zoL_e, ix, a96', zoS_h (sh_m26 hM), nI_ix (by omega) (by decide), nI_cl (by omega), zoL_e, zoL_e, nI_3, zoS_h (sh_mv hw), nI_ix (by omega) (by decide), nI_cl (by omega), zoL_e, nI_p1, q1 26 (by decide) (by decide), v]
    rw [if_neg e1] at v
    have p1 := l1 (x - 1) (by omega) (by omega)
    have p2 := l2 (by omega)
    rw [i32_lt] at p1 p2
    have t1 := hT (x - 1) (by omega)
    have t2 := hT x (by omega)
    have hb := e_btw (W := W) (H := H) (m := m') (t := t) (k := k) (x := x) (c := c) hk hR' (by omega) (by omega) hc (by rw [q1 25 (by decide) (by decide)]; exact t1.1) (by rw [q1 25 (by decide) (by decide)]; omega) (by rw [q1 25 (by decide) (by decide)]; exact p2) (by rw [q1 25 (by decide) (by decide)]; exact t2.2)
    rw [q1 25 (by decide) (by decide), q1 26 (by decide) (by decide), q1 23 (by decide) (by decide), v] at hb
    rw [if_neg (by rw [nI_eqD (by omega) (by omega)]; omega), zoS_h (sh_m0 hM), zob_h hb, zoL_e, nI_3, zoS_h (sh_mv hw), nI_ix (by omega) (by decide), nI_cl (by omega), zoL_e, nI_p1]
  have far : ∀ j, 21 ≤ j → j < 27 → 1187 + j ≠ 1204 + w := fun j h1 h2 => by omega
  unfold F_MScene_follow
  rw [zoS_h (sh_m0 hM), zob_h (rf_m28 hR hM), zoS_h (sh_m24 hM), nI_ix (by omega) (by decide), nI_cl (by omega), zoL_e, h24, zob_h hfo]
  dsimp only
  rw [zoS_h (sh_m0 hM), zob_h (rf_m26 hR hM), zoS_h (sh_m22 hM), nI_ix (by omega) (by decide), nI_cl (by omega), zoS_h (sh_m0 hM), zoL_e, h22, zob_h (e_of hR hw)]
  dsimp only
  rw [show zfuel = 999996 + 1 + 1 + 1 + 1 from nrfl rfl, show (0 : Int32) = nI 0 from rfl, step m 0 _ (by decide) rfl (fun _ _ _ => rfl)]
  rw [step (mI m (1204 + w) (3 * nd + 0) (V 0)) 1 _ (by decide) rfl (fun j j1 j2 => mI_o (far j j1 j2))]
  rw [step (mI (mI m (1204 + w) (3 * nd + 0) (V 0)) (1204 + w) (3 * nd + 1) (V 1)) 2 _ (by decide) rfl (fun j j1 j2 => by rw [mI_o (far j j1 j2), mI_o (far j j1 j2)])]
  rw [L_MScene_follow_53, if_pos (by decide), zob_e]
  rfl
/-- the class moves its nodes -/
def mtI (s n : Nat) (g : Nat → Nat → Int32) (t : Int32) (m0 : zMem) (k : Nat) (m : zMem) : Prop := m.2 = m0.2 ∧ (∀ a, (∀ i, i < 48 → a ≠ ndA s i + 1) → m.1 a = m0.1 a) ∧ ∀ i, i < n → ∀ w, w < 3 → ∀ c, c < 3 → m.1 (ndA s i + 1) (3 * w + c) = NV g t k w (3 * i + c)
theorem tk_k {f : Nat → Nat → Int32} {s k : Nat} {g : Nat → Nat → Int32} (h : RtkG f s g k ∧ WtkG g k) (c3 : g 0 3 = nI (cn g 3)) (h48 : cn g 3 ≤ 48) : f (tkA s k) 0 = nI (kN g k) ∧ g 21 k = nI (kN g k) ∧ kN g k < cn g 3 ∧ f (tkA s k) 1 = nI (kW g k) ∧ g 22 k = nI (kW g k) ∧ kW g k < 3 ∧ f (tkA s k) 2 = g 23 k ∧ f (tkA s k) 3 = nI (kK g k) ∧ g 24 k = nI (kK g k) ∧ 1 ≤ kK g k ∧ kK g k ≤ 32 ∧ (∀ j, j < kK g k → f (tkA s k + 1) j = g 25 (32 * k + j)) ∧ (∀ j, j < 3 * kK g k → f (tkA s k + 2) j = g 26 (96 * k + j)) ∧ (∀ j, j < kK g k → 0 ≤ (g 25 (32 * k + j)).toInt ∧ (g 25 (32 * k + j)).toInt ≤ 1000000) ∧ (∀ j, j < 3 * kK g k → (if kW g k = 0 then -4194304 else -1048576) ≤ (g 26 (96 * k + j)).toInt ∧ (g 26 (96 * k + j)).toInt ≤ (if kW g k = 0 then 4194304 else 1048576)) := by
  obtain ⟨⟨a1, a2, a3, a4, a5, a6⟩, b1, b2, b3, b4, b5, b6, nk, n1, n2, n3, n4, n5, n6⟩ := h
  have hK : kK g k = nk := by unfold kK; rw [n3, nI_cl (by omega)]
  obtain ⟨w1, w2⟩ := i32_cl b3
  obtain ⟨d1, d2⟩ := i32_cl b1
  rw [c3, nI_toInt (by omega)] at b2
  have hW : kW g k = (g 22 k).toNatClampNeg := rfl
  have hN : kN g k = (g 21 k).toNatClampNeg := rfl
  rw [n3, nI_cl (by omega)] at a5 a6
  have e0 : ((g 22 k).toInt = 0) = (kW g k = 0) := by
    apply propext
    rw [hW]
    omega
  refine ⟨by rw [a1, hN]; exact d1, by rw [hN]; exact d1, by rw [hN]; omega, by rw [a2, hW]; exact w1, by rw [hW]; exact w1, by rw [hW]; omega, a3, by rw [a4, hK]; exact n3, by rw [hK]; exact n3, by omega, by omega, by rw [hK]; exact a5, by rw [hK]; exact a6, by rw [hK]; exact n4, ?_⟩
  rw [hK]
  intro j hj
  have q := n6 j hj
  by_cases e : kW g k = 0
  · have e' : (g 22 k).toInt = 0 := by rw [hW] at e; omega
    rw [if_pos e', if_pos e'] at q
    rw [if_pos e, if_pos e]
    exact q
  · have e' : ¬ (g 22 k).toInt = 0 := by rw [hW] at e; omega
    rw [if_neg e', if_neg e'] at q
    rw [if_neg e, if_neg e]
    exact q
set_option maxHeartbeats 4000000 in
theorem e_mt {s n T : Nat} {g : Nat → Nat → Int32} {t : Int32} {m0 : zMem} (hs : gS s) (hn : n ≤ 48) (hT : T ≤ 32) (hcn : cn g 3 = n) (c3 : g 0 3 = nI n) (c4 : m0.1 (s + 1) 4 = nI T) (ht : 0 ≤ t.toInt ∧ t.toInt ≤ 1000000) (hR : RF m0.2.2) (hk : ∀ k, k < T → RtkG m0.1 s g k ∧ WtkG g k) : ∀ d k fuel m, k + d = T → d < fuel → mtI s n g t m0 k m → zok (L_XScene_moveTo_12 (sh0 W H) fuel s t (nI k) m) (fun q => mtI s n g t m0 T q.2.2.2) := by
  intro d
  induction d with
  | zero =>
    intro k fuel m hj hf hi
    obtain ⟨fu, rfl⟩ : ∃ fu, fuel = fu + 1 := ⟨fuel - 1, by omega⟩
    obtain ⟨i1, i2, i3⟩ := hi
    have hR' : RF m.2.2 := by rw [i1]; exact hR
    rw [L_XScene_moveTo_12, zoS_h (sh_s0 hs), zob_h (rf_s0 hR' hs), zoS_h (sh_s1 hs), if_neg (by decide), show (4 : Int32).toNatClampNeg = 4 from rfl, i2 _ (fun i _ => by unfold ndA; omega), c4, if_pos (by rw [nI_leD (by omega) (by omega)]; omega)]
    obtain rfl : k = T := by omega
    exact zok_s ⟨i1, i2, i3⟩
  | succ d ih =>
    intro k fuel m hj hf hi
    obtain ⟨fu, rfl⟩ : ∃ fu, fuel = fu + 1 := ⟨fuel - 1, by omega⟩
    obtain ⟨i1, i2, i3⟩ := hi
    have hR' : RF m.2.2 := by rw [i1]; exact hR
    have hk32 : k < 32 := by omega
    have hct : g 0 3 = nI (cn g 3) := by rw [hcn]; exact c3
    obtain ⟨k1, k2, k3, k4, k5, k6, k7, k8, k9, k10, k11, k12, k13, k14, k15⟩ := tk_k (hk k (by omega)) hct (by omega)
    have f0 : m.1 (tkA s k) = m0.1 (tkA s k) := i2 _ (fun i _ => by unfold tkA ndA; omega)
    have f1 : m.1 (tkA s k + 1) = m0.1 (tkA s k + 1) := i2 _ (fun i _ => by unfold tkA ndA; omega)
    have f2 : m.1 (tkA s k + 2) = m0.1 (tkA s k + 2) := i2 _ (fun i _ => by unfold tkA ndA; omega)
    have hnd : kN g k < 48 := by omega
    have ha := e_app (W := W) (H := H) (m := m) (t := t) (nk := kK g k) (w := kW g k) (nd := kN g k) (V := kV g t k) hs hk32 k6 hnd hR' (by rw [f0]; exact k4) (by rw [f0]; exact k8) k10 k11 ht (fun j hj => by rw [f1, k12 j hj]; exact k14 j hj) (fun j hj => by
      rw [f2, k13 j hj]
      have q := k15 j hj
      by_cases e : kW g k = 0
      · rw [if_pos e, if_pos e] at q; exact q
      · rw [if_neg e, if_neg e] at q; omega) (fun c hc => by
      unfold kV
      rw [f0, f1, f2, k7]
      exact vAt_c k10 hc k12 k13)
    rw [L_XScene_moveTo_12, zoS_h (sh_s0 hs), zob_h (rf_s0 hR' hs), zoS_h (sh_s1 hs), if_neg (by decide), show (4 : Int32).toNatClampNeg = 4 from rfl, i2 (s + 1) (fun i _ => by unfold ndA; omega), c4, if_neg (by rw [nI_leD (by omega) (by omega)]; omega), zoS_h (sh_s0 hs), zob_h (rf_s5 hR' hs), zoR_h (sh_s22 hs) (by decide), nI_ix hk32 (by decide), nI_cl (by omega), zob_h (rf_tk hR' hs hk32), zoS_h (sh_s0 hs), zob_h (rf_s4 hR' hs), zoS_h (sh_s0 hs), zob_h (rf_s5 hR' hs), zoR_h (sh_s22 hs) (by decide), if_neg (fun q => q.elim (nI_pos (by omega)) (by omega)), zob_h (rf_tk hR' hs hk32), zoS_h (sh_tkA hs hk32), zoL_e, f0, k1, zoR_h (sh_s21 hs) (by decide), nI_ix hnd (by decide), nI_cl (by omega), zob_h (rf_nd hR' hs hnd), zoS_h (sh_ndA hs hnd), zob_h (rf_ndA4 hR' hs hnd), zoS_h (sh_tkA hs hk32), zob_h ha, nI_p1]
    refine ih (k + 1) fu _ (by omega) (by omega) ⟨i1, fun a ha' => ?_, fun i hi w hw c hc => ?_⟩
    · rw [mI_3o (ha' _ hnd), i2 a ha']
    · rw [NV]
      by_cases e : i = kN g k
      · rw [e, mI_3, upd3_v]
        by_cases e2 : w = kW g k
        · rw [if_pos (by omega), if_pos ⟨e2, by omega⟩, show (3 * w + c) % 3 = c by omega, show (3 * kN g k + c) % 3 = c by omega]
          rcases lt3 hc with rfl | rfl | rfl <;> rfl
        · rw [if_neg (by omega), if_neg (fun q => e2 q.1), ← e]
          exact i3 i hi w hw c hc
      · rw [mI_3o (by unfold ndA; omega), if_neg (fun q => e (by omega))]
        exact i3 i hi w hw c hc
def mfI (g : Nat → Nat → Int32) (t : Int32) (m0 : zMem) (k : Nat) (m : zMem) : Prop := m.2 = m0.2 ∧ (∀ a, ¬ (1204 ≤ a ∧ a < 1207) → m.1 a = m0.1 a) ∧ ∀ w, w < 3 → ∀ q, m.1 (1204 + w) q = NV g t k w q
set_option maxHeartbeats 4000000 in
theorem e_mf {s n T : Nat} {g : Nat → Nat → Int32} {t : Int32} {m0 : zMem} (hn : n ≤ 48) (hT : T ≤ 32) (hcn : cn g 3 = n) (c3 : g 0 3 = nI n) (c4 : m0.1 1187 4 = nI T) (ht : 0 ≤ t.toInt ∧ t.toInt ≤ 1000000) (hR : RF m0.2.2) (hg : ∀ j, 21 ≤ j → j < 27 → m0.1 (1187 + j) = g j) {f : Nat → Nat → Int32} (hk : ∀ k, k < T → RtkG f s g k ∧ WtkG g k) : ∀ d k fuel m, k + d = T → d < fuel → mfI g t m0 k m → zok (L_MD_time_24 (sh0 W H) fuel 1185 t (nI k) m) (fun q => mfI g t m0 T q.2.2.2) := by
  have hM : gM 1187 := Or.inl rfl
  intro d
  induction d with
  | zero =>
    intro k fuel m hj hf hi
    obtain ⟨fu, rfl⟩ : ∃ fu, fuel = fu + 1 := ⟨fuel - 1, by omega⟩
    obtain ⟨i1, i2, i3⟩ := hi
    have hR' : RF m.2.2 := by rw [i1]; exact hR
    rw [L_MD_time_24, zoS_h sh_1185, zob_h (rf_1185_4 hR'), zoS_h (sh_m0 hM), i2 1187 (by decide), c4, if_pos (by rw [nI_leD (by omega) (by omega)]; omega)]
    obtain rfl : k = T := by omega
    exact zok_s ⟨i1, i2, i3⟩
  | succ d ih =>
    intro k fuel m hj hf hi
    obtain ⟨fu, rfl⟩ : ∃ fu, fuel = fu + 1 := ⟨fuel - 1, by omega⟩
    obtain ⟨i1, i2, i3⟩ := hi
    have hR' : RF m.2.2 := by rw [i1]; exact hR
    have hk32 : k < 32 := by omega
    have hct : g 0 3 = nI (cn g 3) := by rw [hcn]; exact c3
    obtain ⟨k1, k2, k3, k4, k5, k6, k7, k8, k9, k10, k11, k12, k13, k14, k15⟩ := tk_k (hk k (by omega)) hct (by omega)
    have fg : ∀ j, 21 ≤ j → j < 27 → m.1 (1187 + j) = g j := fun j j1 j2 => by rw [i2 _ (by omega), hg j j1 j2]
    have hnd : kN g k < 48 := by omega
    have ha := e_fol (W := W) (H := H) (m := m) (t := t) (nk := kK g k) (w := kW g k) (nd := kN g k) (V := kV g t k) hk32 k6 hnd hR' (by rw [fg 21 (by decide) (by decide)]; exact k2) (by rw [fg 22 (by decide) (by decide)]; exact k5) (by rw [fg 24 (by decide) (by decide)]; exact k9) k10 k11 ht (fun j hj => by rw [fg 25 (by decide) (by decide)]; exact k14 j hj) (fun c hc => by rw [fg 25 (by decide) (by decide), fg 26 (by decide) (by decide), fg 23 (by decide) (by decide)]; rfl)
    rw [L_MD_time_24, zoS_h sh_1185, zob_h (rf_1185_4 hR'), zoS_h (sh_m0 hM), i2 1187 (by decide), c4, if_neg (by rw [nI_leD (by omega) (by omega)]; omega), zoS_h sh_1185, zob_h (rf_1185_4 hR'), zoS_h (sh_m0 hM), zob_h ha, nI_p1]
    refine ih (k + 1) fu _ (by omega) (by omega) ⟨i1, fun a ha' => ?_, fun w hw q => ?_⟩
    · rw [mI_3o (by omega), i2 a ha']
    · rw [NV]
      by_cases e : w = kW g k
      · rw [e, mI_3, upd3_v]
        by_cases e2 : q / 3 = kN g k
        · rw [if_pos e2, if_pos ⟨rfl, e2⟩]
          have h3 : q % 3 < 3 := Nat.mod_lt _ (by decide)
          rcases lt3 h3 with q | q | q <;> rw [q] <;> rfl
        · rw [if_neg e2, if_neg (fun q => e2 q.2), ← e]
          exact i3 w hw q
      · rw [mI_3o (by omega), if_neg (fun q => e q.1)]
        exact i3 w hw q
/-- numbers of nodes stay in their bounds -/
theorem NV_r {f : Nat → Nat → Int32} {s n T : Nat} {g : Nat → Nat → Int32} {t : Int32} (ht : 0 ≤ t.toInt ∧ t.toInt ≤ 1000000) (hn : n ≤ 48) (hcn : cn g 3 = n) (c3 : g 0 3 = nI n) (hk : ∀ k, k < T → RtkG f s g k ∧ WtkG g k) (h0 : ∀ w, w < 3 → ∀ q, q < 3 * n → (if w = 0 then -4194304 else -1048576) ≤ (g (17 + w) q).toInt ∧ (g (17 + w) q).toInt ≤ (if w = 0 then 4194304 else 1048576)) : ∀ k, k ≤ T → ∀ w, w < 3 → ∀ q, q < 3 * n → (if w = 0 then -4194304 else -1048576) ≤ (NV g t k w q).toInt ∧ (NV g t k w q).toInt ≤ (if w = 0 then 4194304 else 1048576) := by
  intro k
  induction k with
  | zero => intro _ w hw q hq; exact h0 w hw q hq
  | succ k ih =>
    intro hkT w hw q hq
    have hct : g 0 3 = nI (cn g 3) := by rw [hcn]; exact c3
    obtain ⟨k1, k2, k3, k4, k5, k6, k7, k8, k9, k10, k11, k12, k13, k14, k15⟩ := tk_k (hk k (by omega)) hct (by omega)
    rw [NV]
    by_cases e : w = kW g k ∧ q / 3 = kN g k
    · rw [if_pos e]
      unfold kV
      rw [e.1]
      by_cases e0 : kW g k = 0
      · rw [if_pos e0, if_pos e0]
        exact vAt_r (M := 4194304) (by decide) (Nat.mod_lt _ (by decide)) k10 ht.1 k14 (fun j hj => by have := k15 j hj; rw [if_pos e0, if_pos e0] at this; exact this)
      · rw [if_neg e0, if_neg e0]
        exact vAt_r (M := 1048576) (by decide) (Nat.mod_lt _ (by decide)) k10 ht.1 k14 (fun j hj => by have := k15 j hj; rw [if_neg e0, if_neg e0] at this; exact this)
    · rw [if_neg e]
      exact ih (by omega) w hw q hq
end ZTM
