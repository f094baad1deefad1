/-! PURE: every call keeps both invariants; they hold at the start -/
section ZEN
variable {W H : Nat} {mm : zMem}
def PPX (W H : Nat) (mm : zMem) : Prop := PB W H mm ∧ PX W H mm
theorem step_ag {o : Option zMem} (hx : PX W H mm) (h : zok o (fun mq => PB W H mq ∧ agP mm mq)) : ∃ mq, o = some mq ∧ PPX W H mq := by
  obtain ⟨mq, e, a, b⟩ := h
  exact ⟨mq, e, a, PX_ag hx b a.1⟩
theorem step_px {o : Option zMem} (h : zok o (fun mq => PB W H mq ∧ PX W H mq)) : ∃ mq, o = some mq ∧ PPX W H mq := h
theorem all_step (hW8 : 8 ≤ W) (hH8 : 8 ≤ H) (hW48 : W ≤ 48) (hH48 : H ≤ 48) (v x1 x2 x3 x4 x5 : Int32) (h : PPX W H mm) : ∃ mq : zMem, lawS (sh0 W H) mm v x1 x2 x3 x4 x5 = some mq ∧ PPX W H mq := by
  obtain ⟨hp, hx⟩ := h
  unfold lawS
  by_cases c0 : v = 0
  · rw [if_pos c0]
    exact step_ag hx (s_feed hp)
  rw [if_neg c0]
  by_cases c1 : v = 1
  · rw [if_pos c1]
    exact step_ag hx (s_end hp)
  rw [if_neg c1]
  by_cases c2 : v = 2
  · rw [if_pos c2]
    exact step_ag hx (s_load hp)
  rw [if_neg c2]
  by_cases c3 : v = 3
  · rw [if_pos c3]
    exact step_ag hx (s_error hp)
  rw [if_neg c3]
  by_cases c4 : v = 4
  · rw [if_pos c4]
    exact step_ag hx (s_count hp)
  rw [if_neg c4]
  by_cases c5 : v = 5
  · rw [if_pos c5]
    exact step_ag hx (s_time hp)
  rw [if_neg c5]
  by_cases c6 : v = 6
  · rw [if_pos c6]
    exact step_ag hx (s_set hp)
  rw [if_neg c6]
  by_cases c7 : v = 7
  · rw [if_pos c7]
    exact step_ag hx (s_hang hp)
  rw [if_neg c7]
  by_cases c8 : v = 8
  · rw [if_pos c8]
    exact step_ag hx (s_hide hp)
  rw [if_neg c8]
  by_cases c9 : v = 9
  · rw [if_pos c9]
    exact step_ag hx (s_camera hp)
  rw [if_neg c9]
  by_cases c10 : v = 10
  · rw [if_pos c10]
    exact step_ag hx (s_light hp)
  rw [if_neg c10]
  by_cases c11 : v = 11
  · rw [if_pos c11]
    exact step_ag hx (s_back hp)
  rw [if_neg c11]
  by_cases c12 : v = 12
  · rw [if_pos c12]
    exact step_ag hx (s_world hp)
  rw [if_neg c12]
  by_cases c13 : v = 13
  · rw [if_pos c13]
    exact step_px (s_begin hp hx hW8 hH8 hW48 hH48)
  rw [if_neg c13]
  by_cases c14 : v = 14
  · rw [if_pos c14]
    exact step_px (s_tile hp hx hW8 hH8 hW48 hH48)
  rw [if_neg c14]
  by_cases c15 : v = 15
  · rw [if_pos c15]
    exact step_ag hx (s_pixel (x3 := x3) (x4 := x4) (x5 := x5) hp hx hW8 hH8 hW48 hH48).1
  rw [if_neg c15]
  by_cases c16 : v = 16
  · rw [if_pos c16]
    exact step_ag hx (s_pixel (x3 := x3) (x4 := x4) (x5 := x5) hp hx hW8 hH8 hW48 hH48).2
  rw [if_neg c16]
  by_cases c17 : v = 17
  · rw [if_pos c17]
    exact step_px (s_pick hp hx hW8 hH8 hW48 hH48)
  rw [if_neg c17]
  by_cases c18 : v = 18
  · rw [if_pos c18]
    exact step_ag hx (s_picked hp)
  rw [if_neg c18]
  by_cases c19 : v = 19
  · rw [if_pos c19]
    exact step_px (s_file hp hx hW8 hH8 hW48 hH48)
  rw [if_neg c19]
  by_cases c20 : v = 20
  · rw [if_pos c20]
    exact step_ag hx (s_byteAt hp)
  rw [if_neg c20]
  exact ⟨mm, rfl, hp, hx⟩
theorem m0_z {k : Nat} (h : ¬ (11 ≤ k ∧ k < 1121)) (h0 : k ≠ 0) (h1 : k ≠ 1121) (h2 : k ≠ 1178) (h3 : k ≠ 1185) (h4 : k ≠ 1187) (h5 : k ≠ 1214) (h6 : k ≠ 1215) (h7 : k ≠ 1216) (h8 : k ≠ 1285) : (m0 W H).1 k = fun _ => 0 := by
  show m0I W H k = _
  unfold m0I
  rw [if_neg h, if_neg h0, if_neg h1, if_neg h2, if_neg h3, if_neg h4, if_neg h5, if_neg h6, if_neg h7, if_neg h8]
theorem m0_178 : (m0 W H).1 1178 = fun j => ([(((nI W) + 7) / 8) * (((nI H) + 7) / 8), 0, 0, 0, nI W, nI H, ((nI W) + 7) / 8, 0, 0, 0, 0, 0, 0, 0, 0, 0, 0, 0] : List Int32).getD j 0 := rfl
theorem m0_185 : (m0 W H).1 1185 = fun j => ([nI W, nI H, 0, 0, 0, 0, 0, 0, 0, 0, 0, 0, 0, 0, 0, 0, 0, 0, 0, -1] : List Int32).getD j 0 := rfl
theorem m0_187 : (m0 W H).1 1187 = fun j => ([0, 0, 0, 0, 0, 0, 0, 0, 0, 0, 0, 0, 0, 0, 0, 0, 0, 0, 0, 0, 0, 0, 0, 0, 0, 0, 0, 0, 0, 0, 0, 0, 0, 0, 32, 16384] : List Int32).getD j 0 := rfl
theorem m0_12 : (m0 W H).1 12 = zclr (fun _ => 0) 5 := rfl
theorem m0_34 : (m0 W H).1 34 = zview (fun _ => 0) := rfl
theorem m0_35 : (m0 W H).1 35 = zlamp (fun _ => 0) := rfl
theorem m0_11 : (m0 W H).1 11 = fun _ => 0 := rfl
theorem m0_214 : (m0 W H).1 1214 = zclr (fun _ => 0) 3 := rfl
theorem m0_215 : (m0 W H).1 1215 = zclr (fun _ => 0) 3 := rfl
theorem m0_216 : (m0 W H).1 1216 = ztow (fun _ => 0) := rfl
theorem m0_0 : (m0 W H).1 0 = fun j => ([nI W, nI H, 0, 0, 0, 0, 0, 0, 0, 0, 0, -1] : List Int32).getD j 0 := rfl
theorem m0_121 : (m0 W H).1 1121 = fun j => ([0, 0, 0, 0, 0, nI W, nI H, 0, 0, 0, 0, 0, 0, 0, 0] : List Int32).getD j 0 := rfl
theorem m0_285 : (m0 W H).1 1285 = fun j => ([0, nI W, nI H, 0, 0, 0, 0, 0, 0, 0, 0, 0, 0, 0, 0, 0, 0, 0, 0, 0, 0, 0, 0, 0, 0, 0, 0, 0, 0, 0, 0] : List Int32).getD j 0 := rfl
theorem m0_Rsc : Rsc (m0 W H).1 11 (fun a => (m0 W H).1 (1187 + a)) := by
  have g0 : (fun a => (m0 W H).1 (1187 + a)) 0 = (m0 W H).1 1187 := rfl
  have c0 : ∀ c, c < 5 → (m0 W H).1 1187 c = 0 := fun c hc => by
    rw [m0_187]
    rcases (show c = 0 ∨ c = 1 ∨ c = 2 ∨ c = 3 ∨ c = 4 by omega) with rfl | rfl | rfl | rfl | rfl <;> rfl
  have cz : ∀ c, c < 5 → cn (fun a => (m0 W H).1 (1187 + a)) c = 0 := fun c hc => by
    show ((m0 W H).1 1187 c).toNatClampNeg = 0
    rw [c0 c hc]
    rfl
  refine ⟨⟨fun c hc => ⟨?_, ?_, ?_⟩, fun i hi => ?_, fun i hi => ?_, fun i hi => ?_, fun i hi => ?_⟩, fun i hi => ?_, ⟨⟨fun c hc => ?_, ?_⟩, fun c hc => ?_, ?_, ?_⟩, ⟨⟨fun c hc => ?_, ?_⟩, fun c hc => ?_, ?_, ?_⟩⟩
  · show (m0 W H).1 12 c = (m0 W H).1 1187 c
    rw [c0 c hc, m0_12]
    unfold zclr
    rw [if_pos hc]
  · show (m0 W H).1 1187 c = _
    rw [c0 c hc, cz c hc]
    rfl
  · rw [cz c hc]; exact Nat.zero_le _
  · rw [cz 0 (by decide)] at hi; exact absurd hi (Nat.not_lt_zero _)
  · rw [cz 1 (by decide)] at hi; exact absurd hi (Nat.not_lt_zero _)
  · rw [cz 2 (by decide)] at hi; exact absurd hi (Nat.not_lt_zero _)
  · rw [cz 4 (by decide)] at hi; exact absurd hi (Nat.not_lt_zero _)
  · rw [cz 3 (by decide)] at hi; exact absurd hi (Nat.not_lt_zero _)
  · show (m0 W H).1 34 c = (m0 W H).1 1214 c ∧ (m0 W H).1 34 (3 + c) = (m0 W H).1 1215 c
    rw [m0_34, m0_214, m0_215]
    rcases (show c = 0 ∨ c = 1 ∨ c = 2 by omega) with rfl | rfl | rfl <;> exact ⟨rfl, rfl⟩
  · rfl
  · show -4194304 ≤ ((m0 W H).1 1214 c).toInt ∧ ((m0 W H).1 1214 c).toInt ≤ 4194304 ∧ -1048576 ≤ ((m0 W H).1 1215 c).toInt ∧ ((m0 W H).1 1215 c).toInt ≤ 1048576
    rw [m0_214, m0_215]
    rcases (show c = 0 ∨ c = 1 ∨ c = 2 by omega) with rfl | rfl | rfl <;> exact ⟨by decide, by decide, by decide, by decide⟩
  · show 8 ≤ ((m0 W H).1 1187 34).toInt
    rw [m0_187]
    decide
  · show ((m0 W H).1 1187 34).toInt ≤ 512
    rw [m0_187]
    decide
  · show (m0 W H).1 35 c = (m0 W H).1 1216 c
    rw [m0_35, m0_216]
    rcases (show c = 0 ∨ c = 1 ∨ c = 2 by omega) with rfl | rfl | rfl <;> rfl
  · rfl
  · show -65536 ≤ ((m0 W H).1 1216 c).toInt ∧ ((m0 W H).1 1216 c).toInt ≤ 65536
    rw [m0_216]
    rcases (show c = 0 ∨ c = 1 ∨ c = 2 by omega) with rfl | rfl | rfl <;> exact ⟨by decide, by decide⟩
  · show 0 ≤ ((m0 W H).1 1187 35).toInt
    rw [m0_187]
    decide
  · show ((m0 W H).1 1187 35).toInt ≤ 65536
    rw [m0_187]
    decide
theorem start_PPX (hW8 : 8 ≤ W) (hH8 : 8 ≤ H) (hW48 : W ≤ 48) (hH48 : H ≤ 48) : PPX W H (m0 W H) := by
  have dW : (nI W + 7) / 8 = nI ((W + 7) / 8) := by
    rw [show (7 : Int32) = nI 7 from rfl, nI_pp]
    exact nI_div (b := 8) (by omega) (by decide) (by decide)
  have dH : (nI H + 7) / 8 = nI ((H + 7) / 8) := by
    rw [show (7 : Int32) = nI 7 from rfl, nI_pp]
    exact nI_div (b := 8) (by omega) (by decide) (by decide)
  have e1 : (m0 W H).1 1 = fun _ => 0 := m0_z (by omega) (by decide) (by decide) (by decide) (by decide) (by decide) (by decide) (by decide) (by decide) (by decide)
  have e1186 : (m0 W H).1 1186 = fun _ => 0 := m0_z (by omega) (by decide) (by decide) (by decide) (by decide) (by decide) (by decide) (by decide) (by decide) (by decide)
  have e3 : (m0 W H).1 3 = fun _ => 0 := m0_z (by omega) (by decide) (by decide) (by decide) (by decide) (by decide) (by decide) (by decide) (by decide) (by decide)
  have e5 : (m0 W H).1 5 = fun _ => 0 := m0_z (by omega) (by decide) (by decide) (by decide) (by decide) (by decide) (by decide) (by decide) (by decide) (by decide)
  have e1281 : (m0 W H).1 1281 = fun _ => 0 := m0_z (by omega) (by decide) (by decide) (by decide) (by decide) (by decide) (by decide) (by decide) (by decide) (by decide)
  have e1278 : (m0 W H).1 1278 = fun _ => 0 := m0_z (by omega) (by decide) (by decide) (by decide) (by decide) (by decide) (by decide) (by decide) (by decide) (by decide)
  have e1183 : (m0 W H).1 1183 = fun _ => 0 := m0_z (by omega) (by decide) (by decide) (by decide) (by decide) (by decide) (by decide) (by decide) (by decide) (by decide)
  have e1184 : (m0 W H).1 1184 = fun _ => 0 := m0_z (by omega) (by decide) (by decide) (by decide) (by decide) (by decide) (by decide) (by decide) (by decide) (by decide)
  refine ⟨⟨fun k j _ => rfl, ⟨⟨rfl, rfl⟩, ⟨rfl, rfl⟩, ⟨?_, rfl, rfl, ?_⟩, ⟨rfl, rfl⟩, ⟨rfl, rfl⟩⟩, ⟨by rw [e1, e1186], ⟨0, by decide, rfl, rfl⟩, fun j _ => by rw [e1]; exact ⟨(by decide : (-128 : Int) ≤ (0 : Int32).toInt), (by decide : (0 : Int32).toInt ≤ 127)⟩⟩, ⟨11, Or.inl rfl, rfl, m0_Rsc, rfl, fun e => absurd rfl e⟩, ?_, ⟨⟨by rw [e3]; rfl, by rw [e3]; rfl⟩, ⟨0, 0, 0, by decide, by decide, by decide, rfl, by rw [e1281]; rfl, by rw [e1281]; rfl, by rw [e1281]; rfl⟩, rfl, 0, by decide, by rw [e5]; rfl, by rw [e1278]; rfl, fun k hk => absurd hk (Nat.not_lt_zero _)⟩, fun p hp => ?_⟩, ⟨1124, 1177, Or.inl ⟨rfl, rfl⟩, rfl, rfl⟩, ⟨fun _ _ => ((fun _ => 0), 0), fun x hx y hy => ⟨⟨fun _ => 0, fun k _ => ⟨(by decide : (0 : Nat) < 256), rfl⟩, by rw [e1183]; rfl⟩, by rw [e1184]; rfl⟩⟩, Or.inl ⟨rfl, rfl⟩⟩
  · show ((nI W + 7) / 8) * ((nI H + 7) / 8) = nI ((W + 7) / 8 * ((H + 7) / 8))
    rw [dW, dH, nI_mul]
  · show (nI W + 7) / 8 = nI ((W + 7) / 8)
    exact dW
  · intro s hs i hi
    have hp := gS_pl hs
    have s11 : 11 ≤ s := by rcases hs with e | e | e <;> omega
    have em : (txA s i + 2 - 11) % 370 = 28 + 3 * i := by
      unfold txA
      rcases hs with rfl | rfl | rfl <;> omega
    show m0I W H (txA s i + 2) 0 = 0
    unfold m0I
    rw [if_pos (by unfold txA; omega), em, if_neg (by omega), if_neg (by omega), if_neg (by omega)]
  · have : m0R 1178 3 = some p := hp
    cases this
end ZEN
