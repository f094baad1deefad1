def F_LW_load (sh : zSh) (mm : zMem) (o : Nat) (x0_ : Nat) : Option (Int32 × zMem) := zoS (sh o) 0 (fun le2 => zoX (F_OB_load sh mm o) (Option.bind (T_OB_load sh mm o) (fun mq4 => some (1, mq4))) (fun p3 => zoL ((p3.1 : Int32).toInt64) (fun x5 => zoS (sh x0_) 102 (fun le7 => if (0 : Int32) < 0 ∨ le7 ≤ (0 : Int32).toNatClampNeg then none else zoL (mL (p3.2) x0_ (0 : Int32).toNatClampNeg x5) (fun mm9 => some (0, mm9))))))
set_option maxHeartbeats 4000000 in
set_option maxRecDepth 100000 in
theorem k_LW_load (l : Launch) (D : va_G) (tA : Nat → ClassId) (b : Nat) (sh : zSh) (n : Nat) (hl : l.stackTraces = false) {mm : zMem} {o : Nat} {x0_ : Nat} {r : Int32 × zMem} (h : F_LW_load sh mm o x0_ = some r) : zMW l D tA b zy_LW_load zb_LW_load 3 (some .int) [(0, 8, 11, 13)] 13 260 1 6 [.ref (b + o), .ref (b + x0_)] (zW tA b sh mm) n (fun v f1 _ => v = some (.int r.1) ∧ f1 = zW tA b sh r.2) := by
  unfold F_LW_load at h
  refine zMW_of (own := "OrreryBoxLaw") (plainFor_of_name (by decide)) rfl (Nat.le_of_ble_eq_true rfl) (fun p e s m below meth c F hr htab hH => ?_)
  obtain ⟨xe, hx1, hx2⟩ := List.map_eq_singleton_iff.mp htab
  have q1 : xe.startPc = 0 := congrArg (fun t => t.1) hx2
  have q2 : xe.endPc = 8 := congrArg (fun t => t.2.1) hx2
  have q3 : xe.handlerPc = 11 := congrArg (fun t => t.2.2.1) hx2
  have q4 : xe.catchType = 13 := congrArg (fun t => t.2.2.2) hx2
  refine zr_aload_n F zd_LW_load_0 rfl ?_
  refine zr_iconstv (v := 0) F zd_LW_load_1 (by decide) ?_
  refine zr_aload_n F zd_LW_load_2 rfl ?_
  obtain ⟨le2, hs1, h⟩ := zoS_s h
  cases ep3 : F_OB_load sh mm o with
  | none =>
    rw [ep3] at h
    dsimp only [zoX] at h
    obtain ⟨mq4, emq4, h⟩ := zoB_s h
    obtain rfl := Option.some.inj h
    refine zr_catV (x := xe) F (kT_OB_load l D tA b sh _ hl emq4) zd_LW_load_3 (zW_o hs1 (by decide)) rfl zs_LW_7 rfl zq_OB_load rfl rfl ⟨(Nat.le_of_ble_eq_true rfl), (Nat.le_of_ble_eq_true rfl)⟩ (Nat.le_of_ble_eq_true rfl) ⟨(Nat.le_of_ble_eq_true rfl), (Nat.le_of_ble_eq_true rfl)⟩ hx1 (by simp [covers, q1, q2]) (by rw [q4]; decide) (by rw [q4]; exact zw_1068) zw_cast_LW_load zw_1099 (fun a => ?_)
    rw [q3]
    refine zr_astore_n F zd_LW_load_11 (by decide) ?_
    refine zr_iconstv (v := 1) F zd_LW_load_12 (by decide) ?_
    exact zr_iret F hr zd_LW_load_13 (Nat.le_of_ble_eq_true rfl) (Nat.le_of_ble_eq_true rfl) ⟨rfl, rfl⟩
  | some p3 =>
    rw [ep3] at h
    dsimp only [zoX] at h
    refine zr_callV1 F (k_OB_load l D tA b sh _ ep3) zd_LW_load_3 (zW_o hs1 (by decide)) rfl zs_LW_7 rfl zq_OB_load rfl rfl ⟨(Nat.le_of_ble_eq_true rfl), (Nat.le_of_ble_eq_true rfl)⟩ (Nat.le_of_ble_eq_true rfl) ⟨(Nat.le_of_ble_eq_true rfl), (Nat.le_of_ble_eq_true rfl)⟩ ?_
    refine zr_i2l F zd_LW_load_6 ?_
    obtain ⟨x5, ex5, h⟩ := zoL_s h
    rw [← ex5]
    obtain ⟨le7, hs6, h⟩ := zoS_s h
    obtain ⟨hi8, h⟩ := zoI_s h
    refine zr_last F zd_LW_load_7 (zW_a2 hs6) hi8 ?_
    obtain ⟨mm9, emm9, h⟩ := zoL_s h
    refine zr_norm (zW tA b sh mm9) _ (by rw [emm9]; exact zW_s2 hs6) rfl ?_
    refine zr_goto F 14 zd_LW_load_8 (by decide) ?_
    refine zr_pcn 14 rfl ?_
    refine zr_iconstv (v := 0) F zd_LW_load_14 (by decide) ?_
    obtain rfl := Option.some.inj h
    exact zr_iret F hr zd_LW_load_15 (Nat.le_of_ble_eq_true rfl) (Nat.le_of_ble_eq_true rfl) ⟨rfl, rfl⟩
def F_LW_world (sh : zSh) (mm : zMem) (o : Nat) (x0_ : Int32) (x1_ : Int32) (x2_ : Int32) (x3_ : Nat) : Option (Int32 × zMem) := zoS (sh o) 0 (fun le2 => zoX (F_OB_world sh mm o x0_ x1_ x2_) (Option.bind (T_OB_world sh mm o x0_ x1_ x2_) (fun mq4 => some (1, mq4))) (fun p3 => zoL ((p3.1 : Int32).toInt64) (fun x5 => zoS (sh x3_) 102 (fun le7 => if (0 : Int32) < 0 ∨ le7 ≤ (0 : Int32).toNatClampNeg then none else zoL (mL (p3.2) x3_ (0 : Int32).toNatClampNeg x5) (fun mm9 => some (0, mm9))))))
set_option maxHeartbeats 4000000 in
set_option maxRecDepth 100000 in
theorem k_LW_world (l : Launch) (D : va_G) (tA : Nat → ClassId) (b : Nat) (sh : zSh) (n : Nat) (hl : l.stackTraces = false) {mm : zMem} {o : Nat} {x0_ : Int32} {x1_ : Int32} {x2_ : Int32} {x3_ : Nat} {r : Int32 × zMem} (h : F_LW_world sh mm o x0_ x1_ x2_ x3_ = some r) : zMW l D tA b zy_LW_world zb_LW_world 6 (some .int) [(0, 12, 15, 19)] 7 170 1 6 [.ref (b + o), .int x0_, .int x1_, .int x2_, .ref (b + x3_)] (zW tA b sh mm) n (fun v f1 _ => v = some (.int r.1) ∧ f1 = zW tA b sh r.2) := by
  unfold F_LW_world at h
  refine zMW_of (own := "OrreryBoxLaw") (plainFor_of_name (by decide)) rfl (Nat.le_of_ble_eq_true rfl) (fun p e s m below meth c F hr htab hH => ?_)
  obtain ⟨xe, hx1, hx2⟩ := List.map_eq_singleton_iff.mp htab
  have q1 : xe.startPc = 0 := congrArg (fun t => t.1) hx2
  have q2 : xe.endPc = 12 := congrArg (fun t => t.2.1) hx2
  have q3 : xe.handlerPc = 15 := congrArg (fun t => t.2.2.1) hx2
  have q4 : xe.catchType = 19 := congrArg (fun t => t.2.2.2) hx2
  refine zr_aload F zd_LW_world_0 rfl ?_
  refine zr_iconstv (v := 0) F zd_LW_world_2 (by decide) ?_
  refine zr_aload_n F zd_LW_world_3 rfl ?_
  refine zr_iload_n F zd_LW_world_4 rfl ?_
  refine zr_iload_n F zd_LW_world_5 rfl ?_
  refine zr_iload_n F zd_LW_world_6 rfl ?_
  obtain ⟨le2, hs1, h⟩ := zoS_s h
  cases ep3 : F_OB_world sh mm o x0_ x1_ x2_ with
  | none =>
    rw [ep3] at h
    dsimp only [zoX] at h
    obtain ⟨mq4, emq4, h⟩ := zoB_s h
    obtain rfl := Option.some.inj h
    refine zr_catV (x := xe) F (kT_OB_world l D tA b sh _ hl emq4) zd_LW_world_7 (zW_o hs1 (by decide)) rfl zs_LW_15 rfl zq_OB_world rfl rfl ⟨(Nat.le_of_ble_eq_true rfl), (Nat.le_of_ble_eq_true rfl)⟩ (Nat.le_of_ble_eq_true rfl) ⟨(Nat.le_of_ble_eq_true rfl), (Nat.le_of_ble_eq_true rfl)⟩ hx1 (by simp [covers, q1, q2]) (by rw [q4]; decide) (by rw [q4]; exact zw_1282) zw_cast_LW_world zw_1288 (fun a => ?_)
    rw [q3]
    refine zr_astore F zd_LW_world_15 (by decide) ?_
    refine zr_iconstv (v := 1) F zd_LW_world_17 (by decide) ?_
    exact zr_iret F hr zd_LW_world_18 (Nat.le_of_ble_eq_true rfl) (Nat.le_of_ble_eq_true rfl) ⟨rfl, rfl⟩
  | some p3 =>
    rw [ep3] at h
    dsimp only [zoX] at h
    refine zr_callV1 F (k_OB_world l D tA b sh _ ep3) zd_LW_world_7 (zW_o hs1 (by decide)) rfl zs_LW_15 rfl zq_OB_world rfl rfl ⟨(Nat.le_of_ble_eq_true rfl), (Nat.le_of_ble_eq_true rfl)⟩ (Nat.le_of_ble_eq_true rfl) ⟨(Nat.le_of_ble_eq_true rfl), (Nat.le_of_ble_eq_true rfl)⟩ ?_
    refine zr_pcn 10 rfl ?_
    refine zr_i2l F zd_LW_world_10 ?_
    obtain ⟨x5, ex5, h⟩ := zoL_s h
    rw [← ex5]
    obtain ⟨le7, hs6, h⟩ := zoS_s h
    obtain ⟨hi8, h⟩ := zoI_s h
    refine zr_last F zd_LW_world_11 (zW_a2 hs6) hi8 ?_
    obtain ⟨mm9, emm9, h⟩ := zoL_s h
    refine zr_norm (zW tA b sh mm9) _ (by rw [emm9]; exact zW_s2 hs6) rfl ?_
    refine zr_goto F 19 zd_LW_world_12 (by decide) ?_
    refine zr_iconstv (v := 0) F zd_LW_world_19 (by decide) ?_
    obtain rfl := Option.some.inj h
    exact zr_iret F hr zd_LW_world_20 (Nat.le_of_ble_eq_true rfl) (Nat.le_of_ble_eq_true rfl) ⟨rfl, rfl⟩
theorem zd_LW_law_53 : decode code 53 = .ok (.aload_n 0, 1) := by decide +kernel
theorem zd_LW_law_54 : decode code 54 = .ok (.iload 4, 2) := by decide +kernel
theorem zd_LW_law_56 : decode code 56 = .ok (.iaload, 1) := by decide +kernel
theorem zd_LW_law_57 : decode code 57 = .ok (.bipush 31, 2) := by decide +kernel
theorem zd_LW_law_59 : decode code 59 = .ok (.iand, 1) := by decide +kernel
theorem zd_LW_law_60 : decode code 60 = .ok (.tableswitch 931 0 20 #[100, 173, 198, 242, 267, 292, 317, 390, 427, 480, 541, 602, 651, 731, 744, 769, 806, 843, 880, 893, 906], 100) := by decide +kernel
theorem zd_LW_law_160 : decode code 160 = .ok (.aload_n 1, 1) := by decide +kernel
theorem zd_LW_law_161 : decode code 161 = .ok (.aload_n 0, 1) := by decide +kernel
theorem zd_LW_law_162 : decode code 162 = .ok (.iload 4, 2) := by decide +kernel
theorem zd_LW_law_164 : decode code 164 = .ok (.iconst 1, 1) := by decide +kernel
theorem zd_LW_law_165 : decode code 165 = .ok (.iadd, 1) := by decide +kernel
theorem zd_LW_law_166 : decode code 166 = .ok (.iaload, 1) := by decide +kernel
theorem zd_LW_law_167 : decode code 167 = .ok (.aload_n 0, 1) := by decide +kernel
theorem zd_LW_law_168 : decode code 168 = .ok (.iload 4, 2) := by decide +kernel
theorem zd_LW_law_170 : decode code 170 = .ok (.iconst 2, 1) := by decide +kernel
theorem zd_LW_law_171 : decode code 171 = .ok (.iadd, 1) := by decide +kernel
theorem zd_LW_law_172 : decode code 172 = .ok (.iaload, 1) := by decide +kernel
theorem zd_LW_law_173 : decode code 173 = .ok (.aload_n 0, 1) := by decide +kernel
theorem zd_LW_law_174 : decode code 174 = .ok (.iload 4, 2) := by decide +kernel
theorem zd_LW_law_176 : decode code 176 = .ok (.iconst 3, 1) := by decide +kernel
theorem zd_LW_law_177 : decode code 177 = .ok (.iadd, 1) := by decide +kernel
theorem zd_LW_law_178 : decode code 178 = .ok (.iaload, 1) := by decide +kernel
theorem zd_LW_law_179 : decode code 179 = .ok (.aload_n 0, 1) := by decide +kernel
theorem zd_LW_law_180 : decode code 180 = .ok (.iload 4, 2) := by decide +kernel
theorem zd_LW_law_182 : decode code 182 = .ok (.iconst 4, 1) := by decide +kernel
theorem zd_LW_law_183 : decode code 183 = .ok (.iadd, 1) := by decide +kernel
theorem zd_LW_law_184 : decode code 184 = .ok (.iaload, 1) := by decide +kernel
theorem zd_LW_law_185 : decode code 185 = .ok (.aload_n 0, 1) := by decide +kernel
theorem zd_LW_law_186 : decode code 186 = .ok (.iload 4, 2) := by decide +kernel
theorem zd_LW_law_188 : decode code 188 = .ok (.iconst 5, 1) := by decide +kernel
theorem zd_LW_law_189 : decode code 189 = .ok (.iadd, 1) := by decide +kernel
theorem zd_LW_law_190 : decode code 190 = .ok (.iaload, 1) := by decide +kernel
theorem zd_LW_law_191 : decode code 191 = .ok (.invokevirtual 33, 3) := by decide +kernel
theorem zd_LW_law_194 : decode code 194 = .ok (.aload_n 2, 1) := by decide +kernel
theorem zd_LW_law_195 : decode code 195 = .ok (.aload_n 0, 1) := by decide +kernel
theorem zd_LW_law_196 : decode code 196 = .ok (.iload 4, 2) := by decide +kernel
theorem zd_LW_law_198 : decode code 198 = .ok (.iconst 1, 1) := by decide +kernel
theorem zd_LW_law_199 : decode code 199 = .ok (.iadd, 1) := by decide +kernel
theorem zd_LW_law_200 : decode code 200 = .ok (.iaload, 1) := by decide +kernel
theorem zd_LW_law_201 : decode code 201 = .ok (.aload_n 0, 1) := by decide +kernel
theorem zd_LW_law_202 : decode code 202 = .ok (.iload 4, 2) := by decide +kernel
theorem zd_LW_law_204 : decode code 204 = .ok (.iconst 2, 1) := by decide +kernel
theorem zd_LW_law_205 : decode code 205 = .ok (.iadd, 1) := by decide +kernel
theorem zd_LW_law_206 : decode code 206 = .ok (.iaload, 1) := by decide +kernel
theorem zd_LW_law_207 : decode code 207 = .ok (.aload_n 0, 1) := by decide +kernel
theorem zd_LW_law_208 : decode code 208 = .ok (.iload 4, 2) := by decide +kernel
theorem zd_LW_law_210 : decode code 210 = .ok (.iconst 3, 1) := by decide +kernel
theorem zd_LW_law_211 : decode code 211 = .ok (.iadd, 1) := by decide +kernel
theorem zd_LW_law_212 : decode code 212 = .ok (.iaload, 1) := by decide +kernel
theorem zd_LW_law_213 : decode code 213 = .ok (.aload_n 0, 1) := by decide +kernel
theorem zd_LW_law_214 : decode code 214 = .ok (.iload 4, 2) := by decide +kernel
theorem zd_LW_law_216 : decode code 216 = .ok (.iconst 4, 1) := by decide +kernel
theorem zd_LW_law_217 : decode code 217 = .ok (.iadd, 1) := by decide +kernel
theorem zd_LW_law_218 : decode code 218 = .ok (.iaload, 1) := by decide +kernel
theorem zd_LW_law_219 : decode code 219 = .ok (.aload_n 0, 1) := by decide +kernel
theorem zd_LW_law_220 : decode code 220 = .ok (.iload 4, 2) := by decide +kernel
theorem zd_LW_law_222 : decode code 222 = .ok (.iconst 5, 1) := by decide +kernel
theorem zd_LW_law_223 : decode code 223 = .ok (.iadd, 1) := by decide +kernel
theorem zd_LW_law_224 : decode code 224 = .ok (.iaload, 1) := by decide +kernel
theorem zd_LW_law_225 : decode code 225 = .ok (.invokevirtual 37, 3) := by decide +kernel
theorem zd_LW_law_228 : decode code 228 = .ok (.if_icmp .eq 763, 3) := by decide +kernel
theorem zd_LW_law_231 : decode code 231 = .ok (.iconst 0, 1) := by decide +kernel
theorem zd_LW_law_232 : decode code 232 = .ok (.ireturn, 1) := by decide +kernel
theorem zd_LW_law_233 : decode code 233 = .ok (.aload_n 1, 1) := by decide +kernel
theorem zd_LW_law_234 : decode code 234 = .ok (.aload_n 0, 1) := by decide +kernel
theorem zd_LW_law_235 : decode code 235 = .ok (.iload 4, 2) := by decide +kernel
theorem zd_LW_law_237 : decode code 237 = .ok (.iconst 1, 1) := by decide +kernel
theorem zd_LW_law_238 : decode code 238 = .ok (.iadd, 1) := by decide +kernel
theorem zd_LW_law_239 : decode code 239 = .ok (.iaload, 1) := by decide +kernel
theorem zd_LW_law_240 : decode code 240 = .ok (.invokevirtual 38, 3) := by decide +kernel
theorem zd_LW_law_243 : decode code 243 = .ok (.aload_n 2, 1) := by decide +kernel
theorem zd_LW_law_244 : decode code 244 = .ok (.aload_n 0, 1) := by decide +kernel
theorem zd_LW_law_245 : decode code 245 = .ok (.iload 4, 2) := by decide +kernel
theorem zd_LW_law_247 : decode code 247 = .ok (.iconst 1, 1) := by decide +kernel
theorem zd_LW_law_248 : decode code 248 = .ok (.iadd, 1) := by decide +kernel
theorem zd_LW_law_249 : decode code 249 = .ok (.iaload, 1) := by decide +kernel
theorem zd_LW_law_250 : decode code 250 = .ok (.invokevirtual 42, 3) := by decide +kernel
theorem zd_LW_law_253 : decode code 253 = .ok (.if_icmp .eq 738, 3) := by decide +kernel
theorem zd_LW_law_256 : decode code 256 = .ok (.iconst 0, 1) := by decide +kernel
theorem zd_LW_law_257 : decode code 257 = .ok (.ireturn, 1) := by decide +kernel
theorem zd_LW_law_258 : decode code 258 = .ok (.aload_n 1, 1) := by decide +kernel
theorem zd_LW_law_259 : decode code 259 = .ok (.aload_n 3, 1) := by decide +kernel
theorem zd_LW_law_260 : decode code 260 = .ok (.invokestatic 43, 3) := by decide +kernel
theorem zd_LW_law_263 : decode code 263 = .ok (.istore 5, 2) := by decide +kernel
theorem zd_LW_law_265 : decode code 265 = .ok (.aload_n 2, 1) := by decide +kernel
theorem zd_LW_law_266 : decode code 266 = .ok (.invokevirtual 46, 3) := by decide +kernel
theorem zd_LW_law_269 : decode code 269 = .ok (.istore 6, 2) := by decide +kernel
theorem zd_LW_law_271 : decode code 271 = .ok (.aload_n 2, 1) := by decide +kernel
theorem zd_LW_law_272 : decode code 272 = .ok (.invokevirtual 47, 3) := by decide +kernel
theorem zd_LW_law_275 : decode code 275 = .ok (.iload 5, 2) := by decide +kernel
theorem zd_LW_law_277 : decode code 277 = .ok (.if_icmp .eq 5, 3) := by decide +kernel
theorem zd_LW_law_280 : decode code 280 = .ok (.iconst 0, 1) := by decide +kernel
theorem zd_LW_law_281 : decode code 281 = .ok (.ireturn, 1) := by decide +kernel
theorem zd_LW_law_282 : decode code 282 = .ok (.iload 5, 2) := by decide +kernel
theorem zd_LW_law_284 : decode code 284 = .ok (.ifCond .ne 15, 3) := by decide +kernel
theorem zd_LW_law_287 : decode code 287 = .ok (.aload_n 3, 1) := by decide +kernel
theorem zd_LW_law_288 : decode code 288 = .ok (.iconst 0, 1) := by decide +kernel
theorem zd_LW_law_289 : decode code 289 = .ok (.laload, 1) := by decide +kernel
theorem zd_LW_law_290 : decode code 290 = .ok (.iload 6, 2) := by decide +kernel
theorem zd_LW_law_292 : decode code 292 = .ok (.i2l, 1) := by decide +kernel
theorem zd_LW_law_293 : decode code 293 = .ok (.lcmp, 1) := by decide +kernel
theorem zd_LW_law_294 : decode code 294 = .ok (.ifCond .eq 5, 3) := by decide +kernel
theorem zd_LW_law_297 : decode code 297 = .ok (.iconst 0, 1) := by decide +kernel
theorem zd_LW_law_298 : decode code 298 = .ok (.ireturn, 1) := by decide +kernel
theorem zd_LW_law_299 : decode code 299 = .ok (.goto 692, 3) := by decide +kernel
theorem zd_LW_law_302 : decode code 302 = .ok (.aload_n 1, 1) := by decide +kernel
theorem zd_LW_law_303 : decode code 303 = .ok (.aload_n 0, 1) := by decide +kernel
theorem zd_LW_law_304 : decode code 304 = .ok (.iload 4, 2) := by decide +kernel
theorem zd_LW_law_306 : decode code 306 = .ok (.iconst 1, 1) := by decide +kernel
theorem zd_LW_law_307 : decode code 307 = .ok (.iadd, 1) := by decide +kernel
theorem zd_LW_law_308 : decode code 308 = .ok (.iaload, 1) := by decide +kernel
theorem zd_LW_law_309 : decode code 309 = .ok (.invokevirtual 50, 3) := by decide +kernel
theorem zd_LW_law_312 : decode code 312 = .ok (.aload_n 2, 1) := by decide +kernel
theorem zd_LW_law_313 : decode code 313 = .ok (.aload_n 0, 1) := by decide +kernel
theorem zd_LW_law_314 : decode code 314 = .ok (.iload 4, 2) := by decide +kernel
theorem zd_LW_law_316 : decode code 316 = .ok (.iconst 1, 1) := by decide +kernel
theorem zd_LW_law_317 : decode code 317 = .ok (.iadd, 1) := by decide +kernel
theorem zd_LW_law_318 : decode code 318 = .ok (.iaload, 1) := by decide +kernel
theorem zd_LW_law_319 : decode code 319 = .ok (.invokevirtual 54, 3) := by decide +kernel
theorem zd_LW_law_322 : decode code 322 = .ok (.if_icmp .eq 669, 3) := by decide +kernel
theorem zd_LW_law_325 : decode code 325 = .ok (.iconst 0, 1) := by decide +kernel
theorem zd_LW_law_326 : decode code 326 = .ok (.ireturn, 1) := by decide +kernel
theorem zd_LW_law_327 : decode code 327 = .ok (.aload_n 1, 1) := by decide +kernel
theorem zd_LW_law_328 : decode code 328 = .ok (.aload_n 0, 1) := by decide +kernel
theorem zd_LW_law_329 : decode code 329 = .ok (.iload 4, 2) := by decide +kernel
theorem zd_LW_law_331 : decode code 331 = .ok (.iconst 1, 1) := by decide +kernel
theorem zd_LW_law_332 : decode code 332 = .ok (.iadd, 1) := by decide +kernel
theorem zd_LW_law_333 : decode code 333 = .ok (.iaload, 1) := by decide +kernel
theorem zd_LW_law_334 : decode code 334 = .ok (.invokevirtual 55, 3) := by decide +kernel
theorem zd_LW_law_337 : decode code 337 = .ok (.aload_n 2, 1) := by decide +kernel
theorem zd_LW_law_338 : decode code 338 = .ok (.aload_n 0, 1) := by decide +kernel
theorem zd_LW_law_339 : decode code 339 = .ok (.iload 4, 2) := by decide +kernel
theorem zd_LW_law_341 : decode code 341 = .ok (.iconst 1, 1) := by decide +kernel
theorem zd_LW_law_342 : decode code 342 = .ok (.iadd, 1) := by decide +kernel
theorem zd_LW_law_343 : decode code 343 = .ok (.iaload, 1) := by decide +kernel
theorem zd_LW_law_344 : decode code 344 = .ok (.invokevirtual 58, 3) := by decide +kernel
theorem zd_LW_law_347 : decode code 347 = .ok (.if_icmp .eq 644, 3) := by decide +kernel
theorem zd_LW_law_350 : decode code 350 = .ok (.iconst 0, 1) := by decide +kernel
theorem zd_LW_law_351 : decode code 351 = .ok (.ireturn, 1) := by decide +kernel
theorem zd_LW_law_352 : decode code 352 = .ok (.aload_n 1, 1) := by decide +kernel
theorem zd_LW_law_353 : decode code 353 = .ok (.aload_n 0, 1) := by decide +kernel
theorem zd_LW_law_354 : decode code 354 = .ok (.iload 4, 2) := by decide +kernel
theorem zd_LW_law_356 : decode code 356 = .ok (.iconst 1, 1) := by decide +kernel
theorem zd_LW_law_357 : decode code 357 = .ok (.iadd, 1) := by decide +kernel
theorem zd_LW_law_358 : decode code 358 = .ok (.iaload, 1) := by decide +kernel
theorem zd_LW_law_359 : decode code 359 = .ok (.invokevirtual 59, 3) := by decide +kernel
theorem zd_LW_law_362 : decode code 362 = .ok (.aload_n 2, 1) := by decide +kernel
theorem zd_LW_law_363 : decode code 363 = .ok (.aload_n 0, 1) := by decide +kernel
theorem zd_LW_law_364 : decode code 364 = .ok (.iload 4, 2) := by decide +kernel
theorem zd_LW_law_366 : decode code 366 = .ok (.iconst 1, 1) := by decide +kernel
theorem zd_LW_law_367 : decode code 367 = .ok (.iadd, 1) := by decide +kernel
theorem zd_LW_law_368 : decode code 368 = .ok (.iaload, 1) := by decide +kernel
theorem zd_LW_law_369 : decode code 369 = .ok (.invokevirtual 62, 3) := by decide +kernel
theorem zd_LW_law_372 : decode code 372 = .ok (.if_icmp .eq 619, 3) := by decide +kernel
theorem zd_LW_law_375 : decode code 375 = .ok (.iconst 0, 1) := by decide +kernel
theorem zd_LW_law_376 : decode code 376 = .ok (.ireturn, 1) := by decide +kernel
theorem zd_LW_law_377 : decode code 377 = .ok (.aload_n 1, 1) := by decide +kernel
theorem zd_LW_law_378 : decode code 378 = .ok (.aload_n 0, 1) := by decide +kernel
theorem zd_LW_law_379 : decode code 379 = .ok (.iload 4, 2) := by decide +kernel
theorem zd_LW_law_381 : decode code 381 = .ok (.iconst 1, 1) := by decide +kernel
theorem zd_LW_law_382 : decode code 382 = .ok (.iadd, 1) := by decide +kernel
theorem zd_LW_law_383 : decode code 383 = .ok (.iaload, 1) := by decide +kernel
theorem zd_LW_law_384 : decode code 384 = .ok (.aload_n 0, 1) := by decide +kernel
theorem zd_LW_law_385 : decode code 385 = .ok (.iload 4, 2) := by decide +kernel
theorem zd_LW_law_387 : decode code 387 = .ok (.iconst 2, 1) := by decide +kernel
theorem zd_LW_law_388 : decode code 388 = .ok (.iadd, 1) := by decide +kernel
theorem zd_LW_law_389 : decode code 389 = .ok (.iaload, 1) := by decide +kernel
theorem zd_LW_law_390 : decode code 390 = .ok (.aload_n 0, 1) := by decide +kernel
theorem zd_LW_law_391 : decode code 391 = .ok (.iload 4, 2) := by decide +kernel
theorem zd_LW_law_393 : decode code 393 = .ok (.iconst 3, 1) := by decide +kernel
theorem zd_LW_law_394 : decode code 394 = .ok (.iadd, 1) := by decide +kernel
theorem zd_LW_law_395 : decode code 395 = .ok (.iaload, 1) := by decide +kernel
theorem zd_LW_law_396 : decode code 396 = .ok (.aload_n 0, 1) := by decide +kernel
theorem zd_LW_law_397 : decode code 397 = .ok (.iload 4, 2) := by decide +kernel
theorem zd_LW_law_399 : decode code 399 = .ok (.iconst 4, 1) := by decide +kernel
theorem zd_LW_law_400 : decode code 400 = .ok (.iadd, 1) := by decide +kernel
theorem zd_LW_law_401 : decode code 401 = .ok (.iaload, 1) := by decide +kernel
theorem zd_LW_law_402 : decode code 402 = .ok (.aload_n 0, 1) := by decide +kernel
theorem zd_LW_law_403 : decode code 403 = .ok (.iload 4, 2) := by decide +kernel
theorem zd_LW_law_405 : decode code 405 = .ok (.iconst 5, 1) := by decide +kernel
theorem zd_LW_law_406 : decode code 406 = .ok (.iadd, 1) := by decide +kernel
theorem zd_LW_law_407 : decode code 407 = .ok (.iaload, 1) := by decide +kernel
theorem zd_LW_law_408 : decode code 408 = .ok (.invokevirtual 63, 3) := by decide +kernel
theorem zd_LW_law_411 : decode code 411 = .ok (.aload_n 2, 1) := by decide +kernel
theorem zd_LW_law_412 : decode code 412 = .ok (.aload_n 0, 1) := by decide +kernel
theorem zd_LW_law_413 : decode code 413 = .ok (.iload 4, 2) := by decide +kernel
theorem zd_LW_law_415 : decode code 415 = .ok (.iconst 1, 1) := by decide +kernel
theorem zd_LW_law_416 : decode code 416 = .ok (.iadd, 1) := by decide +kernel
theorem zd_LW_law_417 : decode code 417 = .ok (.iaload, 1) := by decide +kernel
theorem zd_LW_law_418 : decode code 418 = .ok (.aload_n 0, 1) := by decide +kernel
theorem zd_LW_law_419 : decode code 419 = .ok (.iload 4, 2) := by decide +kernel
theorem zd_LW_law_421 : decode code 421 = .ok (.iconst 2, 1) := by decide +kernel
theorem zd_LW_law_422 : decode code 422 = .ok (.iadd, 1) := by decide +kernel
theorem zd_LW_law_423 : decode code 423 = .ok (.iaload, 1) := by decide +kernel
theorem zd_LW_law_424 : decode code 424 = .ok (.aload_n 0, 1) := by decide +kernel
theorem zd_LW_law_425 : decode code 425 = .ok (.iload 4, 2) := by decide +kernel
theorem zd_LW_law_427 : decode code 427 = .ok (.iconst 3, 1) := by decide +kernel
theorem zd_LW_law_428 : decode code 428 = .ok (.iadd, 1) := by decide +kernel
theorem zd_LW_law_429 : decode code 429 = .ok (.iaload, 1) := by decide +kernel
theorem zd_LW_law_430 : decode code 430 = .ok (.aload_n 0, 1) := by decide +kernel
theorem zd_LW_law_431 : decode code 431 = .ok (.iload 4, 2) := by decide +kernel
theorem zd_LW_law_433 : decode code 433 = .ok (.iconst 4, 1) := by decide +kernel
theorem zd_LW_law_434 : decode code 434 = .ok (.iadd, 1) := by decide +kernel
theorem zd_LW_law_435 : decode code 435 = .ok (.iaload, 1) := by decide +kernel
theorem zd_LW_law_436 : decode code 436 = .ok (.aload_n 0, 1) := by decide +kernel
theorem zd_LW_law_437 : decode code 437 = .ok (.iload 4, 2) := by decide +kernel
theorem zd_LW_law_439 : decode code 439 = .ok (.iconst 5, 1) := by decide +kernel
theorem zd_LW_law_440 : decode code 440 = .ok (.iadd, 1) := by decide +kernel
theorem zd_LW_law_441 : decode code 441 = .ok (.iaload, 1) := by decide +kernel
theorem zd_LW_law_442 : decode code 442 = .ok (.invokevirtual 66, 3) := by decide +kernel
theorem zd_LW_law_445 : decode code 445 = .ok (.if_icmp .eq 546, 3) := by decide +kernel
theorem zd_LW_law_448 : decode code 448 = .ok (.iconst 0, 1) := by decide +kernel
theorem zd_LW_law_449 : decode code 449 = .ok (.ireturn, 1) := by decide +kernel
theorem zd_LW_law_450 : decode code 450 = .ok (.aload_n 1, 1) := by decide +kernel
theorem zd_LW_law_451 : decode code 451 = .ok (.aload_n 0, 1) := by decide +kernel
theorem zd_LW_law_452 : decode code 452 = .ok (.iload 4, 2) := by decide +kernel
theorem zd_LW_law_454 : decode code 454 = .ok (.iconst 1, 1) := by decide +kernel
theorem zd_LW_law_455 : decode code 455 = .ok (.iadd, 1) := by decide +kernel
theorem zd_LW_law_456 : decode code 456 = .ok (.iaload, 1) := by decide +kernel
theorem zd_LW_law_457 : decode code 457 = .ok (.aload_n 0, 1) := by decide +kernel
theorem zd_LW_law_458 : decode code 458 = .ok (.iload 4, 2) := by decide +kernel
theorem zd_LW_law_460 : decode code 460 = .ok (.iconst 2, 1) := by decide +kernel
theorem zd_LW_law_461 : decode code 461 = .ok (.iadd, 1) := by decide +kernel
theorem zd_LW_law_462 : decode code 462 = .ok (.iaload, 1) := by decide +kernel
theorem zd_LW_law_463 : decode code 463 = .ok (.invokevirtual 67, 3) := by decide +kernel
theorem zd_LW_law_466 : decode code 466 = .ok (.aload_n 2, 1) := by decide +kernel
theorem zd_LW_law_467 : decode code 467 = .ok (.aload_n 0, 1) := by decide +kernel
theorem zd_LW_law_468 : decode code 468 = .ok (.iload 4, 2) := by decide +kernel
theorem zd_LW_law_470 : decode code 470 = .ok (.iconst 1, 1) := by decide +kernel
theorem zd_LW_law_471 : decode code 471 = .ok (.iadd, 1) := by decide +kernel
theorem zd_LW_law_472 : decode code 472 = .ok (.iaload, 1) := by decide +kernel
theorem zd_LW_law_473 : decode code 473 = .ok (.aload_n 0, 1) := by decide +kernel
theorem zd_LW_law_474 : decode code 474 = .ok (.iload 4, 2) := by decide +kernel
theorem zd_LW_law_476 : decode code 476 = .ok (.iconst 2, 1) := by decide +kernel
theorem zd_LW_law_477 : decode code 477 = .ok (.iadd, 1) := by decide +kernel
theorem zd_LW_law_478 : decode code 478 = .ok (.iaload, 1) := by decide +kernel
theorem zd_LW_law_479 : decode code 479 = .ok (.invokevirtual 71, 3) := by decide +kernel
theorem zd_LW_law_482 : decode code 482 = .ok (.if_icmp .eq 509, 3) := by decide +kernel
theorem zd_LW_law_485 : decode code 485 = .ok (.iconst 0, 1) := by decide +kernel
theorem zd_LW_law_486 : decode code 486 = .ok (.ireturn, 1) := by decide +kernel
theorem zd_LW_law_487 : decode code 487 = .ok (.aload_n 1, 1) := by decide +kernel
theorem zd_LW_law_488 : decode code 488 = .ok (.aload_n 0, 1) := by decide +kernel
theorem zd_LW_law_489 : decode code 489 = .ok (.iload 4, 2) := by decide +kernel
theorem zd_LW_law_491 : decode code 491 = .ok (.iconst 1, 1) := by decide +kernel
theorem zd_LW_law_492 : decode code 492 = .ok (.iadd, 1) := by decide +kernel
theorem zd_LW_law_493 : decode code 493 = .ok (.iaload, 1) := by decide +kernel
theorem zd_LW_law_494 : decode code 494 = .ok (.aload_n 0, 1) := by decide +kernel
theorem zd_LW_law_495 : decode code 495 = .ok (.iload 4, 2) := by decide +kernel
theorem zd_LW_law_497 : decode code 497 = .ok (.iconst 2, 1) := by decide +kernel
theorem zd_LW_law_498 : decode code 498 = .ok (.iadd, 1) := by decide +kernel
theorem zd_LW_law_499 : decode code 499 = .ok (.iaload, 1) := by decide +kernel
theorem zd_LW_law_500 : decode code 500 = .ok (.ifCond .eq 7, 3) := by decide +kernel
theorem zd_LW_law_503 : decode code 503 = .ok (.iconst 1, 1) := by decide +kernel
theorem zd_LW_law_504 : decode code 504 = .ok (.goto 4, 3) := by decide +kernel
theorem zd_LW_law_507 : decode code 507 = .ok (.iconst 0, 1) := by decide +kernel
theorem zd_LW_law_508 : decode code 508 = .ok (.invokevirtual 72, 3) := by decide +kernel
theorem zd_LW_law_511 : decode code 511 = .ok (.aload_n 2, 1) := by decide +kernel
theorem zd_LW_law_512 : decode code 512 = .ok (.aload_n 0, 1) := by decide +kernel
theorem zd_LW_law_513 : decode code 513 = .ok (.iload 4, 2) := by decide +kernel
theorem zd_LW_law_515 : decode code 515 = .ok (.iconst 1, 1) := by decide +kernel
theorem zd_LW_law_516 : decode code 516 = .ok (.iadd, 1) := by decide +kernel
theorem zd_LW_law_517 : decode code 517 = .ok (.iaload, 1) := by decide +kernel
theorem zd_LW_law_518 : decode code 518 = .ok (.aload_n 0, 1) := by decide +kernel
theorem zd_LW_law_519 : decode code 519 = .ok (.iload 4, 2) := by decide +kernel
theorem zd_LW_law_521 : decode code 521 = .ok (.iconst 2, 1) := by decide +kernel
theorem zd_LW_law_522 : decode code 522 = .ok (.iadd, 1) := by decide +kernel
theorem zd_LW_law_523 : decode code 523 = .ok (.iaload, 1) := by decide +kernel
theorem zd_LW_law_524 : decode code 524 = .ok (.ifCond .eq 7, 3) := by decide +kernel
theorem zd_LW_law_527 : decode code 527 = .ok (.iconst 1, 1) := by decide +kernel
theorem zd_LW_law_528 : decode code 528 = .ok (.goto 4, 3) := by decide +kernel
theorem zd_LW_law_531 : decode code 531 = .ok (.iconst 0, 1) := by decide +kernel
theorem zd_LW_law_532 : decode code 532 = .ok (.invokevirtual 76, 3) := by decide +kernel
theorem zd_LW_law_535 : decode code 535 = .ok (.if_icmp .eq 456, 3) := by decide +kernel
theorem zd_LW_law_538 : decode code 538 = .ok (.iconst 0, 1) := by decide +kernel
theorem zd_LW_law_539 : decode code 539 = .ok (.ireturn, 1) := by decide +kernel
theorem zd_LW_law_540 : decode code 540 = .ok (.aload_n 1, 1) := by decide +kernel
theorem zd_LW_law_541 : decode code 541 = .ok (.aload_n 0, 1) := by decide +kernel
theorem zd_LW_law_542 : decode code 542 = .ok (.iload 4, 2) := by decide +kernel
theorem zd_LW_law_544 : decode code 544 = .ok (.iconst 1, 1) := by decide +kernel
theorem zd_LW_law_545 : decode code 545 = .ok (.iadd, 1) := by decide +kernel
theorem zd_LW_law_546 : decode code 546 = .ok (.iaload, 1) := by decide +kernel
theorem zd_LW_law_547 : decode code 547 = .ok (.aload_n 0, 1) := by decide +kernel
theorem zd_LW_law_548 : decode code 548 = .ok (.iload 4, 2) := by decide +kernel
theorem zd_LW_law_550 : decode code 550 = .ok (.iconst 2, 1) := by decide +kernel
theorem zd_LW_law_551 : decode code 551 = .ok (.iadd, 1) := by decide +kernel
theorem zd_LW_law_552 : decode code 552 = .ok (.iaload, 1) := by decide +kernel
theorem zd_LW_law_553 : decode code 553 = .ok (.aload_n 0, 1) := by decide +kernel
theorem zd_LW_law_554 : decode code 554 = .ok (.iload 4, 2) := by decide +kernel
theorem zd_LW_law_556 : decode code 556 = .ok (.iconst 3, 1) := by decide +kernel
theorem zd_LW_law_557 : decode code 557 = .ok (.iadd, 1) := by decide +kernel
theorem zd_LW_law_558 : decode code 558 = .ok (.iaload, 1) := by decide +kernel
theorem zd_LW_law_559 : decode code 559 = .ok (.aload_n 0, 1) := by decide +kernel
theorem zd_LW_law_560 : decode code 560 = .ok (.iload 4, 2) := by decide +kernel
theorem zd_LW_law_562 : decode code 562 = .ok (.iconst 4, 1) := by decide +kernel
theorem zd_LW_law_563 : decode code 563 = .ok (.iadd, 1) := by decide +kernel
theorem zd_LW_law_564 : decode code 564 = .ok (.iaload, 1) := by decide +kernel
theorem zd_LW_law_565 : decode code 565 = .ok (.invokevirtual 77, 3) := by decide +kernel
theorem zd_LW_law_568 : decode code 568 = .ok (.aload_n 2, 1) := by decide +kernel
theorem zd_LW_law_569 : decode code 569 = .ok (.aload_n 0, 1) := by decide +kernel
theorem zd_LW_law_570 : decode code 570 = .ok (.iload 4, 2) := by decide +kernel
theorem zd_LW_law_572 : decode code 572 = .ok (.iconst 1, 1) := by decide +kernel
theorem zd_LW_law_573 : decode code 573 = .ok (.iadd, 1) := by decide +kernel
theorem zd_LW_law_574 : decode code 574 = .ok (.iaload, 1) := by decide +kernel
theorem zd_LW_law_575 : decode code 575 = .ok (.aload_n 0, 1) := by decide +kernel
theorem zd_LW_law_576 : decode code 576 = .ok (.iload 4, 2) := by decide +kernel
theorem zd_LW_law_578 : decode code 578 = .ok (.iconst 2, 1) := by decide +kernel
theorem zd_LW_law_579 : decode code 579 = .ok (.iadd, 1) := by decide +kernel
theorem zd_LW_law_580 : decode code 580 = .ok (.iaload, 1) := by decide +kernel
theorem zd_LW_law_581 : decode code 581 = .ok (.aload_n 0, 1) := by decide +kernel
theorem zd_LW_law_582 : decode code 582 = .ok (.iload 4, 2) := by decide +kernel
theorem zd_LW_law_584 : decode code 584 = .ok (.iconst 3, 1) := by decide +kernel
theorem zd_LW_law_585 : decode code 585 = .ok (.iadd, 1) := by decide +kernel
theorem zd_LW_law_586 : decode code 586 = .ok (.iaload, 1) := by decide +kernel
theorem zd_LW_law_587 : decode code 587 = .ok (.aload_n 0, 1) := by decide +kernel
theorem zd_LW_law_588 : decode code 588 = .ok (.iload 4, 2) := by decide +kernel
theorem zd_LW_law_590 : decode code 590 = .ok (.iconst 4, 1) := by decide +kernel
theorem zd_LW_law_591 : decode code 591 = .ok (.iadd, 1) := by decide +kernel
theorem zd_LW_law_592 : decode code 592 = .ok (.iaload, 1) := by decide +kernel
theorem zd_LW_law_593 : decode code 593 = .ok (.invokevirtual 81, 3) := by decide +kernel
theorem zd_LW_law_596 : decode code 596 = .ok (.if_icmp .eq 395, 3) := by decide +kernel
theorem zd_LW_law_599 : decode code 599 = .ok (.iconst 0, 1) := by decide +kernel
theorem zd_LW_law_600 : decode code 600 = .ok (.ireturn, 1) := by decide +kernel
theorem zd_LW_law_601 : decode code 601 = .ok (.aload_n 1, 1) := by decide +kernel
theorem zd_LW_law_602 : decode code 602 = .ok (.aload_n 0, 1) := by decide +kernel
theorem zd_LW_law_603 : decode code 603 = .ok (.iload 4, 2) := by decide +kernel
theorem zd_LW_law_605 : decode code 605 = .ok (.iconst 1, 1) := by decide +kernel
theorem zd_LW_law_606 : decode code 606 = .ok (.iadd, 1) := by decide +kernel
theorem zd_LW_law_607 : decode code 607 = .ok (.iaload, 1) := by decide +kernel
theorem zd_LW_law_608 : decode code 608 = .ok (.aload_n 0, 1) := by decide +kernel
theorem zd_LW_law_609 : decode code 609 = .ok (.iload 4, 2) := by decide +kernel
theorem zd_LW_law_611 : decode code 611 = .ok (.iconst 2, 1) := by decide +kernel
theorem zd_LW_law_612 : decode code 612 = .ok (.iadd, 1) := by decide +kernel
theorem zd_LW_law_613 : decode code 613 = .ok (.iaload, 1) := by decide +kernel
theorem zd_LW_law_614 : decode code 614 = .ok (.aload_n 0, 1) := by decide +kernel
theorem zd_LW_law_615 : decode code 615 = .ok (.iload 4, 2) := by decide +kernel
theorem zd_LW_law_617 : decode code 617 = .ok (.iconst 3, 1) := by decide +kernel
theorem zd_LW_law_618 : decode code 618 = .ok (.iadd, 1) := by decide +kernel
theorem zd_LW_law_619 : decode code 619 = .ok (.iaload, 1) := by decide +kernel
theorem zd_LW_law_620 : decode code 620 = .ok (.aload_n 0, 1) := by decide +kernel
theorem zd_LW_law_621 : decode code 621 = .ok (.iload 4, 2) := by decide +kernel
theorem zd_LW_law_623 : decode code 623 = .ok (.iconst 4, 1) := by decide +kernel
theorem zd_LW_law_624 : decode code 624 = .ok (.iadd, 1) := by decide +kernel
theorem zd_LW_law_625 : decode code 625 = .ok (.iaload, 1) := by decide +kernel
theorem zd_LW_law_626 : decode code 626 = .ok (.invokevirtual 82, 3) := by decide +kernel
theorem zd_LW_law_629 : decode code 629 = .ok (.aload_n 2, 1) := by decide +kernel
theorem zd_LW_law_630 : decode code 630 = .ok (.aload_n 0, 1) := by decide +kernel
theorem zd_LW_law_631 : decode code 631 = .ok (.iload 4, 2) := by decide +kernel
theorem zd_LW_law_633 : decode code 633 = .ok (.iconst 1, 1) := by decide +kernel
theorem zd_LW_law_634 : decode code 634 = .ok (.iadd, 1) := by decide +kernel
theorem zd_LW_law_635 : decode code 635 = .ok (.iaload, 1) := by decide +kernel
theorem zd_LW_law_636 : decode code 636 = .ok (.aload_n 0, 1) := by decide +kernel
theorem zd_LW_law_637 : decode code 637 = .ok (.iload 4, 2) := by decide +kernel
theorem zd_LW_law_639 : decode code 639 = .ok (.iconst 2, 1) := by decide +kernel
theorem zd_LW_law_640 : decode code 640 = .ok (.iadd, 1) := by decide +kernel
theorem zd_LW_law_641 : decode code 641 = .ok (.iaload, 1) := by decide +kernel
theorem zd_LW_law_642 : decode code 642 = .ok (.aload_n 0, 1) := by decide +kernel
theorem zd_LW_law_643 : decode code 643 = .ok (.iload 4, 2) := by decide +kernel
theorem zd_LW_law_645 : decode code 645 = .ok (.iconst 3, 1) := by decide +kernel
theorem zd_LW_law_646 : decode code 646 = .ok (.iadd, 1) := by decide +kernel
theorem zd_LW_law_647 : decode code 647 = .ok (.iaload, 1) := by decide +kernel
theorem zd_LW_law_648 : decode code 648 = .ok (.aload_n 0, 1) := by decide +kernel
theorem zd_LW_law_649 : decode code 649 = .ok (.iload 4, 2) := by decide +kernel
theorem zd_LW_law_651 : decode code 651 = .ok (.iconst 4, 1) := by decide +kernel
theorem zd_LW_law_652 : decode code 652 = .ok (.iadd, 1) := by decide +kernel
theorem zd_LW_law_653 : decode code 653 = .ok (.iaload, 1) := by decide +kernel
theorem zd_LW_law_654 : decode code 654 = .ok (.invokevirtual 85, 3) := by decide +kernel
theorem zd_LW_law_657 : decode code 657 = .ok (.if_icmp .eq 334, 3) := by decide +kernel
theorem zd_LW_law_660 : decode code 660 = .ok (.iconst 0, 1) := by decide +kernel
theorem zd_LW_law_661 : decode code 661 = .ok (.ireturn, 1) := by decide +kernel
theorem zd_LW_law_662 : decode code 662 = .ok (.aload_n 1, 1) := by decide +kernel
theorem zd_LW_law_663 : decode code 663 = .ok (.aload_n 0, 1) := by decide +kernel
theorem zd_LW_law_664 : decode code 664 = .ok (.iload 4, 2) := by decide +kernel
theorem zd_LW_law_666 : decode code 666 = .ok (.iconst 1, 1) := by decide +kernel
theorem zd_LW_law_667 : decode code 667 = .ok (.iadd, 1) := by decide +kernel
theorem zd_LW_law_668 : decode code 668 = .ok (.iaload, 1) := by decide +kernel
theorem zd_LW_law_669 : decode code 669 = .ok (.aload_n 0, 1) := by decide +kernel
theorem zd_LW_law_670 : decode code 670 = .ok (.iload 4, 2) := by decide +kernel
theorem zd_LW_law_672 : decode code 672 = .ok (.iconst 2, 1) := by decide +kernel
theorem zd_LW_law_673 : decode code 673 = .ok (.iadd, 1) := by decide +kernel
theorem zd_LW_law_674 : decode code 674 = .ok (.iaload, 1) := by decide +kernel
theorem zd_LW_law_675 : decode code 675 = .ok (.aload_n 0, 1) := by decide +kernel
theorem zd_LW_law_676 : decode code 676 = .ok (.iload 4, 2) := by decide +kernel
theorem zd_LW_law_678 : decode code 678 = .ok (.iconst 3, 1) := by decide +kernel
theorem zd_LW_law_679 : decode code 679 = .ok (.iadd, 1) := by decide +kernel
theorem zd_LW_law_680 : decode code 680 = .ok (.iaload, 1) := by decide +kernel
theorem zd_LW_law_681 : decode code 681 = .ok (.invokevirtual 86, 3) := by decide +kernel
theorem zd_LW_law_684 : decode code 684 = .ok (.aload_n 2, 1) := by decide +kernel
theorem zd_LW_law_685 : decode code 685 = .ok (.aload_n 0, 1) := by decide +kernel
theorem zd_LW_law_686 : decode code 686 = .ok (.iload 4, 2) := by decide +kernel
theorem zd_LW_law_688 : decode code 688 = .ok (.iconst 1, 1) := by decide +kernel
theorem zd_LW_law_689 : decode code 689 = .ok (.iadd, 1) := by decide +kernel
theorem zd_LW_law_690 : decode code 690 = .ok (.iaload, 1) := by decide +kernel
theorem zd_LW_law_691 : decode code 691 = .ok (.aload_n 0, 1) := by decide +kernel
theorem zd_LW_law_692 : decode code 692 = .ok (.iload 4, 2) := by decide +kernel
theorem zd_LW_law_694 : decode code 694 = .ok (.iconst 2, 1) := by decide +kernel
theorem zd_LW_law_695 : decode code 695 = .ok (.iadd, 1) := by decide +kernel
theorem zd_LW_law_696 : decode code 696 = .ok (.iaload, 1) := by decide +kernel
theorem zd_LW_law_697 : decode code 697 = .ok (.aload_n 0, 1) := by decide +kernel
theorem zd_LW_law_698 : decode code 698 = .ok (.iload 4, 2) := by decide +kernel
theorem zd_LW_law_700 : decode code 700 = .ok (.iconst 3, 1) := by decide +kernel
theorem zd_LW_law_701 : decode code 701 = .ok (.iadd, 1) := by decide +kernel
theorem zd_LW_law_702 : decode code 702 = .ok (.iaload, 1) := by decide +kernel
theorem zd_LW_law_703 : decode code 703 = .ok (.invokevirtual 90, 3) := by decide +kernel
theorem zd_LW_law_706 : decode code 706 = .ok (.if_icmp .eq 285, 3) := by decide +kernel
theorem zd_LW_law_709 : decode code 709 = .ok (.iconst 0, 1) := by decide +kernel
theorem zd_LW_law_710 : decode code 710 = .ok (.ireturn, 1) := by decide +kernel
theorem zd_LW_law_711 : decode code 711 = .ok (.aload_n 1, 1) := by decide +kernel
theorem zd_LW_law_712 : decode code 712 = .ok (.aload_n 0, 1) := by decide +kernel
theorem zd_LW_law_713 : decode code 713 = .ok (.iload 4, 2) := by decide +kernel
theorem zd_LW_law_715 : decode code 715 = .ok (.iconst 1, 1) := by decide +kernel
theorem zd_LW_law_716 : decode code 716 = .ok (.iadd, 1) := by decide +kernel
theorem zd_LW_law_717 : decode code 717 = .ok (.iaload, 1) := by decide +kernel
theorem zd_LW_law_718 : decode code 718 = .ok (.aload_n 0, 1) := by decide +kernel
theorem zd_LW_law_719 : decode code 719 = .ok (.iload 4, 2) := by decide +kernel
theorem zd_LW_law_721 : decode code 721 = .ok (.iconst 2, 1) := by decide +kernel
theorem zd_LW_law_722 : decode code 722 = .ok (.iadd, 1) := by decide +kernel
theorem zd_LW_law_723 : decode code 723 = .ok (.iaload, 1) := by decide +kernel
theorem zd_LW_law_724 : decode code 724 = .ok (.aload_n 0, 1) := by decide +kernel
theorem zd_LW_law_725 : decode code 725 = .ok (.iload 4, 2) := by decide +kernel
theorem zd_LW_law_727 : decode code 727 = .ok (.iconst 3, 1) := by decide +kernel
theorem zd_LW_law_728 : decode code 728 = .ok (.iadd, 1) := by decide +kernel
theorem zd_LW_law_729 : decode code 729 = .ok (.iaload, 1) := by decide +kernel
theorem zd_LW_law_730 : decode code 730 = .ok (.aload_n 3, 1) := by decide +kernel
theorem zd_LW_law_731 : decode code 731 = .ok (.invokestatic 91, 3) := by decide +kernel
theorem zd_LW_law_734 : decode code 734 = .ok (.istore 5, 2) := by decide +kernel
theorem zd_LW_law_736 : decode code 736 = .ok (.aload_n 2, 1) := by decide +kernel
theorem zd_LW_law_737 : decode code 737 = .ok (.aload_n 0, 1) := by decide +kernel
theorem zd_LW_law_738 : decode code 738 = .ok (.iload 4, 2) := by decide +kernel
theorem zd_LW_law_740 : decode code 740 = .ok (.iconst 1, 1) := by decide +kernel
theorem zd_LW_law_741 : decode code 741 = .ok (.iadd, 1) := by decide +kernel
theorem zd_LW_law_742 : decode code 742 = .ok (.iaload, 1) := by decide +kernel
theorem zd_LW_law_743 : decode code 743 = .ok (.aload_n 0, 1) := by decide +kernel
theorem zd_LW_law_744 : decode code 744 = .ok (.iload 4, 2) := by decide +kernel
theorem zd_LW_law_746 : decode code 746 = .ok (.iconst 2, 1) := by decide +kernel
theorem zd_LW_law_747 : decode code 747 = .ok (.iadd, 1) := by decide +kernel
theorem zd_LW_law_748 : decode code 748 = .ok (.iaload, 1) := by decide +kernel
theorem zd_LW_law_749 : decode code 749 = .ok (.aload_n 0, 1) := by decide +kernel
theorem zd_LW_law_750 : decode code 750 = .ok (.iload 4, 2) := by decide +kernel
theorem zd_LW_law_752 : decode code 752 = .ok (.iconst 3, 1) := by decide +kernel
theorem zd_LW_law_753 : decode code 753 = .ok (.iadd, 1) := by decide +kernel
theorem zd_LW_law_754 : decode code 754 = .ok (.iaload, 1) := by decide +kernel
theorem zd_LW_law_755 : decode code 755 = .ok (.invokevirtual 94, 3) := by decide +kernel
theorem zd_LW_law_758 : decode code 758 = .ok (.istore 6, 2) := by decide +kernel
theorem zd_LW_law_760 : decode code 760 = .ok (.aload_n 2, 1) := by decide +kernel
theorem zd_LW_law_761 : decode code 761 = .ok (.invokevirtual 47, 3) := by decide +kernel
theorem zd_LW_law_764 : decode code 764 = .ok (.iload 5, 2) := by decide +kernel
theorem zd_LW_law_766 : decode code 766 = .ok (.if_icmp .eq 5, 3) := by decide +kernel
theorem zd_LW_law_769 : decode code 769 = .ok (.iconst 0, 1) := by decide +kernel
theorem zd_LW_law_770 : decode code 770 = .ok (.ireturn, 1) := by decide +kernel
theorem zd_LW_law_771 : decode code 771 = .ok (.iload 5, 2) := by decide +kernel
theorem zd_LW_law_773 : decode code 773 = .ok (.ifCond .ne 15, 3) := by decide +kernel
theorem zd_LW_law_776 : decode code 776 = .ok (.aload_n 3, 1) := by decide +kernel
theorem zd_LW_law_777 : decode code 777 = .ok (.iconst 0, 1) := by decide +kernel
theorem zd_LW_law_778 : decode code 778 = .ok (.laload, 1) := by decide +kernel
theorem zd_LW_law_779 : decode code 779 = .ok (.iload 6, 2) := by decide +kernel
theorem zd_LW_law_781 : decode code 781 = .ok (.i2l, 1) := by decide +kernel
theorem zd_LW_law_782 : decode code 782 = .ok (.lcmp, 1) := by decide +kernel
theorem zd_LW_law_783 : decode code 783 = .ok (.ifCond .eq 5, 3) := by decide +kernel
theorem zd_LW_law_786 : decode code 786 = .ok (.iconst 0, 1) := by decide +kernel
theorem zd_LW_law_787 : decode code 787 = .ok (.ireturn, 1) := by decide +kernel
theorem zd_LW_law_788 : decode code 788 = .ok (.goto 203, 3) := by decide +kernel
theorem zd_LW_law_791 : decode code 791 = .ok (.aload_n 1, 1) := by decide +kernel
theorem zd_LW_law_792 : decode code 792 = .ok (.invokevirtual 95, 3) := by decide +kernel
theorem zd_LW_law_795 : decode code 795 = .ok (.aload_n 2, 1) := by decide +kernel
theorem zd_LW_law_796 : decode code 796 = .ok (.invokevirtual 98, 3) := by decide +kernel
theorem zd_LW_law_799 : decode code 799 = .ok (.if_icmp .eq 192, 3) := by decide +kernel
theorem zd_LW_law_802 : decode code 802 = .ok (.iconst 0, 1) := by decide +kernel
theorem zd_LW_law_803 : decode code 803 = .ok (.ireturn, 1) := by decide +kernel
theorem zd_LW_law_804 : decode code 804 = .ok (.aload_n 1, 1) := by decide +kernel
theorem zd_LW_law_805 : decode code 805 = .ok (.aload_n 0, 1) := by decide +kernel
theorem zd_LW_law_806 : decode code 806 = .ok (.iload 4, 2) := by decide +kernel
theorem zd_LW_law_808 : decode code 808 = .ok (.iconst 1, 1) := by decide +kernel
theorem zd_LW_law_809 : decode code 809 = .ok (.iadd, 1) := by decide +kernel
theorem zd_LW_law_810 : decode code 810 = .ok (.iaload, 1) := by decide +kernel
theorem zd_LW_law_811 : decode code 811 = .ok (.invokevirtual 99, 3) := by decide +kernel
theorem zd_LW_law_814 : decode code 814 = .ok (.aload_n 2, 1) := by decide +kernel
theorem zd_LW_law_815 : decode code 815 = .ok (.aload_n 0, 1) := by decide +kernel
theorem zd_LW_law_816 : decode code 816 = .ok (.iload 4, 2) := by decide +kernel
theorem zd_LW_law_818 : decode code 818 = .ok (.iconst 1, 1) := by decide +kernel
theorem zd_LW_law_819 : decode code 819 = .ok (.iadd, 1) := by decide +kernel
theorem zd_LW_law_820 : decode code 820 = .ok (.iaload, 1) := by decide +kernel
theorem zd_LW_law_821 : decode code 821 = .ok (.invokevirtual 102, 3) := by decide +kernel
theorem zd_LW_law_824 : decode code 824 = .ok (.if_icmp .eq 167, 3) := by decide +kernel
theorem zd_LW_law_827 : decode code 827 = .ok (.iconst 0, 1) := by decide +kernel
theorem zd_LW_law_828 : decode code 828 = .ok (.ireturn, 1) := by decide +kernel
theorem zd_LW_law_829 : decode code 829 = .ok (.aload_n 1, 1) := by decide +kernel
theorem zd_LW_law_830 : decode code 830 = .ok (.aload_n 0, 1) := by decide +kernel
theorem zd_LW_law_831 : decode code 831 = .ok (.iload 4, 2) := by decide +kernel
theorem zd_LW_law_833 : decode code 833 = .ok (.iconst 1, 1) := by decide +kernel
theorem zd_LW_law_834 : decode code 834 = .ok (.iadd, 1) := by decide +kernel
theorem zd_LW_law_835 : decode code 835 = .ok (.iaload, 1) := by decide +kernel
theorem zd_LW_law_836 : decode code 836 = .ok (.aload_n 0, 1) := by decide +kernel
theorem zd_LW_law_837 : decode code 837 = .ok (.iload 4, 2) := by decide +kernel
theorem zd_LW_law_839 : decode code 839 = .ok (.iconst 2, 1) := by decide +kernel
theorem zd_LW_law_840 : decode code 840 = .ok (.iadd, 1) := by decide +kernel
theorem zd_LW_law_841 : decode code 841 = .ok (.iaload, 1) := by decide +kernel
theorem zd_LW_law_842 : decode code 842 = .ok (.invokevirtual 103, 3) := by decide +kernel
theorem zd_LW_law_845 : decode code 845 = .ok (.aload_n 2, 1) := by decide +kernel
theorem zd_LW_law_846 : decode code 846 = .ok (.aload_n 0, 1) := by decide +kernel
theorem zd_LW_law_847 : decode code 847 = .ok (.iload 4, 2) := by decide +kernel
theorem zd_LW_law_849 : decode code 849 = .ok (.iconst 1, 1) := by decide +kernel
theorem zd_LW_law_850 : decode code 850 = .ok (.iadd, 1) := by decide +kernel
theorem zd_LW_law_851 : decode code 851 = .ok (.iaload, 1) := by decide +kernel
theorem zd_LW_law_852 : decode code 852 = .ok (.aload_n 0, 1) := by decide +kernel
theorem zd_LW_law_853 : decode code 853 = .ok (.iload 4, 2) := by decide +kernel
theorem zd_LW_law_855 : decode code 855 = .ok (.iconst 2, 1) := by decide +kernel
theorem zd_LW_law_856 : decode code 856 = .ok (.iadd, 1) := by decide +kernel
theorem zd_LW_law_857 : decode code 857 = .ok (.iaload, 1) := by decide +kernel
theorem zd_LW_law_858 : decode code 858 = .ok (.invokevirtual 107, 3) := by decide +kernel
theorem zd_LW_law_861 : decode code 861 = .ok (.if_icmp .eq 130, 3) := by decide +kernel
theorem zd_LW_law_864 : decode code 864 = .ok (.iconst 0, 1) := by decide +kernel
theorem zd_LW_law_865 : decode code 865 = .ok (.ireturn, 1) := by decide +kernel
theorem zd_LW_law_866 : decode code 866 = .ok (.aload_n 1, 1) := by decide +kernel
theorem zd_LW_law_867 : decode code 867 = .ok (.aload_n 0, 1) := by decide +kernel
theorem zd_LW_law_868 : decode code 868 = .ok (.iload 4, 2) := by decide +kernel
theorem zd_LW_law_870 : decode code 870 = .ok (.iconst 1, 1) := by decide +kernel
theorem zd_LW_law_871 : decode code 871 = .ok (.iadd, 1) := by decide +kernel
theorem zd_LW_law_872 : decode code 872 = .ok (.iaload, 1) := by decide +kernel
theorem zd_LW_law_873 : decode code 873 = .ok (.aload_n 0, 1) := by decide +kernel
theorem zd_LW_law_874 : decode code 874 = .ok (.iload 4, 2) := by decide +kernel
theorem zd_LW_law_876 : decode code 876 = .ok (.iconst 2, 1) := by decide +kernel
theorem zd_LW_law_877 : decode code 877 = .ok (.iadd, 1) := by decide +kernel
theorem zd_LW_law_878 : decode code 878 = .ok (.iaload, 1) := by decide +kernel
theorem zd_LW_law_879 : decode code 879 = .ok (.invokevirtual 108, 3) := by decide +kernel
theorem zd_LW_law_882 : decode code 882 = .ok (.aload_n 2, 1) := by decide +kernel
theorem zd_LW_law_883 : decode code 883 = .ok (.aload_n 0, 1) := by decide +kernel
theorem zd_LW_law_884 : decode code 884 = .ok (.iload 4, 2) := by decide +kernel
theorem zd_LW_law_886 : decode code 886 = .ok (.iconst 1, 1) := by decide +kernel
theorem zd_LW_law_887 : decode code 887 = .ok (.iadd, 1) := by decide +kernel
theorem zd_LW_law_888 : decode code 888 = .ok (.iaload, 1) := by decide +kernel
theorem zd_LW_law_889 : decode code 889 = .ok (.aload_n 0, 1) := by decide +kernel
theorem zd_LW_law_890 : decode code 890 = .ok (.iload 4, 2) := by decide +kernel
theorem zd_LW_law_892 : decode code 892 = .ok (.iconst 2, 1) := by decide +kernel
theorem zd_LW_law_893 : decode code 893 = .ok (.iadd, 1) := by decide +kernel
theorem zd_LW_law_894 : decode code 894 = .ok (.iaload, 1) := by decide +kernel
theorem zd_LW_law_895 : decode code 895 = .ok (.invokevirtual 111, 3) := by decide +kernel
theorem zd_LW_law_898 : decode code 898 = .ok (.if_icmp .eq 93, 3) := by decide +kernel
theorem zd_LW_law_901 : decode code 901 = .ok (.iconst 0, 1) := by decide +kernel
theorem zd_LW_law_902 : decode code 902 = .ok (.ireturn, 1) := by decide +kernel
theorem zd_LW_law_903 : decode code 903 = .ok (.aload_n 1, 1) := by decide +kernel
theorem zd_LW_law_904 : decode code 904 = .ok (.aload_n 0, 1) := by decide +kernel
theorem zd_LW_law_905 : decode code 905 = .ok (.iload 4, 2) := by decide +kernel
theorem zd_LW_law_907 : decode code 907 = .ok (.iconst 1, 1) := by decide +kernel
theorem zd_LW_law_908 : decode code 908 = .ok (.iadd, 1) := by decide +kernel
theorem zd_LW_law_909 : decode code 909 = .ok (.iaload, 1) := by decide +kernel
theorem zd_LW_law_910 : decode code 910 = .ok (.aload_n 0, 1) := by decide +kernel
theorem zd_LW_law_911 : decode code 911 = .ok (.iload 4, 2) := by decide +kernel
theorem zd_LW_law_913 : decode code 913 = .ok (.iconst 2, 1) := by decide +kernel
theorem zd_LW_law_914 : decode code 914 = .ok (.iadd, 1) := by decide +kernel
theorem zd_LW_law_915 : decode code 915 = .ok (.iaload, 1) := by decide +kernel
theorem zd_LW_law_916 : decode code 916 = .ok (.invokevirtual 112, 3) := by decide +kernel
theorem zd_LW_law_919 : decode code 919 = .ok (.aload_n 2, 1) := by decide +kernel
theorem zd_LW_law_920 : decode code 920 = .ok (.aload_n 0, 1) := by decide +kernel
theorem zd_LW_law_921 : decode code 921 = .ok (.iload 4, 2) := by decide +kernel
theorem zd_LW_law_923 : decode code 923 = .ok (.iconst 1, 1) := by decide +kernel
theorem zd_LW_law_924 : decode code 924 = .ok (.iadd, 1) := by decide +kernel
theorem zd_LW_law_925 : decode code 925 = .ok (.iaload, 1) := by decide +kernel
theorem zd_LW_law_926 : decode code 926 = .ok (.aload_n 0, 1) := by decide +kernel
theorem zd_LW_law_927 : decode code 927 = .ok (.iload 4, 2) := by decide +kernel
theorem zd_LW_law_929 : decode code 929 = .ok (.iconst 2, 1) := by decide +kernel
theorem zd_LW_law_930 : decode code 930 = .ok (.iadd, 1) := by decide +kernel
theorem zd_LW_law_931 : decode code 931 = .ok (.iaload, 1) := by decide +kernel
theorem zd_LW_law_932 : decode code 932 = .ok (.invokevirtual 115, 3) := by decide +kernel
theorem zd_LW_law_935 : decode code 935 = .ok (.if_icmp .eq 56, 3) := by decide +kernel
theorem zd_LW_law_938 : decode code 938 = .ok (.iconst 0, 1) := by decide +kernel
theorem zd_LW_law_939 : decode code 939 = .ok (.ireturn, 1) := by decide +kernel
theorem zd_LW_law_940 : decode code 940 = .ok (.aload_n 1, 1) := by decide +kernel
theorem zd_LW_law_941 : decode code 941 = .ok (.invokevirtual 116, 3) := by decide +kernel
theorem zd_LW_law_944 : decode code 944 = .ok (.aload_n 2, 1) := by decide +kernel
theorem zd_LW_law_945 : decode code 945 = .ok (.invokevirtual 119, 3) := by decide +kernel
theorem zd_LW_law_948 : decode code 948 = .ok (.if_icmp .eq 43, 3) := by decide +kernel
theorem zd_LW_law_951 : decode code 951 = .ok (.iconst 0, 1) := by decide +kernel
theorem zd_LW_law_952 : decode code 952 = .ok (.ireturn, 1) := by decide +kernel
theorem zd_LW_law_953 : decode code 953 = .ok (.aload_n 1, 1) := by decide +kernel
theorem zd_LW_law_954 : decode code 954 = .ok (.invokevirtual 120, 3) := by decide +kernel
theorem zd_LW_law_957 : decode code 957 = .ok (.aload_n 2, 1) := by decide +kernel
theorem zd_LW_law_958 : decode code 958 = .ok (.invokevirtual 123, 3) := by decide +kernel
theorem zd_LW_law_961 : decode code 961 = .ok (.if_icmp .eq 30, 3) := by decide +kernel
theorem zd_LW_law_964 : decode code 964 = .ok (.iconst 0, 1) := by decide +kernel
theorem zd_LW_law_965 : decode code 965 = .ok (.ireturn, 1) := by decide +kernel
theorem zd_LW_law_966 : decode code 966 = .ok (.aload_n 1, 1) := by decide +kernel
theorem zd_LW_law_967 : decode code 967 = .ok (.aload_n 0, 1) := by decide +kernel
theorem zd_LW_law_968 : decode code 968 = .ok (.iload 4, 2) := by decide +kernel
theorem zd_LW_law_970 : decode code 970 = .ok (.iconst 1, 1) := by decide +kernel
theorem zd_LW_law_971 : decode code 971 = .ok (.iadd, 1) := by decide +kernel
theorem zd_LW_law_972 : decode code 972 = .ok (.iaload, 1) := by decide +kernel
theorem zd_LW_law_973 : decode code 973 = .ok (.invokevirtual 124, 3) := by decide +kernel
theorem zd_LW_law_976 : decode code 976 = .ok (.aload_n 2, 1) := by decide +kernel
theorem zd_LW_law_977 : decode code 977 = .ok (.aload_n 0, 1) := by decide +kernel
theorem zd_LW_law_978 : decode code 978 = .ok (.iload 4, 2) := by decide +kernel
theorem zd_LW_law_980 : decode code 980 = .ok (.iconst 1, 1) := by decide +kernel
theorem zd_LW_law_981 : decode code 981 = .ok (.iadd, 1) := by decide +kernel
theorem zd_LW_law_982 : decode code 982 = .ok (.iaload, 1) := by decide +kernel
theorem zd_LW_law_983 : decode code 983 = .ok (.invokevirtual 127, 3) := by decide +kernel
theorem zd_LW_law_986 : decode code 986 = .ok (.if_icmp .eq 5, 3) := by decide +kernel
theorem zd_LW_law_989 : decode code 989 = .ok (.iconst 0, 1) := by decide +kernel
theorem zd_LW_law_990 : decode code 990 = .ok (.ireturn, 1) := by decide +kernel
theorem zd_LW_law_991 : decode code 991 = .ok (.iinc 4 6, 3) := by decide +kernel
theorem zd_LW_law_994 : decode code 994 = .ok (.goto (-951), 3) := by decide +kernel
theorem zd_LW_law_997 : decode code 997 = .ok (.iconst 1, 1) := by decide +kernel
theorem zd_LW_law_998 : decode code 998 = .ok (.ireturn, 1) := by decide +kernel
theorem zw_525 : (Jvm.Cond.methodLink "OrreryBoxLaw" (33 : Nat) ({ cls := "OrreryBox", name := "feed", desc := "(IIIII)Z" } : Jvm.MethodName)) ∈ gw := gw_t 525 (by decide +kernel) rfl
theorem zw_526 : (Jvm.Cond.instanceMethod ({ cls := "OrreryBox", name := "feed", desc := "(IIIII)Z" } : Jvm.MethodName)) ∈ gw := gw_t 526 (by decide +kernel) rfl
theorem zw_527 : (Jvm.Cond.selects "OrreryBox" ({ cls := "OrreryBox", name := "feed", desc := "(IIIII)Z" } : Jvm.MethodName) ({ cls := "OrreryBox", name := "feed", desc := "(IIIII)Z" } : Jvm.MethodName)) ∈ gw := gw_t 527 (by decide +kernel) rfl
theorem zs_LW_33 : zwV "OrreryBoxLaw" 33 "OrreryBox" zy_OB_feed zb_OB_feed 6 (some .boolean) := ⟨zw_525, zw_526, zw_527, zw_1, zc_OB_feed⟩
theorem zw_1745 : (Jvm.Cond.methodLink "OrreryBoxLaw" (37 : Nat) ({ cls := "OrreryBoxModel", name := "feed", desc := "(IIIII)Z" } : Jvm.MethodName)) ∈ gw := gw_t 1745 (by decide +kernel) rfl
theorem zw_1746 : (Jvm.Cond.instanceMethod ({ cls := "OrreryBoxModel", name := "feed", desc := "(IIIII)Z" } : Jvm.MethodName)) ∈ gw := gw_t 1746 (by decide +kernel) rfl
theorem zw_1747 : (Jvm.Cond.selects "OrreryBoxModel" ({ cls := "OrreryBoxModel", name := "feed", desc := "(IIIII)Z" } : Jvm.MethodName) ({ cls := "OrreryBoxModel", name := "feed", desc := "(IIIII)Z" } : Jvm.MethodName)) ∈ gw := gw_t 1747 (by decide +kernel) rfl
theorem zs_LW_37 : zwV "OrreryBoxLaw" 37 "OrreryBoxModel" zy_MD_feed zb_MD_feed 6 (some .boolean) := ⟨zw_1745, zw_1746, zw_1747, zw_13, zc_MD_feed⟩
def lawS0 (sh : zSh) (mm : zMem) (x1 x2 x3 x4 x5 : Int32) : Option zMem := zoS (sh 0) 0 (fun le2 => Option.bind (F_OB_feed sh mm 0 x1 x2 x3 x4 x5) (fun p3 => zoS (sh 1185) 1 (fun le5 => Option.bind (F_MD_feed sh (p3.2) 1185 x1 x2 x3 x4 x5) (fun p6 => (if p3.1 = p6.1 then some (p6.2) else none)))))
set_option maxHeartbeats 4000000 in
set_option maxRecDepth 100000 in
theorem lawk0 {p : Program} {l : Launch} {e : Env} {s : State} {m : MethodId} {below : List Frame} {meth : Method} {c : Code} {D : va_G} {tA : Nat → ClassId} {b bs L : Nat} {xs : Nat → Int32} {i x1 x2 x3 x4 x5 : Int32} {sh : zSh} {mm mq : zMem} {n cells slots : Nat} (F : zF p s m #[Value.ref bs] meth c code 7 "OrreryBoxLaw" D tA b) (hX : va_X bs L xs s s.heap) (hbl : bs < b) (hbs : s.heap.size ≤ b) (hr : meth.sig.returnType = ret) (hl : l.stackTraces = false) (hi1 : vp_in (i + 1) L) (hv1 : xs (i + 1).toNatClampNeg = x1) (hi2 : vp_in (i + 2) L) (hv2 : xs (i + 2).toNatClampNeg = x2) (hi3 : vp_in (i + 3) L) (hv3 : xs (i + 3).toNatClampNeg = x3) (hi4 : vp_in (i + 4) L) (hv4 : xs (i + 4).toNatClampNeg = x4) (hi5 : vp_in (i + 5) L) (hv5 : xs (i + 5).toNatClampNeg = x5) (hc1 : cells + 1 ≤ room_1.cells) (hs1 : slots + 6 ≤ room_1.slots) (h : lawS0 sh mm x1 x2 x3 x4 x5 = some mq) (kk : ∀ n1 : Nat, Z p l e room_1 s m #[Value.ref bs] below meth c D b 7 (lw_Z below #[Value.ref bs] s) (zW tA b sh mq) n1 cells slots 991 [(0, .ref bs), (1, .ref (b + 0)), (2, .ref (b + 1185)), (3, .ref (b + 1302)), (4, .int i)] []) : Z p l e room_1 s m #[Value.ref bs] below meth c D b 7 (lw_Z below #[Value.ref bs] s) (zW tA b sh mm) n cells slots 160 [(0, .ref bs), (1, .ref (b + 0)), (2, .ref (b + 1185)), (3, .ref (b + 1302)), (4, .int i)] [] := by
  unfold lawS0 at h
  refine zr_aload_n F zd_LW_law_160 rfl ?_
  refine zr_aload_n F zd_LW_law_161 rfl ?_
  refine zr_iload F zd_LW_law_162 rfl ?_
  refine zr_iconstv (v := 1) F zd_LW_law_164 (by decide) ?_
  refine zr_iadd F zd_LW_law_165 ?_
  refine zr_sld F hX hbl hi1 zd_LW_law_166 ?_
  refine zr_toi (v' := x1) hv1 ?_
  refine zr_aload_n F zd_LW_law_167 rfl ?_
  refine zr_pcn 168 rfl ?_
  refine zr_iload F zd_LW_law_168 rfl ?_
  refine zr_iconstv (v := 2) F zd_LW_law_170 (by decide) ?_
  refine zr_iadd F zd_LW_law_171 ?_
  refine zr_sld F hX hbl hi2 zd_LW_law_172 ?_
  refine zr_toi (v' := x2) hv2 ?_
  refine zr_aload_n F zd_LW_law_173 rfl ?_
  refine zr_iload F zd_LW_law_174 rfl ?_
  refine zr_iconstv (v := 3) F zd_LW_law_176 (by decide) ?_
  refine zr_iadd F zd_LW_law_177 ?_
  refine zr_sld F hX hbl hi3 zd_LW_law_178 ?_
  refine zr_toi (v' := x3) hv3 ?_
  refine zr_aload_n F zd_LW_law_179 rfl ?_
  refine zr_iload F zd_LW_law_180 rfl ?_
  refine zr_iconstv (v := 4) F zd_LW_law_182 (by decide) ?_
  refine zr_iadd F zd_LW_law_183 ?_
  refine zr_sld F hX hbl hi4 zd_LW_law_184 ?_
  refine zr_toi (v' := x4) hv4 ?_
  refine zr_aload_n F zd_LW_law_185 rfl ?_
  refine zr_iload F zd_LW_law_186 rfl ?_
  refine zr_pcn 188 rfl ?_
  refine zr_iconstv (v := 5) F zd_LW_law_188 (by decide) ?_
  refine zr_iadd F zd_LW_law_189 ?_
  refine zr_sld F hX hbl hi5 zd_LW_law_190 ?_
  refine zr_toi (v' := x5) hv5 ?_
  obtain ⟨le2, hs1, h⟩ := zoS_s h
  obtain ⟨p3, ep3, h⟩ := zoB_s h
  refine zr_callV1 F (k_OB_feed l D tA b sh _ ep3) zd_LW_law_191 (zW_o hs1 (by decide)) rfl zs_LW_33 rfl zq_OB_feed rfl rfl ⟨(Nat.le_of_ble_eq_true rfl), (Nat.le_of_ble_eq_true rfl)⟩ (Nat.le_of_ble_eq_true rfl) ⟨by omega, by omega⟩ ?_
  refine zr_aload_n F zd_LW_law_194 rfl ?_
  refine zr_aload_n F zd_LW_law_195 rfl ?_
  refine zr_iload F zd_LW_law_196 rfl ?_
  refine zr_iconstv (v := 1) F zd_LW_law_198 (by decide) ?_
  refine zr_pcn 199 rfl ?_
  refine zr_iadd F zd_LW_law_199 ?_
  refine zr_sld F hX hbl hi1 zd_LW_law_200 ?_
  refine zr_toi (v' := x1) hv1 ?_
  refine zr_aload_n F zd_LW_law_201 rfl ?_
  refine zr_iload F zd_LW_law_202 rfl ?_
  refine zr_iconstv (v := 2) F zd_LW_law_204 (by decide) ?_
  refine zr_iadd F zd_LW_law_205 ?_
  refine zr_sld F hX hbl hi2 zd_LW_law_206 ?_
  refine zr_toi (v' := x2) hv2 ?_
  refine zr_aload_n F zd_LW_law_207 rfl ?_
  refine zr_pcn 208 rfl ?_
  refine zr_iload F zd_LW_law_208 rfl ?_
  refine zr_iconstv (v := 3) F zd_LW_law_210 (by decide) ?_
  refine zr_iadd F zd_LW_law_211 ?_
  refine zr_sld F hX hbl hi3 zd_LW_law_212 ?_
  refine zr_toi (v' := x3) hv3 ?_
  refine zr_aload_n F zd_LW_law_213 rfl ?_
  refine zr_iload F zd_LW_law_214 rfl ?_
  refine zr_iconstv (v := 4) F zd_LW_law_216 (by decide) ?_
  refine zr_iadd F zd_LW_law_217 ?_
  refine zr_sld F hX hbl hi4 zd_LW_law_218 ?_
  refine zr_toi (v' := x4) hv4 ?_
  refine zr_aload_n F zd_LW_law_219 rfl ?_
  refine zr_iload F zd_LW_law_220 rfl ?_
  refine zr_iconstv (v := 5) F zd_LW_law_222 (by decide) ?_
  refine zr_iadd F zd_LW_law_223 ?_
  refine zr_sld F hX hbl hi5 zd_LW_law_224 ?_
  refine zr_toi (v' := x5) hv5 ?_
  obtain ⟨le5, hs4, h⟩ := zoS_s h
  obtain ⟨p6, ep6, h⟩ := zoB_s h
  refine zr_callV1 F (k_MD_feed l D tA b sh _ ep6) zd_LW_law_225 (zW_o hs4 (by decide)) rfl zs_LW_37 rfl zq_MD_feed rfl rfl ⟨(Nat.le_of_ble_eq_true rfl), (Nat.le_of_ble_eq_true rfl)⟩ (Nat.le_of_ble_eq_true rfl) ⟨by omega, by omega⟩ ?_
  refine zr_icmp_eq F 991 zd_LW_law_228 (by decide) (fun hb7 => ?_) (fun hb7 => ?_)
  ·
    rw [if_pos hb7] at h
    obtain rfl := Option.some.inj h
    refine zr_loc (L' := [(0, .ref bs), (1, .ref (b + 0)), (2, .ref (b + 1185)), (3, .ref (b + 1302)), (4, .int i)]) ⟨rfl, rfl, rfl, rfl, rfl, trivial⟩ ?_
    exact kk _
  ·
    rw [if_neg hb7] at h
    refine zr_iconstv (v := 0) F zd_LW_law_231 (by decide) ?_
    cases h
theorem zw_533 : (Jvm.Cond.methodLink "OrreryBoxLaw" (38 : Nat) ({ cls := "OrreryBox", name := "end", desc := "(I)Z" } : Jvm.MethodName)) ∈ gw := gw_t 533 (by decide +kernel) rfl
theorem zw_534 : (Jvm.Cond.instanceMethod ({ cls := "OrreryBox", name := "end", desc := "(I)Z" } : Jvm.MethodName)) ∈ gw := gw_t 534 (by decide +kernel) rfl
theorem zw_535 : (Jvm.Cond.selects "OrreryBox" ({ cls := "OrreryBox", name := "end", desc := "(I)Z" } : Jvm.MethodName) ({ cls := "OrreryBox", name := "end", desc := "(I)Z" } : Jvm.MethodName)) ∈ gw := gw_t 535 (by decide +kernel) rfl
theorem zs_LW_38 : zwV "OrreryBoxLaw" 38 "OrreryBox" zy_OB_end zb_OB_end 2 (some .boolean) := ⟨zw_533, zw_534, zw_535, zw_1, zc_OB_end⟩
theorem zw_1753 : (Jvm.Cond.methodLink "OrreryBoxLaw" (42 : Nat) ({ cls := "OrreryBoxModel", name := "end", desc := "(I)Z" } : Jvm.MethodName)) ∈ gw := gw_t 1753 (by decide +kernel) rfl
theorem zw_1754 : (Jvm.Cond.instanceMethod ({ cls := "OrreryBoxModel", name := "end", desc := "(I)Z" } : Jvm.MethodName)) ∈ gw := gw_t 1754 (by decide +kernel) rfl
theorem zw_1755 : (Jvm.Cond.selects "OrreryBoxModel" ({ cls := "OrreryBoxModel", name := "end", desc := "(I)Z" } : Jvm.MethodName) ({ cls := "OrreryBoxModel", name := "end", desc := "(I)Z" } : Jvm.MethodName)) ∈ gw := gw_t 1755 (by decide +kernel) rfl
theorem zs_LW_42 : zwV "OrreryBoxLaw" 42 "OrreryBoxModel" zy_MD_end zb_MD_end 2 (some .boolean) := ⟨zw_1753, zw_1754, zw_1755, zw_13, zc_MD_end⟩
def lawS1 (sh : zSh) (mm : zMem) (x1 x2 x3 x4 x5 : Int32) : Option zMem := zoS (sh 0) 0 (fun le2 => Option.bind (F_OB_end sh mm 0 x1) (fun p3 => zoS (sh 1185) 1 (fun le5 => Option.bind (F_MD_end sh (p3.2) 1185 x1) (fun p6 => (if p3.1 = p6.1 then some (p6.2) else none)))))
set_option maxHeartbeats 4000000 in
set_option maxRecDepth 100000 in
theorem lawk1 {p : Program} {l : Launch} {e : Env} {s : State} {m : MethodId} {below : List Frame} {meth : Method} {c : Code} {D : va_G} {tA : Nat → ClassId} {b bs L : Nat} {xs : Nat → Int32} {i x1 x2 x3 x4 x5 : Int32} {sh : zSh} {mm mq : zMem} {n cells slots : Nat} (F : zF p s m #[Value.ref bs] meth c code 7 "OrreryBoxLaw" D tA b) (hX : va_X bs L xs s s.heap) (hbl : bs < b) (hbs : s.heap.size ≤ b) (hr : meth.sig.returnType = ret) (hl : l.stackTraces = false) (hi1 : vp_in (i + 1) L) (hv1 : xs (i + 1).toNatClampNeg = x1) (hi2 : vp_in (i + 2) L) (hv2 : xs (i + 2).toNatClampNeg = x2) (hi3 : vp_in (i + 3) L) (hv3 : xs (i + 3).toNatClampNeg = x3) (hi4 : vp_in (i + 4) L) (hv4 : xs (i + 4).toNatClampNeg = x4) (hi5 : vp_in (i + 5) L) (hv5 : xs (i + 5).toNatClampNeg = x5) (hc1 : cells + 1 ≤ room_1.cells) (hs1 : slots + 6 ≤ room_1.slots) (h : lawS1 sh mm x1 x2 x3 x4 x5 = some mq) (kk : ∀ n1 : Nat, Z p l e room_1 s m #[Value.ref bs] below meth c D b 7 (lw_Z below #[Value.ref bs] s) (zW tA b sh mq) n1 cells slots 991 [(0, .ref bs), (1, .ref (b + 0)), (2, .ref (b + 1185)), (3, .ref (b + 1302)), (4, .int i)] []) : Z p l e room_1 s m #[Value.ref bs] below meth c D b 7 (lw_Z below #[Value.ref bs] s) (zW tA b sh mm) n cells slots 233 [(0, .ref bs), (1, .ref (b + 0)), (2, .ref (b + 1185)), (3, .ref (b + 1302)), (4, .int i)] [] := by
  unfold lawS1 at h
  refine zr_aload_n F zd_LW_law_233 rfl ?_
  refine zr_aload_n F zd_LW_law_234 rfl ?_
  refine zr_iload F zd_LW_law_235 rfl ?_
  refine zr_iconstv (v := 1) F zd_LW_law_237 (by decide) ?_
  refine zr_iadd F zd_LW_law_238 ?_
  refine zr_sld F hX hbl hi1 zd_LW_law_239 ?_
  refine zr_toi (v' := x1) hv1 ?_
  obtain ⟨le2, hs1, h⟩ := zoS_s h
  obtain ⟨p3, ep3, h⟩ := zoB_s h
  refine zr_callV1 F (k_OB_end l D tA b sh _ ep3) zd_LW_law_240 (zW_o hs1 (by decide)) rfl zs_LW_38 rfl zq_OB_end rfl rfl ⟨(Nat.le_of_ble_eq_true rfl), (Nat.le_of_ble_eq_true rfl)⟩ (Nat.le_of_ble_eq_true rfl) ⟨by omega, by omega⟩ ?_
  refine zr_pcn 243 rfl ?_
  refine zr_aload_n F zd_LW_law_243 rfl ?_
  refine zr_aload_n F zd_LW_law_244 rfl ?_
  refine zr_iload F zd_LW_law_245 rfl ?_
  refine zr_iconstv (v := 1) F zd_LW_law_247 (by decide) ?_
  refine zr_iadd F zd_LW_law_248 ?_
  refine zr_sld F hX hbl hi1 zd_LW_law_249 ?_
  refine zr_toi (v' := x1) hv1 ?_
  obtain ⟨le5, hs4, h⟩ := zoS_s h
  obtain ⟨p6, ep6, h⟩ := zoB_s h
  refine zr_callV1 F (k_MD_end l D tA b sh _ ep6) zd_LW_law_250 (zW_o hs4 (by decide)) rfl zs_LW_42 rfl zq_MD_end rfl rfl ⟨(Nat.le_of_ble_eq_true rfl), (Nat.le_of_ble_eq_true rfl)⟩ (Nat.le_of_ble_eq_true rfl) ⟨by omega, by omega⟩ ?_
  refine zr_icmp_eq F 991 zd_LW_law_253 (by decide) (fun hb7 => ?_) (fun hb7 => ?_)
  ·
    rw [if_pos hb7] at h
    obtain rfl := Option.some.inj h
    refine zr_loc (L' := [(0, .ref bs), (1, .ref (b + 0)), (2, .ref (b + 1185)), (3, .ref (b + 1302)), (4, .int i)]) ⟨rfl, rfl, rfl, rfl, rfl, trivial⟩ ?_
    exact kk _
  ·
    rw [if_neg hb7] at h
    refine zr_iconstv (v := 0) F zd_LW_law_256 (by decide) ?_
    cases h
theorem zw_1065 : (Jvm.Cond.methodLink "OrreryBoxLaw" (43 : Nat) ({ cls := "OrreryBoxLaw", name := "load", desc := "(LOrreryBox;[J)I" } : Jvm.MethodName)) ∈ gw := gw_t 1065 (by decide +kernel) rfl
theorem zw_1066 : (Jvm.Cond.static ({ cls := "OrreryBoxLaw", name := "load", desc := "(LOrreryBox;[J)I" } : Jvm.MethodName)) ∈ gw := gw_t 1066 (by decide +kernel) rfl
theorem zw_1757 : (Jvm.Cond.methodLink "OrreryBoxLaw" (46 : Nat) ({ cls := "OrreryBoxModel", name := "load", desc := "()I" } : Jvm.MethodName)) ∈ gw := gw_t 1757 (by decide +kernel) rfl
theorem zw_1758 : (Jvm.Cond.instanceMethod ({ cls := "OrreryBoxModel", name := "load", desc := "()I" } : Jvm.MethodName)) ∈ gw := gw_t 1758 (by decide +kernel) rfl
theorem zw_1759 : (Jvm.Cond.selects "OrreryBoxModel" ({ cls := "OrreryBoxModel", name := "load", desc := "()I" } : Jvm.MethodName) ({ cls := "OrreryBoxModel", name := "load", desc := "()I" } : Jvm.MethodName)) ∈ gw := gw_t 1759 (by decide +kernel) rfl
theorem zs_LW_46 : zwV "OrreryBoxLaw" 46 "OrreryBoxModel" zy_MD_load zb_MD_load 2 (some .int) := ⟨zw_1757, zw_1758, zw_1759, zw_13, zc_MD_load⟩
theorem zw_1741 : (Jvm.Cond.methodLink "OrreryBoxLaw" (47 : Nat) ({ cls := "OrreryBoxModel", name := "thrown", desc := "()I" } : Jvm.MethodName)) ∈ gw := gw_t 1741 (by decide +kernel) rfl
theorem zw_1742 : (Jvm.Cond.instanceMethod ({ cls := "OrreryBoxModel", name := "thrown", desc := "()I" } : Jvm.MethodName)) ∈ gw := gw_t 1742 (by decide +kernel) rfl
theorem zw_1743 : (Jvm.Cond.selects "OrreryBoxModel" ({ cls := "OrreryBoxModel", name := "thrown", desc := "()I" } : Jvm.MethodName) ({ cls := "OrreryBoxModel", name := "thrown", desc := "()I" } : Jvm.MethodName)) ∈ gw := gw_t 1743 (by decide +kernel) rfl
theorem zs_LW_47 : zwV "OrreryBoxLaw" 47 "OrreryBoxModel" zy_MD_thrown zb_MD_thrown 1 (some .int) := ⟨zw_1741, zw_1742, zw_1743, zw_13, zc_MD_thrown⟩
def lawS2 (sh : zSh) (mm : zMem) (x1 x2 x3 x4 x5 : Int32) : Option zMem := Option.bind (F_LW_load sh mm 0 1302) (fun p1 => zoS (sh 1185) 1 (fun le3 => Option.bind (F_MD_load sh (p1.2) 1185) (fun p4 => zoS (sh 1185) 1 (fun le6 => Option.bind (F_MD_thrown sh (p4.2) 1185) (fun p7 => (if p7.1 = p1.1 then (if p1.1 = 0 then zoS (sh 1302) 102 (fun le11 => if (0 : Int32) < 0 ∨ le11 ≤ (0 : Int32).toNatClampNeg then none else (if (lg_cmp ((p7.2).2.1 1302 (0 : Int32).toNatClampNeg) ((p4.1 : Int32).toInt64)) = 0 then some (p7.2) else none)) else some (p7.2)) else none))))))
set_option maxHeartbeats 4000000 in
set_option maxRecDepth 100000 in
theorem lawk2 {p : Program} {l : Launch} {e : Env} {s : State} {m : MethodId} {below : List Frame} {meth : Method} {c : Code} {D : va_G} {tA : Nat → ClassId} {b bs L : Nat} {xs : Nat → Int32} {i x1 x2 x3 x4 x5 : Int32} {sh : zSh} {mm mq : zMem} {n cells slots : Nat} (F : zF p s m #[Value.ref bs] meth c code 7 "OrreryBoxLaw" D tA b) (hX : va_X bs L xs s s.heap) (hbl : bs < b) (hbs : s.heap.size ≤ b) (hr : meth.sig.returnType = ret) (hl : l.stackTraces = false) (hi1 : vp_in (i + 1) L) (hv1 : xs (i + 1).toNatClampNeg = x1) (hi2 : vp_in (i + 2) L) (hv2 : xs (i + 2).toNatClampNeg = x2) (hi3 : vp_in (i + 3) L) (hv3 : xs (i + 3).toNatClampNeg = x3) (hi4 : vp_in (i + 4) L) (hv4 : xs (i + 4).toNatClampNeg = x4) (hi5 : vp_in (i + 5) L) (hv5 : xs (i + 5).toNatClampNeg = x5) (hc1 : cells + 1 ≤ room_1.cells) (hs1 : slots + 6 ≤ room_1.slots) (h : lawS2 sh mm x1 x2 x3 x4 x5 = some mq) (kk : ∀ n1 : Nat, Z p l e room_1 s m #[Value.ref bs] below meth c D b 7 (lw_Z below #[Value.ref bs] s) (zW tA b sh mq) n1 (cells + 1) (slots + 6) 991 [(0, .ref bs), (1, .ref (b + 0)), (2, .ref (b + 1185)), (3, .ref (b + 1302)), (4, .int i)] []) : Z p l e room_1 s m #[Value.ref bs] below meth c D b 7 (lw_Z below #[Value.ref bs] s) (zW tA b sh mm) n cells slots 258 [(0, .ref bs), (1, .ref (b + 0)), (2, .ref (b + 1185)), (3, .ref (b + 1302)), (4, .int i)] [] := by
  unfold lawS2 at h
  refine zr_aload_n F zd_LW_law_258 rfl ?_
  refine zr_aload_n F zd_LW_law_259 rfl ?_
  obtain ⟨p1, ep1, h⟩ := zoB_s h
  refine zr_callSW F (k_LW_load l D tA b sh _ hl ep1) zd_LW_law_260 zw_1065 zw_1066 zw_0 zc_LW_load zq_LW_load rfl rfl ⟨(Nat.le_of_ble_eq_true rfl), (Nat.le_of_ble_eq_true rfl)⟩ (Nat.le_of_ble_eq_true rfl) ⟨hc1, hs1⟩ (fun v1 f1 n1 hp => ?_)
  obtain ⟨rfl, rfl⟩ := hp
  refine zr_istore F zd_LW_law_263 (by decide) ?_
  refine zr_aload_n F zd_LW_law_265 rfl ?_
  obtain ⟨le3, hs2, h⟩ := zoS_s h
  obtain ⟨p4, ep4, h⟩ := zoB_s h
  refine zr_callV1 F (k_MD_load l D tA b sh _ ep4) zd_LW_law_266 (zW_o hs2 (by decide)) rfl zs_LW_46 rfl zq_MD_load rfl rfl ⟨(Nat.le_of_ble_eq_true rfl), (Nat.le_of_ble_eq_true rfl)⟩ (Nat.le_of_ble_eq_true rfl) ⟨by omega, by omega⟩ ?_
  refine zr_istore F zd_LW_law_269 (by decide) ?_
  refine zr_pcn 271 rfl ?_
  refine zr_aload_n F zd_LW_law_271 rfl ?_
  obtain ⟨le6, hs5, h⟩ := zoS_s h
  obtain ⟨p7, ep7, h⟩ := zoB_s h
  refine zr_callV1 F (k_MD_thrown l D tA b sh _ ep7) zd_LW_law_272 (zW_o hs5 (by decide)) rfl zs_LW_47 rfl zq_MD_thrown rfl rfl ⟨(Nat.le_of_ble_eq_true rfl), (Nat.le_of_ble_eq_true rfl)⟩ (Nat.le_of_ble_eq_true rfl) ⟨by omega, by omega⟩ ?_
  refine zr_iload F zd_LW_law_275 rfl ?_
  refine zr_icmp_eq F 282 zd_LW_law_277 (by decide) (fun hb8 => ?_) (fun hb8 => ?_)
  ·
    rw [if_pos hb8] at h
    refine zr_iload F zd_LW_law_282 rfl ?_
    refine zr_if_ne F 299 zd_LW_law_284 (by decide) (fun hb9 => ?_) (fun hb9 => ?_)
    ·
      rw [if_neg hb9] at h
      refine zr_goto F 991 zd_LW_law_299 (by decide) ?_
      obtain rfl := Option.some.inj h
      refine zr_loc (L' := [(0, .ref bs), (1, .ref (b + 0)), (2, .ref (b + 1185)), (3, .ref (b + 1302)), (4, .int i)]) ⟨rfl, rfl, rfl, rfl, rfl, trivial⟩ ?_
      exact kk _
    ·
      rw [if_pos hb9] at h
      refine zr_pcn 287 rfl ?_
      refine zr_aload_n F zd_LW_law_287 rfl ?_
      refine zr_iconstv (v := 0) F zd_LW_law_288 (by decide) ?_
      obtain ⟨le11, hs10, h⟩ := zoS_s h
      obtain ⟨hi12, h⟩ := zoI_s h
      refine zr_lald F zd_LW_law_289 (zW_a2 hs10) hi12 ?_
      refine zr_iload F zd_LW_law_290 rfl ?_
      refine zr_i2l F zd_LW_law_292 ?_
      refine zr_lcmp F zd_LW_law_293 ?_
      refine zr_if_eq F 299 zd_LW_law_294 (by decide) (fun hb13 => ?_) (fun hb13 => ?_)
      ·
        rw [if_pos hb13] at h
        refine zr_goto F 991 zd_LW_law_299 (by decide) ?_
        obtain rfl := Option.some.inj h
        refine zr_loc (L' := [(0, .ref bs), (1, .ref (b + 0)), (2, .ref (b + 1185)), (3, .ref (b + 1302)), (4, .int i)]) ⟨rfl, rfl, rfl, rfl, rfl, trivial⟩ ?_
        exact kk _
      ·
        rw [if_neg hb13] at h
        refine zr_iconstv (v := 0) F zd_LW_law_297 (by decide) ?_
        cases h
  ·
    rw [if_neg hb8] at h
    refine zr_iconstv (v := 0) F zd_LW_law_280 (by decide) ?_
    cases h
theorem zw_537 : (Jvm.Cond.methodLink "OrreryBoxLaw" (50 : Nat) ({ cls := "OrreryBox", name := "error", desc := "(I)I" } : Jvm.MethodName)) ∈ gw := gw_t 537 (by decide +kernel) rfl
theorem zw_538 : (Jvm.Cond.instanceMethod ({ cls := "OrreryBox", name := "error", desc := "(I)I" } : Jvm.MethodName)) ∈ gw := gw_t 538 (by decide +kernel) rfl
theorem zw_539 : (Jvm.Cond.selects "OrreryBox" ({ cls := "OrreryBox", name := "error", desc := "(I)I" } : Jvm.MethodName) ({ cls := "OrreryBox", name := "error", desc := "(I)I" } : Jvm.MethodName)) ∈ gw := gw_t 539 (by decide +kernel) rfl
theorem zs_LW_50 : zwV "OrreryBoxLaw" 50 "OrreryBox" zy_OB_error zb_OB_error 2 (some .int) := ⟨zw_537, zw_538, zw_539, zw_1, zc_OB_error⟩
theorem zw_1922 : (Jvm.Cond.methodLink "OrreryBoxLaw" (54 : Nat) ({ cls := "OrreryBoxModel", name := "error", desc := "(I)I" } : Jvm.MethodName)) ∈ gw := gw_t 1922 (by decide +kernel) rfl
theorem zw_1923 : (Jvm.Cond.instanceMethod ({ cls := "OrreryBoxModel", name := "error", desc := "(I)I" } : Jvm.MethodName)) ∈ gw := gw_t 1923 (by decide +kernel) rfl
theorem zw_1924 : (Jvm.Cond.selects "OrreryBoxModel" ({ cls := "OrreryBoxModel", name := "error", desc := "(I)I" } : Jvm.MethodName) ({ cls := "OrreryBoxModel", name := "error", desc := "(I)I" } : Jvm.MethodName)) ∈ gw := gw_t 1924 (by decide +kernel) rfl
theorem zs_LW_54 : zwV "OrreryBoxLaw" 54 "OrreryBoxModel" zy_MD_error zb_MD_error 2 (some .int) := ⟨zw_1922, zw_1923, zw_1924, zw_13, zc_MD_error⟩
def lawS3 (sh : zSh) (mm : zMem) (x1 x2 x3 x4 x5 : Int32) : Option zMem := zoS (sh 0) 0 (fun le2 => Option.bind (F_OB_error sh mm 0 x1) (fun p3 => zoS (sh 1185) 1 (fun le5 => Option.bind (F_MD_error sh (p3.2) 1185 x1) (fun p6 => (if p3.1 = p6.1 then some (p6.2) else none)))))
set_option maxHeartbeats 4000000 in
set_option maxRecDepth 100000 in
theorem lawk3 {p : Program} {l : Launch} {e : Env} {s : State} {m : MethodId} {below : List Frame} {meth : Method} {c : Code} {D : va_G} {tA : Nat → ClassId} {b bs L : Nat} {xs : Nat → Int32} {i x1 x2 x3 x4 x5 : Int32} {sh : zSh} {mm mq : zMem} {n cells slots : Nat} (F : zF p s m #[Value.ref bs] meth c code 7 "OrreryBoxLaw" D tA b) (hX : va_X bs L xs s s.heap) (hbl : bs < b) (hbs : s.heap.size ≤ b) (hr : meth.sig.returnType = ret) (hl : l.stackTraces = false) (hi1 : vp_in (i + 1) L) (hv1 : xs (i + 1).toNatClampNeg = x1) (hi2 : vp_in (i + 2) L) (hv2 : xs (i + 2).toNatClampNeg = x2) (hi3 : vp_in (i + 3) L) (hv3 : xs (i + 3).toNatClampNeg = x3) (hi4 : vp_in (i + 4) L) (hv4 : xs (i + 4).toNatClampNeg = x4) (hi5 : vp_in (i + 5) L) (hv5 : xs (i + 5).toNatClampNeg = x5) (hc1 : cells + 1 ≤ room_1.cells) (hs1 : slots + 6 ≤ room_1.slots) (h : lawS3 sh mm x1 x2 x3 x4 x5 = some mq) (kk : ∀ n1 : Nat, Z p l e room_1 s m #[Value.ref bs] below meth c D b 7 (lw_Z below #[Value.ref bs] s) (zW tA b sh mq) n1 cells slots 991 [(0, .ref bs), (1, .ref (b + 0)), (2, .ref (b + 1185)), (3, .ref (b + 1302)), (4, .int i)] []) : Z p l e room_1 s m #[Value.ref bs] below meth c D b 7 (lw_Z below #[Value.ref bs] s) (zW tA b sh mm) n cells slots 302 [(0, .ref bs), (1, .ref (b + 0)), (2, .ref (b + 1185)), (3, .ref (b + 1302)), (4, .int i)] [] := by
  unfold lawS3 at h
  refine zr_aload_n F zd_LW_law_302 rfl ?_
  refine zr_aload_n F zd_LW_law_303 rfl ?_
  refine zr_iload F zd_LW_law_304 rfl ?_
  refine zr_iconstv (v := 1) F zd_LW_law_306 (by decide) ?_
  refine zr_iadd F zd_LW_law_307 ?_
  refine zr_sld F hX hbl hi1 zd_LW_law_308 ?_
  refine zr_toi (v' := x1) hv1 ?_
  obtain ⟨le2, hs1, h⟩ := zoS_s h
  obtain ⟨p3, ep3, h⟩ := zoB_s h
  refine zr_callV1 F (k_OB_error l D tA b sh _ ep3) zd_LW_law_309 (zW_o hs1 (by decide)) rfl zs_LW_50 rfl zq_OB_error rfl rfl ⟨(Nat.le_of_ble_eq_true rfl), (Nat.le_of_ble_eq_true rfl)⟩ (Nat.le_of_ble_eq_true rfl) ⟨by omega, by omega⟩ ?_
  refine zr_pcn 312 rfl ?_
  refine zr_aload_n F zd_LW_law_312 rfl ?_
  refine zr_aload_n F zd_LW_law_313 rfl ?_
  refine zr_iload F zd_LW_law_314 rfl ?_
  refine zr_iconstv (v := 1) F zd_LW_law_316 (by decide) ?_
  refine zr_iadd F zd_LW_law_317 ?_
  refine zr_sld F hX hbl hi1 zd_LW_law_318 ?_
  refine zr_toi (v' := x1) hv1 ?_
  obtain ⟨le5, hs4, h⟩ := zoS_s h
  obtain ⟨p6, ep6, h⟩ := zoB_s h
  refine zr_callV1 F (k_MD_error l D tA b sh _ ep6) zd_LW_law_319 (zW_o hs4 (by decide)) rfl zs_LW_54 rfl zq_MD_error rfl rfl ⟨(Nat.le_of_ble_eq_true rfl), (Nat.le_of_ble_eq_true rfl)⟩ (Nat.le_of_ble_eq_true rfl) ⟨by omega, by omega⟩ ?_
  refine zr_icmp_eq F 991 zd_LW_law_322 (by decide) (fun hb7 => ?_) (fun hb7 => ?_)
  ·
    rw [if_pos hb7] at h
    obtain rfl := Option.some.inj h
    refine zr_loc (L' := [(0, .ref bs), (1, .ref (b + 0)), (2, .ref (b + 1185)), (3, .ref (b + 1302)), (4, .int i)]) ⟨rfl, rfl, rfl, rfl, rfl, trivial⟩ ?_
    exact kk _
  ·
    rw [if_neg hb7] at h
    refine zr_iconstv (v := 0) F zd_LW_law_325 (by decide) ?_
    cases h
theorem zw_541 : (Jvm.Cond.methodLink "OrreryBoxLaw" (55 : Nat) ({ cls := "OrreryBox", name := "count", desc := "(I)I" } : Jvm.MethodName)) ∈ gw := gw_t 541 (by decide +kernel) rfl
theorem zw_542 : (Jvm.Cond.instanceMethod ({ cls := "OrreryBox", name := "count", desc := "(I)I" } : Jvm.MethodName)) ∈ gw := gw_t 542 (by decide +kernel) rfl
theorem zw_543 : (Jvm.Cond.selects "OrreryBox" ({ cls := "OrreryBox", name := "count", desc := "(I)I" } : Jvm.MethodName) ({ cls := "OrreryBox", name := "count", desc := "(I)I" } : Jvm.MethodName)) ∈ gw := gw_t 543 (by decide +kernel) rfl
theorem zs_LW_55 : zwV "OrreryBoxLaw" 55 "OrreryBox" zy_OB_count zb_OB_count 2 (some .int) := ⟨zw_541, zw_542, zw_543, zw_1, zc_OB_count⟩
theorem zw_1926 : (Jvm.Cond.methodLink "OrreryBoxLaw" (58 : Nat) ({ cls := "OrreryBoxModel", name := "count", desc := "(I)I" } : Jvm.MethodName)) ∈ gw := gw_t 1926 (by decide +kernel) rfl
theorem zw_1927 : (Jvm.Cond.instanceMethod ({ cls := "OrreryBoxModel", name := "count", desc := "(I)I" } : Jvm.MethodName)) ∈ gw := gw_t 1927 (by decide +kernel) rfl
theorem zw_1928 : (Jvm.Cond.selects "OrreryBoxModel" ({ cls := "OrreryBoxModel", name := "count", desc := "(I)I" } : Jvm.MethodName) ({ cls := "OrreryBoxModel", name := "count", desc := "(I)I" } : Jvm.MethodName)) ∈ gw := gw_t 1928 (by decide +kernel) rfl
theorem zs_LW_58 : zwV "OrreryBoxLaw" 58 "OrreryBoxModel" zy_MD_count zb_MD_count 2 (some .int) := ⟨zw_1926, zw_1927, zw_1928, zw_13, zc_MD_count⟩
def lawS4 (sh : zSh) (mm : zMem) (x1 x2 x3 x4 x5 : Int32) : Option zMem := zoS (sh 0) 0 (fun le2 => Option.bind (F_OB_count sh mm 0 x1) (fun p3 => zoS (sh 1185) 1 (fun le5 => Option.bind (F_MD_count sh (p3.2) 1185 x1) (fun p6 => (if p3.1 = p6.1 then some (p6.2) else none)))))
set_option maxHeartbeats 4000000 in
set_option maxRecDepth 100000 in
theorem lawk4 {p : Program} {l : Launch} {e : Env} {s : State} {m : MethodId} {below : List Frame} {meth : Method} {c : Code} {D : va_G} {tA : Nat → ClassId} {b bs L : Nat} {xs : Nat → Int32} {i x1 x2 x3 x4 x5 : Int32} {sh : zSh} {mm mq : zMem} {n cells slots : Nat} (F : zF p s m #[Value.ref bs] meth c code 7 "OrreryBoxLaw" D tA b) (hX : va_X bs L xs s s.heap) (hbl : bs < b) (hbs : s.heap.size ≤ b) (hr : meth.sig.returnType = ret) (hl : l.stackTraces = false) (hi1 : vp_in (i + 1) L) (hv1 : xs (i + 1).toNatClampNeg = x1) (hi2 : vp_in (i + 2) L) (hv2 : xs (i + 2).toNatClampNeg = x2) (hi3 : vp_in (i + 3) L) (hv3 : xs (i + 3).toNatClampNeg = x3) (hi4 : vp_in (i + 4) L) (hv4 : xs (i + 4).toNatClampNeg = x4) (hi5 : vp_in (i + 5) L) (hv5 : xs (i + 5).toNatClampNeg = x5) (hc1 : cells + 1 ≤ room_1.cells) (hs1 : slots + 6 ≤ room_1.slots) (h : lawS4 sh mm x1 x2 x3 x4 x5 = some mq) (kk : ∀ n1 : Nat, Z p l e room_1 s m #[Value.ref bs] below meth c D b 7 (lw_Z below #[Value.ref bs] s) (zW tA b sh mq) n1 cells slots 991 [(0, .ref bs), (1, .ref (b + 0)), (2, .ref (b + 1185)), (3, .ref (b + 1302)), (4, .int i)] []) : Z p l e room_1 s m #[Value.ref bs] below meth c D b 7 (lw_Z below #[Value.ref bs] s) (zW tA b sh mm) n cells slots 327 [(0, .ref bs), (1, .ref (b + 0)), (2, .ref (b + 1185)), (3, .ref (b + 1302)), (4, .int i)] [] := by
  unfold lawS4 at h
  refine zr_aload_n F zd_LW_law_327 rfl ?_
  refine zr_aload_n F zd_LW_law_328 rfl ?_
  refine zr_iload F zd_LW_law_329 rfl ?_
  refine zr_iconstv (v := 1) F zd_LW_law_331 (by decide) ?_
  refine zr_iadd F zd_LW_law_332 ?_
  refine zr_sld F hX hbl hi1 zd_LW_law_333 ?_
  refine zr_toi (v' := x1) hv1 ?_
  obtain ⟨le2, hs1, h⟩ := zoS_s h
  obtain ⟨p3, ep3, h⟩ := zoB_s h
  refine zr_callV1 F (k_OB_count l D tA b sh _ ep3) zd_LW_law_334 (zW_o hs1 (by decide)) rfl zs_LW_55 rfl zq_OB_count rfl rfl ⟨(Nat.le_of_ble_eq_true rfl), (Nat.le_of_ble_eq_true rfl)⟩ (Nat.le_of_ble_eq_true rfl) ⟨by omega, by omega⟩ ?_
  refine zr_pcn 337 rfl ?_
  refine zr_aload_n F zd_LW_law_337 rfl ?_
  refine zr_aload_n F zd_LW_law_338 rfl ?_
  refine zr_iload F zd_LW_law_339 rfl ?_
  refine zr_iconstv (v := 1) F zd_LW_law_341 (by decide) ?_
  refine zr_iadd F zd_LW_law_342 ?_
  refine zr_sld F hX hbl hi1 zd_LW_law_343 ?_
  refine zr_toi (v' := x1) hv1 ?_
  obtain ⟨le5, hs4, h⟩ := zoS_s h
  obtain ⟨p6, ep6, h⟩ := zoB_s h
  refine zr_callV1 F (k_MD_count l D tA b sh _ ep6) zd_LW_law_344 (zW_o hs4 (by decide)) rfl zs_LW_58 rfl zq_MD_count rfl rfl ⟨(Nat.le_of_ble_eq_true rfl), (Nat.le_of_ble_eq_true rfl)⟩ (Nat.le_of_ble_eq_true rfl) ⟨by omega, by omega⟩ ?_
  refine zr_icmp_eq F 991 zd_LW_law_347 (by decide) (fun hb7 => ?_) (fun hb7 => ?_)
  ·
    rw [if_pos hb7] at h
    obtain rfl := Option.some.inj h
    refine zr_loc (L' := [(0, .ref bs), (1, .ref (b + 0)), (2, .ref (b + 1185)), (3, .ref (b + 1302)), (4, .int i)]) ⟨rfl, rfl, rfl, rfl, rfl, trivial⟩ ?_
    exact kk _
  ·
    rw [if_neg hb7] at h
    refine zr_iconstv (v := 0) F zd_LW_law_350 (by decide) ?_
    cases h
theorem zw_548 : (Jvm.Cond.methodLink "OrreryBoxLaw" (59 : Nat) ({ cls := "OrreryBox", name := "time", desc := "(I)Z" } : Jvm.MethodName)) ∈ gw := gw_t 548 (by decide +kernel) rfl
theorem zw_549 : (Jvm.Cond.instanceMethod ({ cls := "OrreryBox", name := "time", desc := "(I)Z" } : Jvm.MethodName)) ∈ gw := gw_t 549 (by decide +kernel) rfl
theorem zw_550 : (Jvm.Cond.selects "OrreryBox" ({ cls := "OrreryBox", name := "time", desc := "(I)Z" } : Jvm.MethodName) ({ cls := "OrreryBox", name := "time", desc := "(I)Z" } : Jvm.MethodName)) ∈ gw := gw_t 550 (by decide +kernel) rfl
theorem zs_LW_59 : zwV "OrreryBoxLaw" 59 "OrreryBox" zy_OB_time zb_OB_time 2 (some .boolean) := ⟨zw_548, zw_549, zw_550, zw_1, zc_OB_time⟩
theorem zw_1930 : (Jvm.Cond.methodLink "OrreryBoxLaw" (62 : Nat) ({ cls := "OrreryBoxModel", name := "time", desc := "(I)Z" } : Jvm.MethodName)) ∈ gw := gw_t 1930 (by decide +kernel) rfl
theorem zw_1931 : (Jvm.Cond.instanceMethod ({ cls := "OrreryBoxModel", name := "time", desc := "(I)Z" } : Jvm.MethodName)) ∈ gw := gw_t 1931 (by decide +kernel) rfl
theorem zw_1932 : (Jvm.Cond.selects "OrreryBoxModel" ({ cls := "OrreryBoxModel", name := "time", desc := "(I)Z" } : Jvm.MethodName) ({ cls := "OrreryBoxModel", name := "time", desc := "(I)Z" } : Jvm.MethodName)) ∈ gw := gw_t 1932 (by decide +kernel) rfl
theorem zs_LW_62 : zwV "OrreryBoxLaw" 62 "OrreryBoxModel" zy_MD_time zb_MD_time 3 (some .boolean) := ⟨zw_1930, zw_1931, zw_1932, zw_13, zc_MD_time⟩
def lawS5 (sh : zSh) (mm : zMem) (x1 x2 x3 x4 x5 : Int32) : Option zMem := zoS (sh 0) 0 (fun le2 => Option.bind (F_OB_time sh mm 0 x1) (fun p3 => zoS (sh 1185) 1 (fun le5 => Option.bind (F_MD_time sh (p3.2) 1185 x1) (fun p6 => (if p3.1 = p6.1 then some (p6.2) else none)))))
set_option maxHeartbeats 4000000 in
set_option maxRecDepth 100000 in
theorem lawk5 {p : Program} {l : Launch} {e : Env} {s : State} {m : MethodId} {below : List Frame} {meth : Method} {c : Code} {D : va_G} {tA : Nat → ClassId} {b bs L : Nat} {xs : Nat → Int32} {i x1 x2 x3 x4 x5 : Int32} {sh : zSh} {mm mq : zMem} {n cells slots : Nat} (F : zF p s m #[Value.ref bs] meth c code 7 "OrreryBoxLaw" D tA b) (hX : va_X bs L xs s s.heap) (hbl : bs < b) (hbs : s.heap.size ≤ b) (hr : meth.sig.returnType = ret) (hl : l.stackTraces = false) (hi1 : vp_in (i + 1) L) (hv1 : xs (i + 1).toNatClampNeg = x1) (hi2 : vp_in (i + 2) L) (hv2 : xs (i + 2).toNatClampNeg = x2) (hi3 : vp_in (i + 3) L) (hv3 : xs (i + 3).toNatClampNeg = x3) (hi4 : vp_in (i + 4) L) (hv4 : xs (i + 4).toNatClampNeg = x4) (hi5 : vp_in (i + 5) L) (hv5 : xs (i + 5).toNatClampNeg = x5) (hc1 : cells + 1 ≤ room_1.cells) (hs1 : slots + 6 ≤ room_1.slots) (h : lawS5 sh mm x1 x2 x3 x4 x5 = some mq) (kk : ∀ n1 : Nat, Z p l e room_1 s m #[Value.ref bs] below meth c D b 7 (lw_Z below #[Value.ref bs] s) (zW tA b sh mq) n1 cells slots 991 [(0, .ref bs), (1, .ref (b + 0)), (2, .ref (b + 1185)), (3, .ref (b + 1302)), (4, .int i)] []) : Z p l e room_1 s m #[Value.ref bs] below meth c D b 7 (lw_Z below #[Value.ref bs] s) (zW tA b sh mm) n cells slots 352 [(0, .ref bs), (1, .ref (b + 0)), (2, .ref (b + 1185)), (3, .ref (b + 1302)), (4, .int i)] [] := by
  unfold lawS5 at h
  refine zr_aload_n F zd_LW_law_352 rfl ?_
  refine zr_aload_n F zd_LW_law_353 rfl ?_
  refine zr_iload F zd_LW_law_354 rfl ?_
  refine zr_iconstv (v := 1) F zd_LW_law_356 (by decide) ?_
  refine zr_iadd F zd_LW_law_357 ?_
  refine zr_sld F hX hbl hi1 zd_LW_law_358 ?_
  refine zr_toi (v' := x1) hv1 ?_
  obtain ⟨le2, hs1, h⟩ := zoS_s h
  obtain ⟨p3, ep3, h⟩ := zoB_s h
  refine zr_callV1 F (k_OB_time l D tA b sh _ ep3) zd_LW_law_359 (zW_o hs1 (by decide)) rfl zs_LW_59 rfl zq_OB_time rfl rfl ⟨(Nat.le_of_ble_eq_true rfl), (Nat.le_of_ble_eq_true rfl)⟩ (Nat.le_of_ble_eq_true rfl) ⟨by omega, by omega⟩ ?_
  refine zr_pcn 362 rfl ?_
  refine zr_aload_n F zd_LW_law_362 rfl ?_
  refine zr_aload_n F zd_LW_law_363 rfl ?_
  refine zr_iload F zd_LW_law_364 rfl ?_
  refine zr_iconstv (v := 1) F zd_LW_law_366 (by decide) ?_
  refine zr_iadd F zd_LW_law_367 ?_
  refine zr_sld F hX hbl hi1 zd_LW_law_368 ?_
  refine zr_toi (v' := x1) hv1 ?_
  obtain ⟨le5, hs4, h⟩ := zoS_s h
  obtain ⟨p6, ep6, h⟩ := zoB_s h
  refine zr_callV1 F (k_MD_time l D tA b sh _ ep6) zd_LW_law_369 (zW_o hs4 (by decide)) rfl zs_LW_62 rfl zq_MD_time rfl rfl ⟨(Nat.le_of_ble_eq_true rfl), (Nat.le_of_ble_eq_true rfl)⟩ (Nat.le_of_ble_eq_true rfl) ⟨by omega, by omega⟩ ?_
  refine zr_icmp_eq F 991 zd_LW_law_372 (by decide) (fun hb7 => ?_) (fun hb7 => ?_)
  ·
    rw [if_pos hb7] at h
    obtain rfl := Option.some.inj h
    refine zr_loc (L' := [(0, .ref bs), (1, .ref (b + 0)), (2, .ref (b + 1185)), (3, .ref (b + 1302)), (4, .int i)]) ⟨rfl, rfl, rfl, rfl, rfl, trivial⟩ ?_
    exact kk _
  ·
    rw [if_neg hb7] at h
    refine zr_iconstv (v := 0) F zd_LW_law_375 (by decide) ?_
    cases h
theorem zw_582 : (Jvm.Cond.methodLink "OrreryBoxLaw" (63 : Nat) ({ cls := "OrreryBox", name := "set", desc := "(IIIII)Z" } : Jvm.MethodName)) ∈ gw := gw_t 582 (by decide +kernel) rfl
theorem zw_583 : (Jvm.Cond.instanceMethod ({ cls := "OrreryBox", name := "set", desc := "(IIIII)Z" } : Jvm.MethodName)) ∈ gw := gw_t 583 (by decide +kernel) rfl
theorem zw_584 : (Jvm.Cond.selects "OrreryBox" ({ cls := "OrreryBox", name := "set", desc := "(IIIII)Z" } : Jvm.MethodName) ({ cls := "OrreryBox", name := "set", desc := "(IIIII)Z" } : Jvm.MethodName)) ∈ gw := gw_t 584 (by decide +kernel) rfl
theorem zs_LW_63 : zwV "OrreryBoxLaw" 63 "OrreryBox" zy_OB_set zb_OB_set 7 (some .boolean) := ⟨zw_582, zw_583, zw_584, zw_1, zc_OB_set⟩
theorem zw_1956 : (Jvm.Cond.methodLink "OrreryBoxLaw" (66 : Nat) ({ cls := "OrreryBoxModel", name := "set", desc := "(IIIII)Z" } : Jvm.MethodName)) ∈ gw := gw_t 1956 (by decide +kernel) rfl
theorem zw_1957 : (Jvm.Cond.instanceMethod ({ cls := "OrreryBoxModel", name := "set", desc := "(IIIII)Z" } : Jvm.MethodName)) ∈ gw := gw_t 1957 (by decide +kernel) rfl
theorem zw_1958 : (Jvm.Cond.selects "OrreryBoxModel" ({ cls := "OrreryBoxModel", name := "set", desc := "(IIIII)Z" } : Jvm.MethodName) ({ cls := "OrreryBoxModel", name := "set", desc := "(IIIII)Z" } : Jvm.MethodName)) ∈ gw := gw_t 1958 (by decide +kernel) rfl
theorem zs_LW_66 : zwV "OrreryBoxLaw" 66 "OrreryBoxModel" zy_MD_set zb_MD_set 7 (some .boolean) := ⟨zw_1956, zw_1957, zw_1958, zw_13, zc_MD_set⟩
def lawS6 (sh : zSh) (mm : zMem) (x1 x2 x3 x4 x5 : Int32) : Option zMem := zoS (sh 0) 0 (fun le2 => Option.bind (F_OB_set sh mm 0 x1 x2 x3 x4 x5) (fun p3 => zoS (sh 1185) 1 (fun le5 => Option.bind (F_MD_set sh (p3.2) 1185 x1 x2 x3 x4 x5) (fun p6 => (if p3.1 = p6.1 then some (p6.2) else none)))))
set_option maxHeartbeats 4000000 in
set_option maxRecDepth 100000 in
theorem lawk6 {p : Program} {l : Launch} {e : Env} {s : State} {m : MethodId} {below : List Frame} {meth : Method} {c : Code} {D : va_G} {tA : Nat → ClassId} {b bs L : Nat} {xs : Nat → Int32} {i x1 x2 x3 x4 x5 : Int32} {sh : zSh} {mm mq : zMem} {n cells slots : Nat} (F : zF p s m #[Value.ref bs] meth c code 7 "OrreryBoxLaw" D tA b) (hX : va_X bs L xs s s.heap) (hbl : bs < b) (hbs : s.heap.size ≤ b) (hr : meth.sig.returnType = ret) (hl : l.stackTraces = false) (hi1 : vp_in (i + 1) L) (hv1 : xs (i + 1).toNatClampNeg = x1) (hi2 : vp_in (i + 2) L) (hv2 : xs (i + 2).toNatClampNeg = x2) (hi3 : vp_in (i + 3) L) (hv3 : xs (i + 3).toNatClampNeg = x3) (hi4 : vp_in (i + 4) L) (hv4 : xs (i + 4).toNatClampNeg = x4) (hi5 : vp_in (i + 5) L) (hv5 : xs (i + 5).toNatClampNeg = x5) (hc1 : cells + 1 ≤ room_1.cells) (hs1 : slots + 6 ≤ room_1.slots) (h : lawS6 sh mm x1 x2 x3 x4 x5 = some mq) (kk : ∀ n1 : Nat, Z p l e room_1 s m #[Value.ref bs] below meth c D b 7 (lw_Z below #[Value.ref bs] s) (zW tA b sh mq) n1 cells slots 991 [(0, .ref bs), (1, .ref (b + 0)), (2, .ref (b + 1185)), (3, .ref (b + 1302)), (4, .int i)] []) : Z p l e room_1 s m #[Value.ref bs] below meth c D b 7 (lw_Z below #[Value.ref bs] s) (zW tA b sh mm) n cells slots 377 [(0, .ref bs), (1, .ref (b + 0)), (2, .ref (b + 1185)), (3, .ref (b + 1302)), (4, .int i)] [] := by
  unfold lawS6 at h
  refine zr_aload_n F zd_LW_law_377 rfl ?_
  refine zr_aload_n F zd_LW_law_378 rfl ?_
  refine zr_iload F zd_LW_law_379 rfl ?_
  refine zr_iconstv (v := 1) F zd_LW_law_381 (by decide) ?_
  refine zr_iadd F zd_LW_law_382 ?_
  refine zr_sld F hX hbl hi1 zd_LW_law_383 ?_
  refine zr_toi (v' := x1) hv1 ?_
  refine zr_aload_n F zd_LW_law_384 rfl ?_
  refine zr_pcn 385 rfl ?_
  refine zr_iload F zd_LW_law_385 rfl ?_
  refine zr_iconstv (v := 2) F zd_LW_law_387 (by decide) ?_
  refine zr_iadd F zd_LW_law_388 ?_
  refine zr_sld F hX hbl hi2 zd_LW_law_389 ?_
  refine zr_toi (v' := x2) hv2 ?_
  refine zr_aload_n F zd_LW_law_390 rfl ?_
  refine zr_iload F zd_LW_law_391 rfl ?_
  refine zr_iconstv (v := 3) F zd_LW_law_393 (by decide) ?_
  refine zr_iadd F zd_LW_law_394 ?_
  refine zr_sld F hX hbl hi3 zd_LW_law_395 ?_
  refine zr_toi (v' := x3) hv3 ?_
  refine zr_aload_n F zd_LW_law_396 rfl ?_
  refine zr_iload F zd_LW_law_397 rfl ?_
  refine zr_iconstv (v := 4) F zd_LW_law_399 (by decide) ?_
  refine zr_iadd F zd_LW_law_400 ?_
  refine zr_sld F hX hbl hi4 zd_LW_law_401 ?_
  refine zr_toi (v' := x4) hv4 ?_
  refine zr_aload_n F zd_LW_law_402 rfl ?_
  refine zr_iload F zd_LW_law_403 rfl ?_
  refine zr_pcn 405 rfl ?_
  refine zr_iconstv (v := 5) F zd_LW_law_405 (by decide) ?_
  refine zr_iadd F zd_LW_law_406 ?_
  refine zr_sld F hX hbl hi5 zd_LW_law_407 ?_
  refine zr_toi (v' := x5) hv5 ?_
  obtain ⟨le2, hs1, h⟩ := zoS_s h
  obtain ⟨p3, ep3, h⟩ := zoB_s h
  refine zr_callV1 F (k_OB_set l D tA b sh _ ep3) zd_LW_law_408 (zW_o hs1 (by decide)) rfl zs_LW_63 rfl zq_OB_set rfl rfl ⟨(Nat.le_of_ble_eq_true rfl), (Nat.le_of_ble_eq_true rfl)⟩ (Nat.le_of_ble_eq_true rfl) ⟨by omega, by omega⟩ ?_
  refine zr_aload_n F zd_LW_law_411 rfl ?_
  refine zr_aload_n F zd_LW_law_412 rfl ?_
  refine zr_iload F zd_LW_law_413 rfl ?_
  refine zr_iconstv (v := 1) F zd_LW_law_415 (by decide) ?_
  refine zr_pcn 416 rfl ?_
  refine zr_iadd F zd_LW_law_416 ?_
  refine zr_sld F hX hbl hi1 zd_LW_law_417 ?_
  refine zr_toi (v' := x1) hv1 ?_
  refine zr_aload_n F zd_LW_law_418 rfl ?_
  refine zr_iload F zd_LW_law_419 rfl ?_
  refine zr_iconstv (v := 2) F zd_LW_law_421 (by decide) ?_
  refine zr_iadd F zd_LW_law_422 ?_
  refine zr_sld F hX hbl hi2 zd_LW_law_423 ?_
  refine zr_toi (v' := x2) hv2 ?_
  refine zr_aload_n F zd_LW_law_424 rfl ?_
  refine zr_pcn 425 rfl ?_
  refine zr_iload F zd_LW_law_425 rfl ?_
  refine zr_iconstv (v := 3) F zd_LW_law_427 (by decide) ?_
  refine zr_iadd F zd_LW_law_428 ?_
  refine zr_sld F hX hbl hi3 zd_LW_law_429 ?_
  refine zr_toi (v' := x3) hv3 ?_
  refine zr_aload_n F zd_LW_law_430 rfl ?_
  refine zr_iload F zd_LW_law_431 rfl ?_
  refine zr_iconstv (v := 4) F zd_LW_law_433 (by decide) ?_
  refine zr_iadd F zd_LW_law_434 ?_
  refine zr_sld F hX hbl hi4 zd_LW_law_435 ?_
  refine zr_toi (v' := x4) hv4 ?_
  refine zr_aload_n F zd_LW_law_436 rfl ?_
  refine zr_iload F zd_LW_law_437 rfl ?_
  refine zr_iconstv (v := 5) F zd_LW_law_439 (by decide) ?_
  refine zr_iadd F zd_LW_law_440 ?_
  refine zr_sld F hX hbl hi5 zd_LW_law_441 ?_
  refine zr_toi (v' := x5) hv5 ?_
  obtain ⟨le5, hs4, h⟩ := zoS_s h
  obtain ⟨p6, ep6, h⟩ := zoB_s h
  refine zr_callV1 F (k_MD_set l D tA b sh _ ep6) zd_LW_law_442 (zW_o hs4 (by decide)) rfl zs_LW_66 rfl zq_MD_set rfl rfl ⟨(Nat.le_of_ble_eq_true rfl), (Nat.le_of_ble_eq_true rfl)⟩ (Nat.le_of_ble_eq_true rfl) ⟨by omega, by omega⟩ ?_
  refine zr_icmp_eq F 991 zd_LW_law_445 (by decide) (fun hb7 => ?_) (fun hb7 => ?_)
  ·
    rw [if_pos hb7] at h
    obtain rfl := Option.some.inj h
    refine zr_loc (L' := [(0, .ref bs), (1, .ref (b + 0)), (2, .ref (b + 1185)), (3, .ref (b + 1302)), (4, .int i)]) ⟨rfl, rfl, rfl, rfl, rfl, trivial⟩ ?_
    exact kk _
  ·
    rw [if_neg hb7] at h
    refine zr_iconstv (v := 0) F zd_LW_law_448 (by decide) ?_
    cases h
theorem zw_598 : (Jvm.Cond.methodLink "OrreryBoxLaw" (67 : Nat) ({ cls := "OrreryBox", name := "hang", desc := "(II)Z" } : Jvm.MethodName)) ∈ gw := gw_t 598 (by decide +kernel) rfl
theorem zw_599 : (Jvm.Cond.instanceMethod ({ cls := "OrreryBox", name := "hang", desc := "(II)Z" } : Jvm.MethodName)) ∈ gw := gw_t 599 (by decide +kernel) rfl
theorem zw_600 : (Jvm.Cond.selects "OrreryBox" ({ cls := "OrreryBox", name := "hang", desc := "(II)Z" } : Jvm.MethodName) ({ cls := "OrreryBox", name := "hang", desc := "(II)Z" } : Jvm.MethodName)) ∈ gw := gw_t 600 (by decide +kernel) rfl
theorem zs_LW_67 : zwV "OrreryBoxLaw" 67 "OrreryBox" zy_OB_hang zb_OB_hang 3 (some .boolean) := ⟨zw_598, zw_599, zw_600, zw_1, zc_OB_hang⟩
theorem zw_1966 : (Jvm.Cond.methodLink "OrreryBoxLaw" (71 : Nat) ({ cls := "OrreryBoxModel", name := "hang", desc := "(II)Z" } : Jvm.MethodName)) ∈ gw := gw_t 1966 (by decide +kernel) rfl
theorem zw_1967 : (Jvm.Cond.instanceMethod ({ cls := "OrreryBoxModel", name := "hang", desc := "(II)Z" } : Jvm.MethodName)) ∈ gw := gw_t 1967 (by decide +kernel) rfl
theorem zw_1968 : (Jvm.Cond.selects "OrreryBoxModel" ({ cls := "OrreryBoxModel", name := "hang", desc := "(II)Z" } : Jvm.MethodName) ({ cls := "OrreryBoxModel", name := "hang", desc := "(II)Z" } : Jvm.MethodName)) ∈ gw := gw_t 1968 (by decide +kernel) rfl
theorem zs_LW_71 : zwV "OrreryBoxLaw" 71 "OrreryBoxModel" zy_MD_hang zb_MD_hang 3 (some .boolean) := ⟨zw_1966, zw_1967, zw_1968, zw_13, zc_MD_hang⟩
def lawS7 (sh : zSh) (mm : zMem) (x1 x2 x3 x4 x5 : Int32) : Option zMem := zoS (sh 0) 0 (fun le2 => Option.bind (F_OB_hang sh mm 0 x1 x2) (fun p3 => zoS (sh 1185) 1 (fun le5 => Option.bind (F_MD_hang sh (p3.2) 1185 x1 x2) (fun p6 => (if p3.1 = p6.1 then some (p6.2) else none)))))
set_option maxHeartbeats 4000000 in
set_option maxRecDepth 100000 in
theorem lawk7 {p : Program} {l : Launch} {e : Env} {s : State} {m : MethodId} {below : List Frame} {meth : Method} {c : Code} {D : va_G} {tA : Nat → ClassId} {b bs L : Nat} {xs : Nat → Int32} {i x1 x2 x3 x4 x5 : Int32} {sh : zSh} {mm mq : zMem} {n cells slots : Nat} (F : zF p s m #[Value.ref bs] meth c code 7 "OrreryBoxLaw" D tA b) (hX : va_X bs L xs s s.heap) (hbl : bs < b) (hbs : s.heap.size ≤ b) (hr : meth.sig.returnType = ret) (hl : l.stackTraces = false) (hi1 : vp_in (i + 1) L) (hv1 : xs (i + 1).toNatClampNeg = x1) (hi2 : vp_in (i + 2) L) (hv2 : xs (i + 2).toNatClampNeg = x2) (hi3 : vp_in (i + 3) L) (hv3 : xs (i + 3).toNatClampNeg = x3) (hi4 : vp_in (i + 4) L) (hv4 : xs (i + 4).toNatClampNeg = x4) (hi5 : vp_in (i + 5) L) (hv5 : xs (i + 5).toNatClampNeg = x5) (hc1 : cells + 1 ≤ room_1.cells) (hs1 : slots + 6 ≤ room_1.slots) (h : lawS7 sh mm x1 x2 x3 x4 x5 = some mq) (kk : ∀ n1 : Nat, Z p l e room_1 s m #[Value.ref bs] below meth c D b 7 (lw_Z below #[Value.ref bs] s) (zW tA b sh mq) n1 cells slots 991 [(0, .ref bs), (1, .ref (b + 0)), (2, .ref (b + 1185)), (3, .ref (b + 1302)), (4, .int i)] []) : Z p l e room_1 s m #[Value.ref bs] below meth c D b 7 (lw_Z below #[Value.ref bs] s) (zW tA b sh mm) n cells slots 450 [(0, .ref bs), (1, .ref (b + 0)), (2, .ref (b + 1185)), (3, .ref (b + 1302)), (4, .int i)] [] := by
  unfold lawS7 at h
  refine zr_aload_n F zd_LW_law_450 rfl ?_
  refine zr_aload_n F zd_LW_law_451 rfl ?_
  refine zr_iload F zd_LW_law_452 rfl ?_
  refine zr_iconstv (v := 1) F zd_LW_law_454 (by decide) ?_
  refine zr_iadd F zd_LW_law_455 ?_
  refine zr_sld F hX hbl hi1 zd_LW_law_456 ?_
  refine zr_toi (v' := x1) hv1 ?_
  refine zr_aload_n F zd_LW_law_457 rfl ?_
  refine zr_pcn 458 rfl ?_
  refine zr_iload F zd_LW_law_458 rfl ?_
  refine zr_iconstv (v := 2) F zd_LW_law_460 (by decide) ?_
  refine zr_iadd F zd_LW_law_461 ?_
  refine zr_sld F hX hbl hi2 zd_LW_law_462 ?_
  refine zr_toi (v' := x2) hv2 ?_
  obtain ⟨le2, hs1, h⟩ := zoS_s h
  obtain ⟨p3, ep3, h⟩ := zoB_s h
  refine zr_callV1 F (k_OB_hang l D tA b sh _ ep3) zd_LW_law_463 (zW_o hs1 (by decide)) rfl zs_LW_67 rfl zq_OB_hang rfl rfl ⟨(Nat.le_of_ble_eq_true rfl), (Nat.le_of_ble_eq_true rfl)⟩ (Nat.le_of_ble_eq_true rfl) ⟨by omega, by omega⟩ ?_
  refine zr_aload_n F zd_LW_law_466 rfl ?_
  refine zr_aload_n F zd_LW_law_467 rfl ?_
  refine zr_iload F zd_LW_law_468 rfl ?_
  refine zr_pcn 470 rfl ?_
  refine zr_iconstv (v := 1) F zd_LW_law_470 (by decide) ?_
  refine zr_iadd F zd_LW_law_471 ?_
  refine zr_sld F hX hbl hi1 zd_LW_law_472 ?_
  refine zr_toi (v' := x1) hv1 ?_
  refine zr_aload_n F zd_LW_law_473 rfl ?_
  refine zr_iload F zd_LW_law_474 rfl ?_
  refine zr_iconstv (v := 2) F zd_LW_law_476 (by decide) ?_
  refine zr_iadd F zd_LW_law_477 ?_
  refine zr_sld F hX hbl hi2 zd_LW_law_478 ?_
  refine zr_toi (v' := x2) hv2 ?_
  refine zr_pcn 479 rfl ?_
  obtain ⟨le5, hs4, h⟩ := zoS_s h
  obtain ⟨p6, ep6, h⟩ := zoB_s h
  refine zr_callV1 F (k_MD_hang l D tA b sh _ ep6) zd_LW_law_479 (zW_o hs4 (by decide)) rfl zs_LW_71 rfl zq_MD_hang rfl rfl ⟨(Nat.le_of_ble_eq_true rfl), (Nat.le_of_ble_eq_true rfl)⟩ (Nat.le_of_ble_eq_true rfl) ⟨by omega, by omega⟩ ?_
  refine zr_icmp_eq F 991 zd_LW_law_482 (by decide) (fun hb7 => ?_) (fun hb7 => ?_)
  ·
    rw [if_pos hb7] at h
    obtain rfl := Option.some.inj h
    refine zr_loc (L' := [(0, .ref bs), (1, .ref (b + 0)), (2, .ref (b + 1185)), (3, .ref (b + 1302)), (4, .int i)]) ⟨rfl, rfl, rfl, rfl, rfl, trivial⟩ ?_
    exact kk _
  ·
    rw [if_neg hb7] at h
    refine zr_iconstv (v := 0) F zd_LW_law_485 (by decide) ?_
    cases h
theorem zw_602 : (Jvm.Cond.methodLink "OrreryBoxLaw" (72 : Nat) ({ cls := "OrreryBox", name := "hide", desc := "(IZ)Z" } : Jvm.MethodName)) ∈ gw := gw_t 602 (by decide +kernel) rfl
theorem zw_603 : (Jvm.Cond.instanceMethod ({ cls := "OrreryBox", name := "hide", desc := "(IZ)Z" } : Jvm.MethodName)) ∈ gw := gw_t 603 (by decide +kernel) rfl
theorem zw_604 : (Jvm.Cond.selects "OrreryBox" ({ cls := "OrreryBox", name := "hide", desc := "(IZ)Z" } : Jvm.MethodName) ({ cls := "OrreryBox", name := "hide", desc := "(IZ)Z" } : Jvm.MethodName)) ∈ gw := gw_t 604 (by decide +kernel) rfl
theorem zs_LW_72 : zwV "OrreryBoxLaw" 72 "OrreryBox" zy_OB_hide zb_OB_hide 3 (some .boolean) := ⟨zw_602, zw_603, zw_604, zw_1, zc_OB_hide⟩
theorem zw_1970 : (Jvm.Cond.methodLink "OrreryBoxLaw" (76 : Nat) ({ cls := "OrreryBoxModel", name := "hide", desc := "(IZ)Z" } : Jvm.MethodName)) ∈ gw := gw_t 1970 (by decide +kernel) rfl
theorem zw_1971 : (Jvm.Cond.instanceMethod ({ cls := "OrreryBoxModel", name := "hide", desc := "(IZ)Z" } : Jvm.MethodName)) ∈ gw := gw_t 1971 (by decide +kernel) rfl
theorem zw_1972 : (Jvm.Cond.selects "OrreryBoxModel" ({ cls := "OrreryBoxModel", name := "hide", desc := "(IZ)Z" } : Jvm.MethodName) ({ cls := "OrreryBoxModel", name := "hide", desc := "(IZ)Z" } : Jvm.MethodName)) ∈ gw := gw_t 1972 (by decide +kernel) rfl
theorem zs_LW_76 : zwV "OrreryBoxLaw" 76 "OrreryBoxModel" zy_MD_hide zb_MD_hide 3 (some .boolean) := ⟨zw_1970, zw_1971, zw_1972, zw_13, zc_MD_hide⟩
def lawS8 (sh : zSh) (mm : zMem) (x1 x2 x3 x4 x5 : Int32) : Option zMem := (if x2 = 0 then zoS (sh 0) 0 (fun le3 => Option.bind (F_OB_hide sh mm 0 x1 0) (fun p4 => zoS (sh 1185) 1 (fun le6 => Option.bind (F_MD_hide sh (p4.2) 1185 x1 0) (fun p7 => (if p4.1 = p7.1 then some (p7.2) else none))))) else zoS (sh 0) 0 (fun le10 => Option.bind (F_OB_hide sh mm 0 x1 1) (fun p11 => zoS (sh 1185) 1 (fun le13 => Option.bind (F_MD_hide sh (p11.2) 1185 x1 1) (fun p14 => (if p11.1 = p14.1 then some (p14.2) else none))))))
set_option maxHeartbeats 4000000 in
set_option maxRecDepth 100000 in
theorem lawk8 {p : Program} {l : Launch} {e : Env} {s : State} {m : MethodId} {below : List Frame} {meth : Method} {c : Code} {D : va_G} {tA : Nat → ClassId} {b bs L : Nat} {xs : Nat → Int32} {i x1 x2 x3 x4 x5 : Int32} {sh : zSh} {mm mq : zMem} {n cells slots : Nat} (F : zF p s m #[Value.ref bs] meth c code 7 "OrreryBoxLaw" D tA b) (hX : va_X bs L xs s s.heap) (hbl : bs < b) (hbs : s.heap.size ≤ b) (hr : meth.sig.returnType = ret) (hl : l.stackTraces = false) (hi1 : vp_in (i + 1) L) (hv1 : xs (i + 1).toNatClampNeg = x1) (hi2 : vp_in (i + 2) L) (hv2 : xs (i + 2).toNatClampNeg = x2) (hi3 : vp_in (i + 3) L) (hv3 : xs (i + 3).toNatClampNeg = x3) (hi4 : vp_in (i + 4) L) (hv4 : xs (i + 4).toNatClampNeg = x4) (hi5 : vp_in (i + 5) L) (hv5 : xs (i + 5).toNatClampNeg = x5) (hc1 : cells + 1 ≤ room_1.cells) (hs1 : slots + 6 ≤ room_1.slots) (h : lawS8 sh mm x1 x2 x3 x4 x5 = some mq) (kk : ∀ n1 : Nat, Z p l e room_1 s m #[Value.ref bs] below meth c D b 7 (lw_Z below #[Value.ref bs] s) (zW tA b sh mq) n1 cells slots 991 [(0, .ref bs), (1, .ref (b + 0)), (2, .ref (b + 1185)), (3, .ref (b + 1302)), (4, .int i)] []) : Z p l e room_1 s m #[Value.ref bs] below meth c D b 7 (lw_Z below #[Value.ref bs] s) (zW tA b sh mm) n cells slots 487 [(0, .ref bs), (1, .ref (b + 0)), (2, .ref (b + 1185)), (3, .ref (b + 1302)), (4, .int i)] [] := by
  unfold lawS8 at h
  refine zr_aload_n F zd_LW_law_487 rfl ?_
  refine zr_aload_n F zd_LW_law_488 rfl ?_
  refine zr_iload F zd_LW_law_489 rfl ?_
  refine zr_iconstv (v := 1) F zd_LW_law_491 (by decide) ?_
  refine zr_iadd F zd_LW_law_492 ?_
  refine zr_sld F hX hbl hi1 zd_LW_law_493 ?_
  refine zr_toi (v' := x1) hv1 ?_
  refine zr_aload_n F zd_LW_law_494 rfl ?_
  refine zr_pcn 495 rfl ?_
  refine zr_iload F zd_LW_law_495 rfl ?_
  refine zr_iconstv (v := 2) F zd_LW_law_497 (by decide) ?_
  refine zr_iadd F zd_LW_law_498 ?_
  refine zr_sld F hX hbl hi2 zd_LW_law_499 ?_
  refine zr_toi (v' := x2) hv2 ?_
  refine zr_if_eq F 507 zd_LW_law_500 (by decide) (fun hb1 => ?_) (fun hb1 => ?_)
  ·
    rw [if_pos hb1] at h
    refine zr_iconstv (v := 0) F zd_LW_law_507 (by decide) ?_
    obtain ⟨le3, hs2, h⟩ := zoS_s h
    obtain ⟨p4, ep4, h⟩ := zoB_s h
    refine zr_callV1 F (k_OB_hide l D tA b sh _ ep4) zd_LW_law_508 (zW_o hs2 (by decide)) rfl zs_LW_72 rfl zq_OB_hide rfl rfl ⟨(Nat.le_of_ble_eq_true rfl), (Nat.le_of_ble_eq_true rfl)⟩ (Nat.le_of_ble_eq_true rfl) ⟨by omega, by omega⟩ ?_
    refine zr_aload_n F zd_LW_law_511 rfl ?_
    refine zr_aload_n F zd_LW_law_512 rfl ?_
    refine zr_iload F zd_LW_law_513 rfl ?_
    refine zr_iconstv (v := 1) F zd_LW_law_515 (by decide) ?_
    refine zr_iadd F zd_LW_law_516 ?_
    refine zr_sld F hX hbl hi1 zd_LW_law_517 ?_
    refine zr_toi (v' := x1) hv1 ?_
    refine zr_aload_n F zd_LW_law_518 rfl ?_
    refine zr_iload F zd_LW_law_519 rfl ?_
    refine zr_iconstv (v := 2) F zd_LW_law_521 (by decide) ?_
    refine zr_pcn 522 rfl ?_
    refine zr_iadd F zd_LW_law_522 ?_
    refine zr_sld F hX hbl hi2 zd_LW_law_523 ?_
    refine zr_toi (v' := x2) hv2 ?_
    refine zr_if_eq F 531 zd_LW_law_524 (by decide) (fun _ => ?_) (fun hq => absurd hb1 hq)
    refine zr_iconstv (v := 0) F zd_LW_law_531 (by decide) ?_
    obtain ⟨le6, hs5, h⟩ := zoS_s h
    obtain ⟨p7, ep7, h⟩ := zoB_s h
    refine zr_callV1 F (k_MD_hide l D tA b sh _ ep7) zd_LW_law_532 (zW_o hs5 (by decide)) rfl zs_LW_76 rfl zq_MD_hide rfl rfl ⟨(Nat.le_of_ble_eq_true rfl), (Nat.le_of_ble_eq_true rfl)⟩ (Nat.le_of_ble_eq_true rfl) ⟨by omega, by omega⟩ ?_
    refine zr_icmp_eq F 991 zd_LW_law_535 (by decide) (fun hb8 => ?_) (fun hb8 => ?_)
    ·
      rw [if_pos hb8] at h
      obtain rfl := Option.some.inj h
      refine zr_loc (L' := [(0, .ref bs), (1, .ref (b + 0)), (2, .ref (b + 1185)), (3, .ref (b + 1302)), (4, .int i)]) ⟨rfl, rfl, rfl, rfl, rfl, trivial⟩ ?_
      exact kk _
    ·
      rw [if_neg hb8] at h
      refine zr_iconstv (v := 0) F zd_LW_law_538 (by decide) ?_
      cases h
  ·
    rw [if_neg hb1] at h
    refine zr_iconstv (v := 1) F zd_LW_law_503 (by decide) ?_
    refine zr_goto F 508 zd_LW_law_504 (by decide) ?_
    obtain ⟨le10, hs9, h⟩ := zoS_s h
    obtain ⟨p11, ep11, h⟩ := zoB_s h
    refine zr_callV1 F (k_OB_hide l D tA b sh _ ep11) zd_LW_law_508 (zW_o hs9 (by decide)) rfl zs_LW_72 rfl zq_OB_hide rfl rfl ⟨(Nat.le_of_ble_eq_true rfl), (Nat.le_of_ble_eq_true rfl)⟩ (Nat.le_of_ble_eq_true rfl) ⟨by omega, by omega⟩ ?_
    refine zr_aload_n F zd_LW_law_511 rfl ?_
    refine zr_aload_n F zd_LW_law_512 rfl ?_
    refine zr_iload F zd_LW_law_513 rfl ?_
    refine zr_iconstv (v := 1) F zd_LW_law_515 (by decide) ?_
    refine zr_pcn 516 rfl ?_
    refine zr_iadd F zd_LW_law_516 ?_
    refine zr_sld F hX hbl hi1 zd_LW_law_517 ?_
    refine zr_toi (v' := x1) hv1 ?_
    refine zr_aload_n F zd_LW_law_518 rfl ?_
    refine zr_iload F zd_LW_law_519 rfl ?_
    refine zr_iconstv (v := 2) F zd_LW_law_521 (by decide) ?_
    refine zr_iadd F zd_LW_law_522 ?_
    refine zr_sld F hX hbl hi2 zd_LW_law_523 ?_
    refine zr_toi (v' := x2) hv2 ?_
    refine zr_if_eq F 531 zd_LW_law_524 (by decide) (fun hq => absurd hq hb1) (fun _ => ?_)
    refine zr_pcn 527 rfl ?_
    refine zr_iconstv (v := 1) F zd_LW_law_527 (by decide) ?_
    refine zr_goto F 532 zd_LW_law_528 (by decide) ?_
    obtain ⟨le13, hs12, h⟩ := zoS_s h
    obtain ⟨p14, ep14, h⟩ := zoB_s h
    refine zr_callV1 F (k_MD_hide l D tA b sh _ ep14) zd_LW_law_532 (zW_o hs12 (by decide)) rfl zs_LW_76 rfl zq_MD_hide rfl rfl ⟨(Nat.le_of_ble_eq_true rfl), (Nat.le_of_ble_eq_true rfl)⟩ (Nat.le_of_ble_eq_true rfl) ⟨by omega, by omega⟩ ?_
    refine zr_icmp_eq F 991 zd_LW_law_535 (by decide) (fun hb15 => ?_) (fun hb15 => ?_)
    ·
      rw [if_pos hb15] at h
      obtain rfl := Option.some.inj h
      refine zr_loc (L' := [(0, .ref bs), (1, .ref (b + 0)), (2, .ref (b + 1185)), (3, .ref (b + 1302)), (4, .int i)]) ⟨rfl, rfl, rfl, rfl, rfl, trivial⟩ ?_
      exact kk _
    ·
      rw [if_neg hb15] at h
      refine zr_iconstv (v := 0) F zd_LW_law_538 (by decide) ?_
      cases h
theorem zw_606 : (Jvm.Cond.methodLink "OrreryBoxLaw" (77 : Nat) ({ cls := "OrreryBox", name := "camera", desc := "(IIII)Z" } : Jvm.MethodName)) ∈ gw := gw_t 606 (by decide +kernel) rfl
theorem zw_607 : (Jvm.Cond.instanceMethod ({ cls := "OrreryBox", name := "camera", desc := "(IIII)Z" } : Jvm.MethodName)) ∈ gw := gw_t 607 (by decide +kernel) rfl
theorem zw_608 : (Jvm.Cond.selects "OrreryBox" ({ cls := "OrreryBox", name := "camera", desc := "(IIII)Z" } : Jvm.MethodName) ({ cls := "OrreryBox", name := "camera", desc := "(IIII)Z" } : Jvm.MethodName)) ∈ gw := gw_t 608 (by decide +kernel) rfl
theorem zs_LW_77 : zwV "OrreryBoxLaw" 77 "OrreryBox" zy_OB_camera zb_OB_camera 6 (some .boolean) := ⟨zw_606, zw_607, zw_608, zw_1, zc_OB_camera⟩
theorem zw_1974 : (Jvm.Cond.methodLink "OrreryBoxLaw" (81 : Nat) ({ cls := "OrreryBoxModel", name := "camera", desc := "(IIII)Z" } : Jvm.MethodName)) ∈ gw := gw_t 1974 (by decide +kernel) rfl
theorem zw_1975 : (Jvm.Cond.instanceMethod ({ cls := "OrreryBoxModel", name := "camera", desc := "(IIII)Z" } : Jvm.MethodName)) ∈ gw := gw_t 1975 (by decide +kernel) rfl
theorem zw_1976 : (Jvm.Cond.selects "OrreryBoxModel" ({ cls := "OrreryBoxModel", name := "camera", desc := "(IIII)Z" } : Jvm.MethodName) ({ cls := "OrreryBoxModel", name := "camera", desc := "(IIII)Z" } : Jvm.MethodName)) ∈ gw := gw_t 1976 (by decide +kernel) rfl
theorem zs_LW_81 : zwV "OrreryBoxLaw" 81 "OrreryBoxModel" zy_MD_camera zb_MD_camera 6 (some .boolean) := ⟨zw_1974, zw_1975, zw_1976, zw_13, zc_MD_camera⟩
def lawS9 (sh : zSh) (mm : zMem) (x1 x2 x3 x4 x5 : Int32) : Option zMem := zoS (sh 0) 0 (fun le2 => Option.bind (F_OB_camera sh mm 0 x1 x2 x3 x4) (fun p3 => zoS (sh 1185) 1 (fun le5 => Option.bind (F_MD_camera sh (p3.2) 1185 x1 x2 x3 x4) (fun p6 => (if p3.1 = p6.1 then some (p6.2) else none)))))
set_option maxHeartbeats 4000000 in
set_option maxRecDepth 100000 in
theorem lawk9 {p : Program} {l : Launch} {e : Env} {s : State} {m : MethodId} {below : List Frame} {meth : Method} {c : Code} {D : va_G} {tA : Nat → ClassId} {b bs L : Nat} {xs : Nat → Int32} {i x1 x2 x3 x4 x5 : Int32} {sh : zSh} {mm mq : zMem} {n cells slots : Nat} (F : zF p s m #[Value.ref bs] meth c code 7 "OrreryBoxLaw" D tA b) (hX : va_X bs L xs s s.heap) (hbl : bs < b) (hbs : s.heap.size ≤ b) (hr : meth.sig.returnType = ret) (hl : l.stackTraces = false) (hi1 : vp_in (i + 1) L) (hv1 : xs (i + 1).toNatClampNeg = x1) (hi2 : vp_in (i + 2) L) (hv2 : xs (i + 2).toNatClampNeg = x2) (hi3 : vp_in (i + 3) L) (hv3 : xs (i + 3).toNatClampNeg = x3) (hi4 : vp_in (i + 4) L) (hv4 : xs (i + 4).toNatClampNeg = x4) (hi5 : vp_in (i + 5) L) (hv5 : xs (i + 5).toNatClampNeg = x5) (hc1 : cells + 1 ≤ room_1.cells) (hs1 : slots + 6 ≤ room_1.slots) (h : lawS9 sh mm x1 x2 x3 x4 x5 = some mq) (kk : ∀ n1 : Nat, Z p l e room_1 s m #[Value.ref bs] below meth c D b 7 (lw_Z below #[Value.ref bs] s) (zW tA b sh mq) n1 cells slots 991 [(0, .ref bs), (1, .ref (b + 0)), (2, .ref (b + 1185)), (3, .ref (b + 1302)), (4, .int i)] []) : Z p l e room_1 s m #[Value.ref bs] below meth c D b 7 (lw_Z below #[Value.ref bs] s) (zW tA b sh mm) n cells slots 540 [(0, .ref bs), (1, .ref (b + 0)), (2, .ref (b + 1185)), (3, .ref (b + 1302)), (4, .int i)] [] := by
  unfold lawS9 at h
  refine zr_aload_n F zd_LW_law_540 rfl ?_
  refine zr_aload_n F zd_LW_law_541 rfl ?_
  refine zr_iload F zd_LW_law_542 rfl ?_
  refine zr_iconstv (v := 1) F zd_LW_law_544 (by decide) ?_
  refine zr_iadd F zd_LW_law_545 ?_
  refine zr_sld F hX hbl hi1 zd_LW_law_546 ?_
  refine zr_toi (v' := x1) hv1 ?_
  refine zr_aload_n F zd_LW_law_547 rfl ?_
  refine zr_pcn 548 rfl ?_
  refine zr_iload F zd_LW_law_548 rfl ?_
  refine zr_iconstv (v := 2) F zd_LW_law_550 (by decide) ?_
  refine zr_iadd F zd_LW_law_551 ?_
  refine zr_sld F hX hbl hi2 zd_LW_law_552 ?_
  refine zr_toi (v' := x2) hv2 ?_
  refine zr_aload_n F zd_LW_law_553 rfl ?_
  refine zr_iload F zd_LW_law_554 rfl ?_
  refine zr_iconstv (v := 3) F zd_LW_law_556 (by decide) ?_
  refine zr_iadd F zd_LW_law_557 ?_
  refine zr_sld F hX hbl hi3 zd_LW_law_558 ?_
  refine zr_toi (v' := x3) hv3 ?_
  refine zr_aload_n F zd_LW_law_559 rfl ?_
  refine zr_iload F zd_LW_law_560 rfl ?_
  refine zr_iconstv (v := 4) F zd_LW_law_562 (by decide) ?_
  refine zr_iadd F zd_LW_law_563 ?_
  refine zr_sld F hX hbl hi4 zd_LW_law_564 ?_
  refine zr_toi (v' := x4) hv4 ?_
  obtain ⟨le2, hs1, h⟩ := zoS_s h
  obtain ⟨p3, ep3, h⟩ := zoB_s h
  refine zr_callV1 F (k_OB_camera l D tA b sh _ ep3) zd_LW_law_565 (zW_o hs1 (by decide)) rfl zs_LW_77 rfl zq_OB_camera rfl rfl ⟨(Nat.le_of_ble_eq_true rfl), (Nat.le_of_ble_eq_true rfl)⟩ (Nat.le_of_ble_eq_true rfl) ⟨by omega, by omega⟩ ?_
  refine zr_aload_n F zd_LW_law_568 rfl ?_
  refine zr_aload_n F zd_LW_law_569 rfl ?_
  refine zr_iload F zd_LW_law_570 rfl ?_
  refine zr_iconstv (v := 1) F zd_LW_law_572 (by decide) ?_
  refine zr_iadd F zd_LW_law_573 ?_
  refine zr_sld F hX hbl hi1 zd_LW_law_574 ?_
  refine zr_toi (v' := x1) hv1 ?_
  refine zr_aload_n F zd_LW_law_575 rfl ?_
  refine zr_iload F zd_LW_law_576 rfl ?_
  refine zr_iconstv (v := 2) F zd_LW_law_578 (by decide) ?_
  refine zr_pcn 579 rfl ?_
  refine zr_iadd F zd_LW_law_579 ?_
  refine zr_sld F hX hbl hi2 zd_LW_law_580 ?_
  refine zr_toi (v' := x2) hv2 ?_
  refine zr_aload_n F zd_LW_law_581 rfl ?_
  refine zr_iload F zd_LW_law_582 rfl ?_
  refine zr_iconstv (v := 3) F zd_LW_law_584 (by decide) ?_
  refine zr_iadd F zd_LW_law_585 ?_
  refine zr_sld F hX hbl hi3 zd_LW_law_586 ?_
  refine zr_toi (v' := x3) hv3 ?_
  refine zr_aload_n F zd_LW_law_587 rfl ?_
  refine zr_pcn 588 rfl ?_
  refine zr_iload F zd_LW_law_588 rfl ?_
  refine zr_iconstv (v := 4) F zd_LW_law_590 (by decide) ?_
  refine zr_iadd F zd_LW_law_591 ?_
  refine zr_sld F hX hbl hi4 zd_LW_law_592 ?_
  refine zr_toi (v' := x4) hv4 ?_
  obtain ⟨le5, hs4, h⟩ := zoS_s h
  obtain ⟨p6, ep6, h⟩ := zoB_s h
  refine zr_callV1 F (k_MD_camera l D tA b sh _ ep6) zd_LW_law_593 (zW_o hs4 (by decide)) rfl zs_LW_81 rfl zq_MD_camera rfl rfl ⟨(Nat.le_of_ble_eq_true rfl), (Nat.le_of_ble_eq_true rfl)⟩ (Nat.le_of_ble_eq_true rfl) ⟨by omega, by omega⟩ ?_
  refine zr_icmp_eq F 991 zd_LW_law_596 (by decide) (fun hb7 => ?_) (fun hb7 => ?_)
  ·
    rw [if_pos hb7] at h
    obtain rfl := Option.some.inj h
    refine zr_loc (L' := [(0, .ref bs), (1, .ref (b + 0)), (2, .ref (b + 1185)), (3, .ref (b + 1302)), (4, .int i)]) ⟨rfl, rfl, rfl, rfl, rfl, trivial⟩ ?_
    exact kk _
  ·
    rw [if_neg hb7] at h
    refine zr_iconstv (v := 0) F zd_LW_law_599 (by decide) ?_
    cases h
theorem zw_610 : (Jvm.Cond.methodLink "OrreryBoxLaw" (82 : Nat) ({ cls := "OrreryBox", name := "light", desc := "(IIII)Z" } : Jvm.MethodName)) ∈ gw := gw_t 610 (by decide +kernel) rfl
theorem zw_611 : (Jvm.Cond.instanceMethod ({ cls := "OrreryBox", name := "light", desc := "(IIII)Z" } : Jvm.MethodName)) ∈ gw := gw_t 611 (by decide +kernel) rfl
theorem zw_612 : (Jvm.Cond.selects "OrreryBox" ({ cls := "OrreryBox", name := "light", desc := "(IIII)Z" } : Jvm.MethodName) ({ cls := "OrreryBox", name := "light", desc := "(IIII)Z" } : Jvm.MethodName)) ∈ gw := gw_t 612 (by decide +kernel) rfl
theorem zs_LW_82 : zwV "OrreryBoxLaw" 82 "OrreryBox" zy_OB_light zb_OB_light 5 (some .boolean) := ⟨zw_610, zw_611, zw_612, zw_1, zc_OB_light⟩
theorem zw_1978 : (Jvm.Cond.methodLink "OrreryBoxLaw" (85 : Nat) ({ cls := "OrreryBoxModel", name := "light", desc := "(IIII)Z" } : Jvm.MethodName)) ∈ gw := gw_t 1978 (by decide +kernel) rfl
theorem zw_1979 : (Jvm.Cond.instanceMethod ({ cls := "OrreryBoxModel", name := "light", desc := "(IIII)Z" } : Jvm.MethodName)) ∈ gw := gw_t 1979 (by decide +kernel) rfl
theorem zw_1980 : (Jvm.Cond.selects "OrreryBoxModel" ({ cls := "OrreryBoxModel", name := "light", desc := "(IIII)Z" } : Jvm.MethodName) ({ cls := "OrreryBoxModel", name := "light", desc := "(IIII)Z" } : Jvm.MethodName)) ∈ gw := gw_t 1980 (by decide +kernel) rfl
theorem zs_LW_85 : zwV "OrreryBoxLaw" 85 "OrreryBoxModel" zy_MD_light zb_MD_light 5 (some .boolean) := ⟨zw_1978, zw_1979, zw_1980, zw_13, zc_MD_light⟩
def lawS10 (sh : zSh) (mm : zMem) (x1 x2 x3 x4 x5 : Int32) : Option zMem := zoS (sh 0) 0 (fun le2 => Option.bind (F_OB_light sh mm 0 x1 x2 x3 x4) (fun p3 => zoS (sh 1185) 1 (fun le5 => Option.bind (F_MD_light sh (p3.2) 1185 x1 x2 x3 x4) (fun p6 => (if p3.1 = p6.1 then some (p6.2) else none)))))
set_option maxHeartbeats 4000000 in
set_option maxRecDepth 100000 in
theorem lawk10 {p : Program} {l : Launch} {e : Env} {s : State} {m : MethodId} {below : List Frame} {meth : Method} {c : Code} {D : va_G} {tA : Nat → ClassId} {b bs L : Nat} {xs : Nat → Int32} {i x1 x2 x3 x4 x5 : Int32} {sh : zSh} {mm mq : zMem} {n cells slots : Nat} (F : zF p s m #[Value.ref bs] meth c code 7 "OrreryBoxLaw" D tA b) (hX : va_X bs L xs s s.heap) (hbl : bs < b) (hbs : s.heap.size ≤ b) (hr : meth.sig.returnType = ret) (hl : l.stackTraces = false) (hi1 : vp_in (i + 1) L) (hv1 : xs (i + 1).toNatClampNeg = x1) (hi2 : vp_in (i + 2) L) (hv2 : xs (i + 2).toNatClampNeg = x2) (hi3 : vp_in (i + 3) L) (hv3 : xs (i + 3).toNatClampNeg = x3) (hi4 : vp_in (i + 4) L) (hv4 : xs (i + 4).toNatClampNeg = x4) (hi5 : vp_in (i + 5) L) (hv5 : xs (i + 5).toNatClampNeg = x5) (hc1 : cells + 1 ≤ room_1.cells) (hs1 : slots + 6 ≤ room_1.slots) (h : lawS10 sh mm x1 x2 x3 x4 x5 = some mq) (kk : ∀ n1 : Nat, Z p l e room_1 s m #[Value.ref bs] below meth c D b 7 (lw_Z below #[Value.ref bs] s) (zW tA b sh mq) n1 cells slots 991 [(0, .ref bs), (1, .ref (b + 0)), (2, .ref (b + 1185)), (3, .ref (b + 1302)), (4, .int i)] []) : Z p l e room_1 s m #[Value.ref bs] below meth c D b 7 (lw_Z below #[Value.ref bs] s) (zW tA b sh mm) n cells slots 601 [(0, .ref bs), (1, .ref (b + 0)), (2, .ref (b + 1185)), (3, .ref (b + 1302)), (4, .int i)] [] := by
  unfold lawS10 at h
  refine zr_aload_n F zd_LW_law_601 rfl ?_
  refine zr_aload_n F zd_LW_law_602 rfl ?_
  refine zr_iload F zd_LW_law_603 rfl ?_
  refine zr_iconstv (v := 1) F zd_LW_law_605 (by decide) ?_
  refine zr_iadd F zd_LW_law_606 ?_
  refine zr_sld F hX hbl hi1 zd_LW_law_607 ?_
  refine zr_toi (v' := x1) hv1 ?_
  refine zr_aload_n F zd_LW_law_608 rfl ?_
  refine zr_pcn 609 rfl ?_
  refine zr_iload F zd_LW_law_609 rfl ?_
  refine zr_iconstv (v := 2) F zd_LW_law_611 (by decide) ?_
  refine zr_iadd F zd_LW_law_612 ?_
  refine zr_sld F hX hbl hi2 zd_LW_law_613 ?_
  refine zr_toi (v' := x2) hv2 ?_
  refine zr_aload_n F zd_LW_law_614 rfl ?_
  refine zr_iload F zd_LW_law_615 rfl ?_
  refine zr_iconstv (v := 3) F zd_LW_law_617 (by decide) ?_
  refine zr_iadd F zd_LW_law_618 ?_
  refine zr_sld F hX hbl hi3 zd_LW_law_619 ?_
  refine zr_toi (v' := x3) hv3 ?_
  refine zr_aload_n F zd_LW_law_620 rfl ?_
  refine zr_iload F zd_LW_law_621 rfl ?_
  refine zr_iconstv (v := 4) F zd_LW_law_623 (by decide) ?_
  refine zr_iadd F zd_LW_law_624 ?_
  refine zr_sld F hX hbl hi4 zd_LW_law_625 ?_
  refine zr_toi (v' := x4) hv4 ?_
  obtain ⟨le2, hs1, h⟩ := zoS_s h
  obtain ⟨p3, ep3, h⟩ := zoB_s h
  refine zr_callV1 F (k_OB_light l D tA b sh _ ep3) zd_LW_law_626 (zW_o hs1 (by decide)) rfl zs_LW_82 rfl zq_OB_light rfl rfl ⟨(Nat.le_of_ble_eq_true rfl), (Nat.le_of_ble_eq_true rfl)⟩ (Nat.le_of_ble_eq_true rfl) ⟨by omega, by omega⟩ ?_
  refine zr_aload_n F zd_LW_law_629 rfl ?_
  refine zr_aload_n F zd_LW_law_630 rfl ?_
  refine zr_iload F zd_LW_law_631 rfl ?_
  refine zr_iconstv (v := 1) F zd_LW_law_633 (by decide) ?_
  refine zr_iadd F zd_LW_law_634 ?_
  refine zr_sld F hX hbl hi1 zd_LW_law_635 ?_
  refine zr_toi (v' := x1) hv1 ?_
  refine zr_aload_n F zd_LW_law_636 rfl ?_
  refine zr_iload F zd_LW_law_637 rfl ?_
  refine zr_iconstv (v := 2) F zd_LW_law_639 (by decide) ?_
  refine zr_pcn 640 rfl ?_
  refine zr_iadd F zd_LW_law_640 ?_
  refine zr_sld F hX hbl hi2 zd_LW_law_641 ?_
  refine zr_toi (v' := x2) hv2 ?_
  refine zr_aload_n F zd_LW_law_642 rfl ?_
  refine zr_iload F zd_LW_law_643 rfl ?_
  refine zr_iconstv (v := 3) F zd_LW_law_645 (by decide) ?_
  refine zr_iadd F zd_LW_law_646 ?_
  refine zr_sld F hX hbl hi3 zd_LW_law_647 ?_
  refine zr_toi (v' := x3) hv3 ?_
  refine zr_aload_n F zd_LW_law_648 rfl ?_
  refine zr_pcn 649 rfl ?_
  refine zr_iload F zd_LW_law_649 rfl ?_
  refine zr_iconstv (v := 4) F zd_LW_law_651 (by decide) ?_
  refine zr_iadd F zd_LW_law_652 ?_
  refine zr_sld F hX hbl hi4 zd_LW_law_653 ?_
  refine zr_toi (v' := x4) hv4 ?_
  obtain ⟨le5, hs4, h⟩ := zoS_s h
  obtain ⟨p6, ep6, h⟩ := zoB_s h
  refine zr_callV1 F (k_MD_light l D tA b sh _ ep6) zd_LW_law_654 (zW_o hs4 (by decide)) rfl zs_LW_85 rfl zq_MD_light rfl rfl ⟨(Nat.le_of_ble_eq_true rfl), (Nat.le_of_ble_eq_true rfl)⟩ (Nat.le_of_ble_eq_true rfl) ⟨by omega, by omega⟩ ?_
  refine zr_icmp_eq F 991 zd_LW_law_657 (by decide) (fun hb7 => ?_) (fun hb7 => ?_)
  ·
    rw [if_pos hb7] at h
    obtain rfl := Option.some.inj h
    refine zr_loc (L' := [(0, .ref bs), (1, .ref (b + 0)), (2, .ref (b + 1185)), (3, .ref (b + 1302)), (4, .int i)]) ⟨rfl, rfl, rfl, rfl, rfl, trivial⟩ ?_
    exact kk _
  ·
    rw [if_neg hb7] at h
    refine zr_iconstv (v := 0) F zd_LW_law_660 (by decide) ?_
    cases h
theorem zw_614 : (Jvm.Cond.methodLink "OrreryBoxLaw" (86 : Nat) ({ cls := "OrreryBox", name := "background", desc := "(III)Z" } : Jvm.MethodName)) ∈ gw := gw_t 614 (by decide +kernel) rfl
theorem zw_615 : (Jvm.Cond.instanceMethod ({ cls := "OrreryBox", name := "background", desc := "(III)Z" } : Jvm.MethodName)) ∈ gw := gw_t 615 (by decide +kernel) rfl
theorem zw_616 : (Jvm.Cond.selects "OrreryBox" ({ cls := "OrreryBox", name := "background", desc := "(III)Z" } : Jvm.MethodName) ({ cls := "OrreryBox", name := "background", desc := "(III)Z" } : Jvm.MethodName)) ∈ gw := gw_t 616 (by decide +kernel) rfl
theorem zs_LW_86 : zwV "OrreryBoxLaw" 86 "OrreryBox" zy_OB_background zb_OB_background 4 (some .boolean) := ⟨zw_614, zw_615, zw_616, zw_1, zc_OB_background⟩
theorem zw_1982 : (Jvm.Cond.methodLink "OrreryBoxLaw" (90 : Nat) ({ cls := "OrreryBoxModel", name := "background", desc := "(III)Z" } : Jvm.MethodName)) ∈ gw := gw_t 1982 (by decide +kernel) rfl
theorem zw_1983 : (Jvm.Cond.instanceMethod ({ cls := "OrreryBoxModel", name := "background", desc := "(III)Z" } : Jvm.MethodName)) ∈ gw := gw_t 1983 (by decide +kernel) rfl
theorem zw_1984 : (Jvm.Cond.selects "OrreryBoxModel" ({ cls := "OrreryBoxModel", name := "background", desc := "(III)Z" } : Jvm.MethodName) ({ cls := "OrreryBoxModel", name := "background", desc := "(III)Z" } : Jvm.MethodName)) ∈ gw := gw_t 1984 (by decide +kernel) rfl
theorem zs_LW_90 : zwV "OrreryBoxLaw" 90 "OrreryBoxModel" zy_MD_background zb_MD_background 4 (some .boolean) := ⟨zw_1982, zw_1983, zw_1984, zw_13, zc_MD_background⟩
def lawS11 (sh : zSh) (mm : zMem) (x1 x2 x3 x4 x5 : Int32) : Option zMem := zoS (sh 0) 0 (fun le2 => Option.bind (F_OB_background sh mm 0 x1 x2 x3) (fun p3 => zoS (sh 1185) 1 (fun le5 => Option.bind (F_MD_background sh (p3.2) 1185 x1 x2 x3) (fun p6 => (if p3.1 = p6.1 then some (p6.2) else none)))))
set_option maxHeartbeats 4000000 in
set_option maxRecDepth 100000 in
theorem lawk11 {p : Program} {l : Launch} {e : Env} {s : State} {m : MethodId} {below : List Frame} {meth : Method} {c : Code} {D : va_G} {tA : Nat → ClassId} {b bs L : Nat} {xs : Nat → Int32} {i x1 x2 x3 x4 x5 : Int32} {sh : zSh} {mm mq : zMem} {n cells slots : Nat} (F : zF p s m #[Value.ref bs] meth c code 7 "OrreryBoxLaw" D tA b) (hX : va_X bs L xs s s.heap) (hbl : bs < b) (hbs : s.heap.size ≤ b) (hr : meth.sig.returnType = ret) (hl : l.stackTraces = false) (hi1 : vp_in (i + 1) L) (hv1 : xs (i + 1).toNatClampNeg = x1) (hi2 : vp_in (i + 2) L) (hv2 : xs (i + 2).toNatClampNeg = x2) (hi3 : vp_in (i + 3) L) (hv3 : xs (i + 3).toNatClampNeg = x3) (hi4 : vp_in (i + 4) L) (hv4 : xs (i + 4).toNatClampNeg = x4) (hi5 : vp_in (i + 5) L) (hv5 : xs (i + 5).toNatClampNeg = x5) (hc1 : cells + 1 ≤ room_1.cells) (hs1 : slots + 6 ≤ room_1.slots) (h : lawS11 sh mm x1 x2 x3 x4 x5 = some mq) (kk : ∀ n1 : Nat, Z p l e room_1 s m #[Value.ref bs] below meth c D b 7 (lw_Z below #[Value.ref bs] s) (zW tA b sh mq) n1 cells slots 991 [(0, .ref bs), (1, .ref (b + 0)), (2, .ref (b + 1185)), (3, .ref (b + 1302)), (4, .int i)] []) : Z p l e room_1 s m #[Value.ref bs] below meth c D b 7 (lw_Z below #[Value.ref bs] s) (zW tA b sh mm) n cells slots 662 [(0, .ref bs), (1, .ref (b + 0)), (2, .ref (b + 1185)), (3, .ref (b + 1302)), (4, .int i)] [] := by
  unfold lawS11 at h
  refine zr_aload_n F zd_LW_law_662 rfl ?_
  refine zr_aload_n F zd_LW_law_663 rfl ?_
  refine zr_iload F zd_LW_law_664 rfl ?_
  refine zr_iconstv (v := 1) F zd_LW_law_666 (by decide) ?_
  refine zr_iadd F zd_LW_law_667 ?_
  refine zr_sld F hX hbl hi1 zd_LW_law_668 ?_
  refine zr_toi (v' := x1) hv1 ?_
  refine zr_aload_n F zd_LW_law_669 rfl ?_
  refine zr_pcn 670 rfl ?_
  refine zr_iload F zd_LW_law_670 rfl ?_
  refine zr_iconstv (v := 2) F zd_LW_law_672 (by decide) ?_
  refine zr_iadd F zd_LW_law_673 ?_
  refine zr_sld F hX hbl hi2 zd_LW_law_674 ?_
  refine zr_toi (v' := x2) hv2 ?_
  refine zr_aload_n F zd_LW_law_675 rfl ?_
  refine zr_iload F zd_LW_law_676 rfl ?_
  refine zr_iconstv (v := 3) F zd_LW_law_678 (by decide) ?_
  refine zr_iadd F zd_LW_law_679 ?_
  refine zr_sld F hX hbl hi3 zd_LW_law_680 ?_
  refine zr_toi (v' := x3) hv3 ?_
  obtain ⟨le2, hs1, h⟩ := zoS_s h
  obtain ⟨p3, ep3, h⟩ := zoB_s h
  refine zr_callV1 F (k_OB_background l D tA b sh _ ep3) zd_LW_law_681 (zW_o hs1 (by decide)) rfl zs_LW_86 rfl zq_OB_background rfl rfl ⟨(Nat.le_of_ble_eq_true rfl), (Nat.le_of_ble_eq_true rfl)⟩ (Nat.le_of_ble_eq_true rfl) ⟨by omega, by omega⟩ ?_
  refine zr_aload_n F zd_LW_law_684 rfl ?_
  refine zr_aload_n F zd_LW_law_685 rfl ?_
  refine zr_iload F zd_LW_law_686 rfl ?_
  refine zr_iconstv (v := 1) F zd_LW_law_688 (by decide) ?_
  refine zr_iadd F zd_LW_law_689 ?_
  refine zr_sld F hX hbl hi1 zd_LW_law_690 ?_
  refine zr_toi (v' := x1) hv1 ?_
  refine zr_aload_n F zd_LW_law_691 rfl ?_
  refine zr_iload F zd_LW_law_692 rfl ?_
  refine zr_iconstv (v := 2) F zd_LW_law_694 (by decide) ?_
  refine zr_iadd F zd_LW_law_695 ?_
  refine zr_sld F hX hbl hi2 zd_LW_law_696 ?_
  refine zr_toi (v' := x2) hv2 ?_
  refine zr_aload_n F zd_LW_law_697 rfl ?_
  refine zr_iload F zd_LW_law_698 rfl ?_
  refine zr_iconstv (v := 3) F zd_LW_law_700 (by decide) ?_
  refine zr_pcn 701 rfl ?_
  refine zr_iadd F zd_LW_law_701 ?_
  refine zr_sld F hX hbl hi3 zd_LW_law_702 ?_
  refine zr_toi (v' := x3) hv3 ?_
  obtain ⟨le5, hs4, h⟩ := zoS_s h
  obtain ⟨p6, ep6, h⟩ := zoB_s h
  refine zr_callV1 F (k_MD_background l D tA b sh _ ep6) zd_LW_law_703 (zW_o hs4 (by decide)) rfl zs_LW_90 rfl zq_MD_background rfl rfl ⟨(Nat.le_of_ble_eq_true rfl), (Nat.le_of_ble_eq_true rfl)⟩ (Nat.le_of_ble_eq_true rfl) ⟨by omega, by omega⟩ ?_
  refine zr_icmp_eq F 991 zd_LW_law_706 (by decide) (fun hb7 => ?_) (fun hb7 => ?_)
  ·
    rw [if_pos hb7] at h
    obtain rfl := Option.some.inj h
    refine zr_loc (L' := [(0, .ref bs), (1, .ref (b + 0)), (2, .ref (b + 1185)), (3, .ref (b + 1302)), (4, .int i)]) ⟨rfl, rfl, rfl, rfl, rfl, trivial⟩ ?_
    exact kk _
  ·
    rw [if_neg hb7] at h
    refine zr_iconstv (v := 0) F zd_LW_law_709 (by decide) ?_
    cases h
theorem zw_1279 : (Jvm.Cond.methodLink "OrreryBoxLaw" (91 : Nat) ({ cls := "OrreryBoxLaw", name := "world", desc := "(LOrreryBox;III[J)I" } : Jvm.MethodName)) ∈ gw := gw_t 1279 (by decide +kernel) rfl
theorem zw_1280 : (Jvm.Cond.static ({ cls := "OrreryBoxLaw", name := "world", desc := "(LOrreryBox;III[J)I" } : Jvm.MethodName)) ∈ gw := gw_t 1280 (by decide +kernel) rfl
theorem zw_1989 : (Jvm.Cond.methodLink "OrreryBoxLaw" (94 : Nat) ({ cls := "OrreryBoxModel", name := "world", desc := "(III)I" } : Jvm.MethodName)) ∈ gw := gw_t 1989 (by decide +kernel) rfl
theorem zw_1990 : (Jvm.Cond.instanceMethod ({ cls := "OrreryBoxModel", name := "world", desc := "(III)I" } : Jvm.MethodName)) ∈ gw := gw_t 1990 (by decide +kernel) rfl
theorem zw_1991 : (Jvm.Cond.selects "OrreryBoxModel" ({ cls := "OrreryBoxModel", name := "world", desc := "(III)I" } : Jvm.MethodName) ({ cls := "OrreryBoxModel", name := "world", desc := "(III)I" } : Jvm.MethodName)) ∈ gw := gw_t 1991 (by decide +kernel) rfl
theorem zs_LW_94 : zwV "OrreryBoxLaw" 94 "OrreryBoxModel" zy_MD_world zb_MD_world 4 (some .int) := ⟨zw_1989, zw_1990, zw_1991, zw_13, zc_MD_world⟩
def lawS12 (sh : zSh) (mm : zMem) (x1 x2 x3 x4 x5 : Int32) : Option zMem := Option.bind (F_LW_world sh mm 0 x1 x2 x3 1302) (fun p1 => zoS (sh 1185) 1 (fun le3 => Option.bind (F_MD_world sh (p1.2) 1185 x1 x2 x3) (fun p4 => zoS (sh 1185) 1 (fun le6 => Option.bind (F_MD_thrown sh (p4.2) 1185) (fun p7 => (if p7.1 = p1.1 then (if p1.1 = 0 then zoS (sh 1302) 102 (fun le11 => if (0 : Int32) < 0 ∨ le11 ≤ (0 : Int32).toNatClampNeg then none else (if (lg_cmp ((p7.2).2.1 1302 (0 : Int32).toNatClampNeg) ((p4.1 : Int32).toInt64)) = 0 then some (p7.2) else none)) else some (p7.2)) else none))))))
set_option maxHeartbeats 4000000 in
set_option maxRecDepth 100000 in
theorem lawk12 {p : Program} {l : Launch} {e : Env} {s : State} {m : MethodId} {below : List Frame} {meth : Method} {c : Code} {D : va_G} {tA : Nat → ClassId} {b bs L : Nat} {xs : Nat → Int32} {i x1 x2 x3 x4 x5 : Int32} {sh : zSh} {mm mq : zMem} {n cells slots : Nat} (F : zF p s m #[Value.ref bs] meth c code 7 "OrreryBoxLaw" D tA b) (hX : va_X bs L xs s s.heap) (hbl : bs < b) (hbs : s.heap.size ≤ b) (hr : meth.sig.returnType = ret) (hl : l.stackTraces = false) (hi1 : vp_in (i + 1) L) (hv1 : xs (i + 1).toNatClampNeg = x1) (hi2 : vp_in (i + 2) L) (hv2 : xs (i + 2).toNatClampNeg = x2) (hi3 : vp_in (i + 3) L) (hv3 : xs (i + 3).toNatClampNeg = x3) (hi4 : vp_in (i + 4) L) (hv4 : xs (i + 4).toNatClampNeg = x4) (hi5 : vp_in (i + 5) L) (hv5 : xs (i + 5).toNatClampNeg = x5) (hc1 : cells + 1 ≤ room_1.cells) (hs1 : slots + 6 ≤ room_1.slots) (h : lawS12 sh mm x1 x2 x3 x4 x5 = some mq) (kk : ∀ n1 : Nat, Z p l e room_1 s m #[Value.ref bs] below meth c D b 7 (lw_Z below #[Value.ref bs] s) (zW tA b sh mq) n1 (cells + 1) (slots + 6) 991 [(0, .ref bs), (1, .ref (b + 0)), (2, .ref (b + 1185)), (3, .ref (b + 1302)), (4, .int i)] []) : Z p l e room_1 s m #[Value.ref bs] below meth c D b 7 (lw_Z below #[Value.ref bs] s) (zW tA b sh mm) n cells slots 711 [(0, .ref bs), (1, .ref (b + 0)), (2, .ref (b + 1185)), (3, .ref (b + 1302)), (4, .int i)] [] := by
  unfold lawS12 at h
  refine zr_aload_n F zd_LW_law_711 rfl ?_
  refine zr_aload_n F zd_LW_law_712 rfl ?_
  refine zr_iload F zd_LW_law_713 rfl ?_
  refine zr_iconstv (v := 1) F zd_LW_law_715 (by decide) ?_
  refine zr_iadd F zd_LW_law_716 ?_
  refine zr_sld F hX hbl hi1 zd_LW_law_717 ?_
  refine zr_toi (v' := x1) hv1 ?_
  refine zr_aload_n F zd_LW_law_718 rfl ?_
  refine zr_pcn 719 rfl ?_
  refine zr_iload F zd_LW_law_719 rfl ?_
  refine zr_iconstv (v := 2) F zd_LW_law_721 (by decide) ?_
  refine zr_iadd F zd_LW_law_722 ?_
  refine zr_sld F hX hbl hi2 zd_LW_law_723 ?_
  refine zr_toi (v' := x2) hv2 ?_
  refine zr_aload_n F zd_LW_law_724 rfl ?_
  refine zr_iload F zd_LW_law_725 rfl ?_
  refine zr_iconstv (v := 3) F zd_LW_law_727 (by decide) ?_
  refine zr_iadd F zd_LW_law_728 ?_
  refine zr_sld F hX hbl hi3 zd_LW_law_729 ?_
  refine zr_toi (v' := x3) hv3 ?_
  refine zr_aload_n F zd_LW_law_730 rfl ?_
  obtain ⟨p1, ep1, h⟩ := zoB_s h
  refine zr_callSW F (k_LW_world l D tA b sh _ hl ep1) zd_LW_law_731 zw_1279 zw_1280 zw_0 zc_LW_world zq_LW_world rfl rfl ⟨(Nat.le_of_ble_eq_true rfl), (Nat.le_of_ble_eq_true rfl)⟩ (Nat.le_of_ble_eq_true rfl) ⟨hc1, hs1⟩ (fun v1 f1 n1 hp => ?_)
  obtain ⟨rfl, rfl⟩ := hp
  refine zr_istore F zd_LW_law_734 (by decide) ?_
  refine zr_aload_n F zd_LW_law_736 rfl ?_
  refine zr_aload_n F zd_LW_law_737 rfl ?_
  refine zr_iload F zd_LW_law_738 rfl ?_
  refine zr_iconstv (v := 1) F zd_LW_law_740 (by decide) ?_
  refine zr_pcn 741 rfl ?_
  refine zr_iadd F zd_LW_law_741 ?_
  refine zr_sld F hX hbl hi1 zd_LW_law_742 ?_
  refine zr_toi (v' := x1) hv1 ?_
  refine zr_aload_n F zd_LW_law_743 rfl ?_
  refine zr_iload F zd_LW_law_744 rfl ?_
  refine zr_iconstv (v := 2) F zd_LW_law_746 (by decide) ?_
  refine zr_iadd F zd_LW_law_747 ?_
  refine zr_sld F hX hbl hi2 zd_LW_law_748 ?_
  refine zr_toi (v' := x2) hv2 ?_
  refine zr_aload_n F zd_LW_law_749 rfl ?_
  refine zr_pcn 750 rfl ?_
  refine zr_iload F zd_LW_law_750 rfl ?_
  refine zr_iconstv (v := 3) F zd_LW_law_752 (by decide) ?_
  refine zr_iadd F zd_LW_law_753 ?_
  refine zr_sld F hX hbl hi3 zd_LW_law_754 ?_
  refine zr_toi (v' := x3) hv3 ?_
  obtain ⟨le3, hs2, h⟩ := zoS_s h
  obtain ⟨p4, ep4, h⟩ := zoB_s h
  refine zr_callV1 F (k_MD_world l D tA b sh _ ep4) zd_LW_law_755 (zW_o hs2 (by decide)) rfl zs_LW_94 rfl zq_MD_world rfl rfl ⟨(Nat.le_of_ble_eq_true rfl), (Nat.le_of_ble_eq_true rfl)⟩ (Nat.le_of_ble_eq_true rfl) ⟨by omega, by omega⟩ ?_
  refine zr_istore F zd_LW_law_758 (by decide) ?_
  refine zr_aload_n F zd_LW_law_760 rfl ?_
  obtain ⟨le6, hs5, h⟩ := zoS_s h
  obtain ⟨p7, ep7, h⟩ := zoB_s h
  refine zr_callV1 F (k_MD_thrown l D tA b sh _ ep7) zd_LW_law_761 (zW_o hs5 (by decide)) rfl zs_LW_47 rfl zq_MD_thrown rfl rfl ⟨(Nat.le_of_ble_eq_true rfl), (Nat.le_of_ble_eq_true rfl)⟩ (Nat.le_of_ble_eq_true rfl) ⟨by omega, by omega⟩ ?_
  refine zr_pcn 764 rfl ?_
  refine zr_iload F zd_LW_law_764 rfl ?_
  refine zr_icmp_eq F 771 zd_LW_law_766 (by decide) (fun hb8 => ?_) (fun hb8 => ?_)
  ·
    rw [if_pos hb8] at h
    refine zr_iload F zd_LW_law_771 rfl ?_
    refine zr_if_ne F 788 zd_LW_law_773 (by decide) (fun hb9 => ?_) (fun hb9 => ?_)
    ·
      rw [if_neg hb9] at h
      refine zr_goto F 991 zd_LW_law_788 (by decide) ?_
      obtain rfl := Option.some.inj h
      refine zr_loc (L' := [(0, .ref bs), (1, .ref (b + 0)), (2, .ref (b + 1185)), (3, .ref (b + 1302)), (4, .int i)]) ⟨rfl, rfl, rfl, rfl, rfl, trivial⟩ ?_
      exact kk _
    ·
      rw [if_pos hb9] at h
      refine zr_aload_n F zd_LW_law_776 rfl ?_
      refine zr_iconstv (v := 0) F zd_LW_law_777 (by decide) ?_
      refine zr_pcn 778 rfl ?_
      obtain ⟨le11, hs10, h⟩ := zoS_s h
      obtain ⟨hi12, h⟩ := zoI_s h
      refine zr_lald F zd_LW_law_778 (zW_a2 hs10) hi12 ?_
      refine zr_iload F zd_LW_law_779 rfl ?_
      refine zr_i2l F zd_LW_law_781 ?_
      refine zr_lcmp F zd_LW_law_782 ?_
      refine zr_if_eq F 788 zd_LW_law_783 (by decide) (fun hb13 => ?_) (fun hb13 => ?_)
      ·
        rw [if_pos hb13] at h
        refine zr_goto F 991 zd_LW_law_788 (by decide) ?_
        obtain rfl := Option.some.inj h
        refine zr_loc (L' := [(0, .ref bs), (1, .ref (b + 0)), (2, .ref (b + 1185)), (3, .ref (b + 1302)), (4, .int i)]) ⟨rfl, rfl, rfl, rfl, rfl, trivial⟩ ?_
        exact kk _
      ·
        rw [if_neg hb13] at h
        refine zr_iconstv (v := 0) F zd_LW_law_786 (by decide) ?_
        cases h
  ·
    rw [if_neg hb8] at h
    refine zr_iconstv (v := 0) F zd_LW_law_769 (by decide) ?_
    cases h
theorem zw_618 : (Jvm.Cond.methodLink "OrreryBoxLaw" (95 : Nat) ({ cls := "OrreryBox", name := "begin", desc := "()I" } : Jvm.MethodName)) ∈ gw := gw_t 618 (by decide +kernel) rfl
theorem zw_619 : (Jvm.Cond.instanceMethod ({ cls := "OrreryBox", name := "begin", desc := "()I" } : Jvm.MethodName)) ∈ gw := gw_t 619 (by decide +kernel) rfl
theorem zw_620 : (Jvm.Cond.selects "OrreryBox" ({ cls := "OrreryBox", name := "begin", desc := "()I" } : Jvm.MethodName) ({ cls := "OrreryBox", name := "begin", desc := "()I" } : Jvm.MethodName)) ∈ gw := gw_t 620 (by decide +kernel) rfl
theorem zs_LW_95 : zwV "OrreryBoxLaw" 95 "OrreryBox" zy_OB_begin zb_OB_begin 2 (some .int) := ⟨zw_618, zw_619, zw_620, zw_1, zc_OB_begin⟩
theorem zw_2039 : (Jvm.Cond.methodLink "OrreryBoxLaw" (98 : Nat) ({ cls := "OrreryBoxModel", name := "begin", desc := "()I" } : Jvm.MethodName)) ∈ gw := gw_t 2039 (by decide +kernel) rfl
theorem zw_2040 : (Jvm.Cond.instanceMethod ({ cls := "OrreryBoxModel", name := "begin", desc := "()I" } : Jvm.MethodName)) ∈ gw := gw_t 2040 (by decide +kernel) rfl
theorem zw_2041 : (Jvm.Cond.selects "OrreryBoxModel" ({ cls := "OrreryBoxModel", name := "begin", desc := "()I" } : Jvm.MethodName) ({ cls := "OrreryBoxModel", name := "begin", desc := "()I" } : Jvm.MethodName)) ∈ gw := gw_t 2041 (by decide +kernel) rfl
theorem zs_LW_98 : zwV "OrreryBoxLaw" 98 "OrreryBoxModel" zy_MD_begin zb_MD_begin 3 (some .int) := ⟨zw_2039, zw_2040, zw_2041, zw_13, zc_MD_begin⟩
def lawS13 (sh : zSh) (mm : zMem) (x1 x2 x3 x4 x5 : Int32) : Option zMem := zoS (sh 0) 0 (fun le2 => Option.bind (F_OB_begin sh mm 0) (fun p3 => zoS (sh 1185) 1 (fun le5 => Option.bind (F_MD_begin sh (p3.2) 1185) (fun p6 => (if p3.1 = p6.1 then some (p6.2) else none)))))
set_option maxHeartbeats 4000000 in
set_option maxRecDepth 100000 in
theorem lawk13 {p : Program} {l : Launch} {e : Env} {s : State} {m : MethodId} {below : List Frame} {meth : Method} {c : Code} {D : va_G} {tA : Nat → ClassId} {b bs L : Nat} {xs : Nat → Int32} {i x1 x2 x3 x4 x5 : Int32} {sh : zSh} {mm mq : zMem} {n cells slots : Nat} (F : zF p s m #[Value.ref bs] meth c code 7 "OrreryBoxLaw" D tA b) (hX : va_X bs L xs s s.heap) (hbl : bs < b) (hbs : s.heap.size ≤ b) (hr : meth.sig.returnType = ret) (hl : l.stackTraces = false) (hi1 : vp_in (i + 1) L) (hv1 : xs (i + 1).toNatClampNeg = x1) (hi2 : vp_in (i + 2) L) (hv2 : xs (i + 2).toNatClampNeg = x2) (hi3 : vp_in (i + 3) L) (hv3 : xs (i + 3).toNatClampNeg = x3) (hi4 : vp_in (i + 4) L) (hv4 : xs (i + 4).toNatClampNeg = x4) (hi5 : vp_in (i + 5) L) (hv5 : xs (i + 5).toNatClampNeg = x5) (hc1 : cells + 1 ≤ room_1.cells) (hs1 : slots + 6 ≤ room_1.slots) (h : lawS13 sh mm x1 x2 x3 x4 x5 = some mq) (kk : ∀ n1 : Nat, Z p l e room_1 s m #[Value.ref bs] below meth c D b 7 (lw_Z below #[Value.ref bs] s) (zW tA b sh mq) n1 cells slots 991 [(0, .ref bs), (1, .ref (b + 0)), (2, .ref (b + 1185)), (3, .ref (b + 1302)), (4, .int i)] []) : Z p l e room_1 s m #[Value.ref bs] below meth c D b 7 (lw_Z below #[Value.ref bs] s) (zW tA b sh mm) n cells slots 791 [(0, .ref bs), (1, .ref (b + 0)), (2, .ref (b + 1185)), (3, .ref (b + 1302)), (4, .int i)] [] := by
  unfold lawS13 at h
  refine zr_aload_n F zd_LW_law_791 rfl ?_
  obtain ⟨le2, hs1, h⟩ := zoS_s h
  obtain ⟨p3, ep3, h⟩ := zoB_s h
  refine zr_callV1 F (k_OB_begin l D tA b sh _ ep3) zd_LW_law_792 (zW_o hs1 (by decide)) rfl zs_LW_95 rfl zq_OB_begin rfl rfl ⟨(Nat.le_of_ble_eq_true rfl), (Nat.le_of_ble_eq_true rfl)⟩ (Nat.le_of_ble_eq_true rfl) ⟨by omega, by omega⟩ ?_
  refine zr_aload_n F zd_LW_law_795 rfl ?_
  obtain ⟨le5, hs4, h⟩ := zoS_s h
  obtain ⟨p6, ep6, h⟩ := zoB_s h
  refine zr_callV1 F (k_MD_begin l D tA b sh _ ep6) zd_LW_law_796 (zW_o hs4 (by decide)) rfl zs_LW_98 rfl zq_MD_begin rfl rfl ⟨(Nat.le_of_ble_eq_true rfl), (Nat.le_of_ble_eq_true rfl)⟩ (Nat.le_of_ble_eq_true rfl) ⟨by omega, by omega⟩ ?_
  refine zr_icmp_eq F 991 zd_LW_law_799 (by decide) (fun hb7 => ?_) (fun hb7 => ?_)
  ·
    rw [if_pos hb7] at h
    obtain rfl := Option.some.inj h
    refine zr_loc (L' := [(0, .ref bs), (1, .ref (b + 0)), (2, .ref (b + 1185)), (3, .ref (b + 1302)), (4, .int i)]) ⟨rfl, rfl, rfl, rfl, rfl, trivial⟩ ?_
    exact kk _
  ·
    rw [if_neg hb7] at h
    refine zr_iconstv (v := 0) F zd_LW_law_802 (by decide) ?_
    cases h
theorem zw_768 : (Jvm.Cond.methodLink "OrreryBoxLaw" (99 : Nat) ({ cls := "OrreryBox", name := "tile", desc := "(I)Z" } : Jvm.MethodName)) ∈ gw := gw_t 768 (by decide +kernel) rfl
theorem zw_769 : (Jvm.Cond.instanceMethod ({ cls := "OrreryBox", name := "tile", desc := "(I)Z" } : Jvm.MethodName)) ∈ gw := gw_t 769 (by decide +kernel) rfl
theorem zw_770 : (Jvm.Cond.selects "OrreryBox" ({ cls := "OrreryBox", name := "tile", desc := "(I)Z" } : Jvm.MethodName) ({ cls := "OrreryBox", name := "tile", desc := "(I)Z" } : Jvm.MethodName)) ∈ gw := gw_t 770 (by decide +kernel) rfl
theorem zs_LW_99 : zwV "OrreryBoxLaw" 99 "OrreryBox" zy_OB_tile zb_OB_tile 2 (some .boolean) := ⟨zw_768, zw_769, zw_770, zw_1, zc_OB_tile⟩
theorem zw_2051 : (Jvm.Cond.methodLink "OrreryBoxLaw" (102 : Nat) ({ cls := "OrreryBoxModel", name := "tile", desc := "(I)Z" } : Jvm.MethodName)) ∈ gw := gw_t 2051 (by decide +kernel) rfl
theorem zw_2052 : (Jvm.Cond.instanceMethod ({ cls := "OrreryBoxModel", name := "tile", desc := "(I)Z" } : Jvm.MethodName)) ∈ gw := gw_t 2052 (by decide +kernel) rfl
theorem zw_2053 : (Jvm.Cond.selects "OrreryBoxModel" ({ cls := "OrreryBoxModel", name := "tile", desc := "(I)Z" } : Jvm.MethodName) ({ cls := "OrreryBoxModel", name := "tile", desc := "(I)Z" } : Jvm.MethodName)) ∈ gw := gw_t 2053 (by decide +kernel) rfl
theorem zs_LW_102 : zwV "OrreryBoxLaw" 102 "OrreryBoxModel" zy_MD_tile zb_MD_tile 4 (some .boolean) := ⟨zw_2051, zw_2052, zw_2053, zw_13, zc_MD_tile⟩
def lawS14 (sh : zSh) (mm : zMem) (x1 x2 x3 x4 x5 : Int32) : Option zMem := zoS (sh 0) 0 (fun le2 => Option.bind (F_OB_tile sh mm 0 x1) (fun p3 => zoS (sh 1185) 1 (fun le5 => Option.bind (F_MD_tile sh (p3.2) 1185 x1) (fun p6 => (if p3.1 = p6.1 then some (p6.2) else none)))))
set_option maxHeartbeats 4000000 in
set_option maxRecDepth 100000 in
theorem lawk14 {p : Program} {l : Launch} {e : Env} {s : State} {m : MethodId} {below : List Frame} {meth : Method} {c : Code} {D : va_G} {tA : Nat → ClassId} {b bs L : Nat} {xs : Nat → Int32} {i x1 x2 x3 x4 x5 : Int32} {sh : zSh} {mm mq : zMem} {n cells slots : Nat} (F : zF p s m #[Value.ref bs] meth c code 7 "OrreryBoxLaw" D tA b) (hX : va_X bs L xs s s.heap) (hbl : bs < b) (hbs : s.heap.size ≤ b) (hr : meth.sig.returnType = ret) (hl : l.stackTraces = false) (hi1 : vp_in (i + 1) L) (hv1 : xs (i + 1).toNatClampNeg = x1) (hi2 : vp_in (i + 2) L) (hv2 : xs (i + 2).toNatClampNeg = x2) (hi3 : vp_in (i + 3) L) (hv3 : xs (i + 3).toNatClampNeg = x3) (hi4 : vp_in (i + 4) L) (hv4 : xs (i + 4).toNatClampNeg = x4) (hi5 : vp_in (i + 5) L) (hv5 : xs (i + 5).toNatClampNeg = x5) (hc1 : cells + 1 ≤ room_1.cells) (hs1 : slots + 6 ≤ room_1.slots) (h : lawS14 sh mm x1 x2 x3 x4 x5 = some mq) (kk : ∀ n1 : Nat, Z p l e room_1 s m #[Value.ref bs] below meth c D b 7 (lw_Z below #[Value.ref bs] s) (zW tA b sh mq) n1 cells slots 991 [(0, .ref bs), (1, .ref (b + 0)), (2, .ref (b + 1185)), (3, .ref (b + 1302)), (4, .int i)] []) : Z p l e room_1 s m #[Value.ref bs] below meth c D b 7 (lw_Z below #[Value.ref bs] s) (zW tA b sh mm) n cells slots 804 [(0, .ref bs), (1, .ref (b + 0)), (2, .ref (b + 1185)), (3, .ref (b + 1302)), (4, .int i)] [] := by
  unfold lawS14 at h
  refine zr_aload_n F zd_LW_law_804 rfl ?_
  refine zr_aload_n F zd_LW_law_805 rfl ?_
  refine zr_iload F zd_LW_law_806 rfl ?_
  refine zr_iconstv (v := 1) F zd_LW_law_808 (by decide) ?_
  refine zr_iadd F zd_LW_law_809 ?_
  refine zr_sld F hX hbl hi1 zd_LW_law_810 ?_
  refine zr_toi (v' := x1) hv1 ?_
  obtain ⟨le2, hs1, h⟩ := zoS_s h
  obtain ⟨p3, ep3, h⟩ := zoB_s h
  refine zr_callV1 F (k_OB_tile l D tA b sh _ ep3) zd_LW_law_811 (zW_o hs1 (by decide)) rfl zs_LW_99 rfl zq_OB_tile rfl rfl ⟨(Nat.le_of_ble_eq_true rfl), (Nat.le_of_ble_eq_true rfl)⟩ (Nat.le_of_ble_eq_true rfl) ⟨by omega, by omega⟩ ?_
  refine zr_pcn 814 rfl ?_
  refine zr_aload_n F zd_LW_law_814 rfl ?_
  refine zr_aload_n F zd_LW_law_815 rfl ?_
  refine zr_iload F zd_LW_law_816 rfl ?_
  refine zr_iconstv (v := 1) F zd_LW_law_818 (by decide) ?_
  refine zr_iadd F zd_LW_law_819 ?_
  refine zr_sld F hX hbl hi1 zd_LW_law_820 ?_
  refine zr_toi (v' := x1) hv1 ?_
  obtain ⟨le5, hs4, h⟩ := zoS_s h
  obtain ⟨p6, ep6, h⟩ := zoB_s h
  refine zr_callV1 F (k_MD_tile l D tA b sh _ ep6) zd_LW_law_821 (zW_o hs4 (by decide)) rfl zs_LW_102 rfl zq_MD_tile rfl rfl ⟨(Nat.le_of_ble_eq_true rfl), (Nat.le_of_ble_eq_true rfl)⟩ (Nat.le_of_ble_eq_true rfl) ⟨by omega, by omega⟩ ?_
  refine zr_icmp_eq F 991 zd_LW_law_824 (by decide) (fun hb7 => ?_) (fun hb7 => ?_)
  ·
    rw [if_pos hb7] at h
    obtain rfl := Option.some.inj h
    refine zr_loc (L' := [(0, .ref bs), (1, .ref (b + 0)), (2, .ref (b + 1185)), (3, .ref (b + 1302)), (4, .int i)]) ⟨rfl, rfl, rfl, rfl, rfl, trivial⟩ ?_
    exact kk _
  ·
    rw [if_neg hb7] at h
    refine zr_iconstv (v := 0) F zd_LW_law_827 (by decide) ?_
    cases h
theorem zw_860 : (Jvm.Cond.methodLink "OrreryBoxLaw" (103 : Nat) ({ cls := "OrreryBox", name := "pixel", desc := "(II)I" } : Jvm.MethodName)) ∈ gw := gw_t 860 (by decide +kernel) rfl
theorem zw_861 : (Jvm.Cond.instanceMethod ({ cls := "OrreryBox", name := "pixel", desc := "(II)I" } : Jvm.MethodName)) ∈ gw := gw_t 861 (by decide +kernel) rfl
theorem zw_862 : (Jvm.Cond.selects "OrreryBox" ({ cls := "OrreryBox", name := "pixel", desc := "(II)I" } : Jvm.MethodName) ({ cls := "OrreryBox", name := "pixel", desc := "(II)I" } : Jvm.MethodName)) ∈ gw := gw_t 862 (by decide +kernel) rfl
theorem zs_LW_103 : zwV "OrreryBoxLaw" 103 "OrreryBox" zy_OB_pixel zb_OB_pixel 3 (some .int) := ⟨zw_860, zw_861, zw_862, zw_1, zc_OB_pixel⟩
theorem zw_2154 : (Jvm.Cond.methodLink "OrreryBoxLaw" (107 : Nat) ({ cls := "OrreryBoxModel", name := "pixel", desc := "(II)I" } : Jvm.MethodName)) ∈ gw := gw_t 2154 (by decide +kernel) rfl
theorem zw_2155 : (Jvm.Cond.instanceMethod ({ cls := "OrreryBoxModel", name := "pixel", desc := "(II)I" } : Jvm.MethodName)) ∈ gw := gw_t 2155 (by decide +kernel) rfl
theorem zw_2156 : (Jvm.Cond.selects "OrreryBoxModel" ({ cls := "OrreryBoxModel", name := "pixel", desc := "(II)I" } : Jvm.MethodName) ({ cls := "OrreryBoxModel", name := "pixel", desc := "(II)I" } : Jvm.MethodName)) ∈ gw := gw_t 2156 (by decide +kernel) rfl
theorem zs_LW_107 : zwV "OrreryBoxLaw" 107 "OrreryBoxModel" zy_MD_pixel zb_MD_pixel 4 (some .int) := ⟨zw_2154, zw_2155, zw_2156, zw_13, zc_MD_pixel⟩
def lawS15 (sh : zSh) (mm : zMem) (x1 x2 x3 x4 x5 : Int32) : Option zMem := zoS (sh 0) 0 (fun le2 => Option.bind (F_OB_pixel sh mm 0 x1 x2) (fun p3 => zoS (sh 1185) 1 (fun le5 => Option.bind (F_MD_pixel sh (p3.2) 1185 x1 x2) (fun p6 => (if p3.1 = p6.1 then some (p6.2) else none)))))
set_option maxHeartbeats 4000000 in
set_option maxRecDepth 100000 in
theorem lawk15 {p : Program} {l : Launch} {e : Env} {s : State} {m : MethodId} {below : List Frame} {meth : Method} {c : Code} {D : va_G} {tA : Nat → ClassId} {b bs L : Nat} {xs : Nat → Int32} {i x1 x2 x3 x4 x5 : Int32} {sh : zSh} {mm mq : zMem} {n cells slots : Nat} (F : zF p s m #[Value.ref bs] meth c code 7 "OrreryBoxLaw" D tA b) (hX : va_X bs L xs s s.heap) (hbl : bs < b) (hbs : s.heap.size ≤ b) (hr : meth.sig.returnType = ret) (hl : l.stackTraces = false) (hi1 : vp_in (i + 1) L) (hv1 : xs (i + 1).toNatClampNeg = x1) (hi2 : vp_in (i + 2) L) (hv2 : xs (i + 2).toNatClampNeg = x2) (hi3 : vp_in (i + 3) L) (hv3 : xs (i + 3).toNatClampNeg = x3) (hi4 : vp_in (i + 4) L) (hv4 : xs (i + 4).toNatClampNeg = x4) (hi5 : vp_in (i + 5) L) (hv5 : xs (i + 5).toNatClampNeg = x5) (hc1 : cells + 1 ≤ room_1.cells) (hs1 : slots + 6 ≤ room_1.slots) (h : lawS15 sh mm x1 x2 x3 x4 x5 = some mq) (kk : ∀ n1 : Nat, Z p l e room_1 s m #[Value.ref bs] below meth c D b 7 (lw_Z below #[Value.ref bs] s) (zW tA b sh mq) n1 cells slots 991 [(0, .ref bs), (1, .ref (b + 0)), (2, .ref (b + 1185)), (3, .ref (b + 1302)), (4, .int i)] []) : Z p l e room_1 s m #[Value.ref bs] below meth c D b 7 (lw_Z below #[Value.ref bs] s) (zW tA b sh mm) n cells slots 829 [(0, .ref bs), (1, .ref (b + 0)), (2, .ref (b + 1185)), (3, .ref (b + 1302)), (4, .int i)] [] := by
  unfold lawS15 at h
  refine zr_aload_n F zd_LW_law_829 rfl ?_
  refine zr_aload_n F zd_LW_law_830 rfl ?_
  refine zr_iload F zd_LW_law_831 rfl ?_
  refine zr_iconstv (v := 1) F zd_LW_law_833 (by decide) ?_
  refine zr_iadd F zd_LW_law_834 ?_
  refine zr_sld F hX hbl hi1 zd_LW_law_835 ?_
  refine zr_toi (v' := x1) hv1 ?_
  refine zr_aload_n F zd_LW_law_836 rfl ?_
  refine zr_pcn 837 rfl ?_
  refine zr_iload F zd_LW_law_837 rfl ?_
  refine zr_iconstv (v := 2) F zd_LW_law_839 (by decide) ?_
  refine zr_iadd F zd_LW_law_840 ?_
  refine zr_sld F hX hbl hi2 zd_LW_law_841 ?_
  refine zr_toi (v' := x2) hv2 ?_
  obtain ⟨le2, hs1, h⟩ := zoS_s h
  obtain ⟨p3, ep3, h⟩ := zoB_s h
  refine zr_callV1 F (k_OB_pixel l D tA b sh _ ep3) zd_LW_law_842 (zW_o hs1 (by decide)) rfl zs_LW_103 rfl zq_OB_pixel rfl rfl ⟨(Nat.le_of_ble_eq_true rfl), (Nat.le_of_ble_eq_true rfl)⟩ (Nat.le_of_ble_eq_true rfl) ⟨by omega, by omega⟩ ?_
  refine zr_aload_n F zd_LW_law_845 rfl ?_
  refine zr_aload_n F zd_LW_law_846 rfl ?_
  refine zr_iload F zd_LW_law_847 rfl ?_
  refine zr_pcn 849 rfl ?_
  refine zr_iconstv (v := 1) F zd_LW_law_849 (by decide) ?_
  refine zr_iadd F zd_LW_law_850 ?_
  refine zr_sld F hX hbl hi1 zd_LW_law_851 ?_
  refine zr_toi (v' := x1) hv1 ?_
  refine zr_aload_n F zd_LW_law_852 rfl ?_
  refine zr_iload F zd_LW_law_853 rfl ?_
  refine zr_iconstv (v := 2) F zd_LW_law_855 (by decide) ?_
  refine zr_iadd F zd_LW_law_856 ?_
  refine zr_sld F hX hbl hi2 zd_LW_law_857 ?_
  refine zr_toi (v' := x2) hv2 ?_
  refine zr_pcn 858 rfl ?_
  obtain ⟨le5, hs4, h⟩ := zoS_s h
  obtain ⟨p6, ep6, h⟩ := zoB_s h
  refine zr_callV1 F (k_MD_pixel l D tA b sh _ ep6) zd_LW_law_858 (zW_o hs4 (by decide)) rfl zs_LW_107 rfl zq_MD_pixel rfl rfl ⟨(Nat.le_of_ble_eq_true rfl), (Nat.le_of_ble_eq_true rfl)⟩ (Nat.le_of_ble_eq_true rfl) ⟨by omega, by omega⟩ ?_
  refine zr_icmp_eq F 991 zd_LW_law_861 (by decide) (fun hb7 => ?_) (fun hb7 => ?_)
  ·
    rw [if_pos hb7] at h
    obtain rfl := Option.some.inj h
    refine zr_loc (L' := [(0, .ref bs), (1, .ref (b + 0)), (2, .ref (b + 1185)), (3, .ref (b + 1302)), (4, .int i)]) ⟨rfl, rfl, rfl, rfl, rfl, trivial⟩ ?_
    exact kk _
  ·
    rw [if_neg hb7] at h
    refine zr_iconstv (v := 0) F zd_LW_law_864 (by decide) ?_
    cases h
theorem zw_872 : (Jvm.Cond.methodLink "OrreryBoxLaw" (108 : Nat) ({ cls := "OrreryBox", name := "nearness", desc := "(II)I" } : Jvm.MethodName)) ∈ gw := gw_t 872 (by decide +kernel) rfl
theorem zw_873 : (Jvm.Cond.instanceMethod ({ cls := "OrreryBox", name := "nearness", desc := "(II)I" } : Jvm.MethodName)) ∈ gw := gw_t 873 (by decide +kernel) rfl
theorem zw_874 : (Jvm.Cond.selects "OrreryBox" ({ cls := "OrreryBox", name := "nearness", desc := "(II)I" } : Jvm.MethodName) ({ cls := "OrreryBox", name := "nearness", desc := "(II)I" } : Jvm.MethodName)) ∈ gw := gw_t 874 (by decide +kernel) rfl
theorem zs_LW_108 : zwV "OrreryBoxLaw" 108 "OrreryBox" zy_OB_nearness zb_OB_nearness 3 (some .int) := ⟨zw_872, zw_873, zw_874, zw_1, zc_OB_nearness⟩
theorem zw_2166 : (Jvm.Cond.methodLink "OrreryBoxLaw" (111 : Nat) ({ cls := "OrreryBoxModel", name := "nearness", desc := "(II)I" } : Jvm.MethodName)) ∈ gw := gw_t 2166 (by decide +kernel) rfl
theorem zw_2167 : (Jvm.Cond.instanceMethod ({ cls := "OrreryBoxModel", name := "nearness", desc := "(II)I" } : Jvm.MethodName)) ∈ gw := gw_t 2167 (by decide +kernel) rfl
theorem zw_2168 : (Jvm.Cond.selects "OrreryBoxModel" ({ cls := "OrreryBoxModel", name := "nearness", desc := "(II)I" } : Jvm.MethodName) ({ cls := "OrreryBoxModel", name := "nearness", desc := "(II)I" } : Jvm.MethodName)) ∈ gw := gw_t 2168 (by decide +kernel) rfl
theorem zs_LW_111 : zwV "OrreryBoxLaw" 111 "OrreryBoxModel" zy_MD_nearness zb_MD_nearness 3 (some .int) := ⟨zw_2166, zw_2167, zw_2168, zw_13, zc_MD_nearness⟩
def lawS16 (sh : zSh) (mm : zMem) (x1 x2 x3 x4 x5 : Int32) : Option zMem := zoS (sh 0) 0 (fun le2 => Option.bind (F_OB_nearness sh mm 0 x1 x2) (fun p3 => zoS (sh 1185) 1 (fun le5 => Option.bind (F_MD_nearness sh (p3.2) 1185 x1 x2) (fun p6 => (if p3.1 = p6.1 then some (p6.2) else none)))))
set_option maxHeartbeats 4000000 in
set_option maxRecDepth 100000 in
theorem lawk16 {p : Program} {l : Launch} {e : Env} {s : State} {m : MethodId} {below : List Frame} {meth : Method} {c : Code} {D : va_G} {tA : Nat → ClassId} {b bs L : Nat} {xs : Nat → Int32} {i x1 x2 x3 x4 x5 : Int32} {sh : zSh} {mm mq : zMem} {n cells slots : Nat} (F : zF p s m #[Value.ref bs] meth c code 7 "OrreryBoxLaw" D tA b) (hX : va_X bs L xs s s.heap) (hbl : bs < b) (hbs : s.heap.size ≤ b) (hr : meth.sig.returnType = ret) (hl : l.stackTraces = false) (hi1 : vp_in (i + 1) L) (hv1 : xs (i + 1).toNatClampNeg = x1) (hi2 : vp_in (i + 2) L) (hv2 : xs (i + 2).toNatClampNeg = x2) (hi3 : vp_in (i + 3) L) (hv3 : xs (i + 3).toNatClampNeg = x3) (hi4 : vp_in (i + 4) L) (hv4 : xs (i + 4).toNatClampNeg = x4) (hi5 : vp_in (i + 5) L) (hv5 : xs (i + 5).toNatClampNeg = x5) (hc1 : cells + 1 ≤ room_1.cells) (hs1 : slots + 6 ≤ room_1.slots) (h : lawS16 sh mm x1 x2 x3 x4 x5 = some mq) (kk : ∀ n1 : Nat, Z p l e room_1 s m #[Value.ref bs] below meth c D b 7 (lw_Z below #[Value.ref bs] s) (zW tA b sh mq) n1 cells slots 991 [(0, .ref bs), (1, .ref (b + 0)), (2, .ref (b + 1185)), (3, .ref (b + 1302)), (4, .int i)] []) : Z p l e room_1 s m #[Value.ref bs] below meth c D b 7 (lw_Z below #[Value.ref bs] s) (zW tA b sh mm) n cells slots 866 [(0, .ref bs), (1, .ref (b + 0)), (2, .ref (b + 1185)), (3, .ref (b + 1302)), (4, .int i)] [] := by
  unfold lawS16 at h
  refine zr_aload_n F zd_LW_law_866 rfl ?_
  refine zr_aload_n F zd_LW_law_867 rfl ?_
  refine zr_iload F zd_LW_law_868 rfl ?_
  refine zr_iconstv (v := 1) F zd_LW_law_870 (by decide) ?_
  refine zr_iadd F zd_LW_law_871 ?_
  refine zr_sld F hX hbl hi1 zd_LW_law_872 ?_
  refine zr_toi (v' := x1) hv1 ?_
  refine zr_aload_n F zd_LW_law_873 rfl ?_
  refine zr_pcn 874 rfl ?_
  refine zr_iload F zd_LW_law_874 rfl ?_
  refine zr_iconstv (v := 2) F zd_LW_law_876 (by decide) ?_
  refine zr_iadd F zd_LW_law_877 ?_
  refine zr_sld F hX hbl hi2 zd_LW_law_878 ?_
  refine zr_toi (v' := x2) hv2 ?_
  obtain ⟨le2, hs1, h⟩ := zoS_s h
  obtain ⟨p3, ep3, h⟩ := zoB_s h
  refine zr_callV1 F (k_OB_nearness l D tA b sh _ ep3) zd_LW_law_879 (zW_o hs1 (by decide)) rfl zs_LW_108 rfl zq_OB_nearness rfl rfl ⟨(Nat.le_of_ble_eq_true rfl), (Nat.le_of_ble_eq_true rfl)⟩ (Nat.le_of_ble_eq_true rfl) ⟨by omega, by omega⟩ ?_
  refine zr_aload_n F zd_LW_law_882 rfl ?_
  refine zr_aload_n F zd_LW_law_883 rfl ?_
  refine zr_iload F zd_LW_law_884 rfl ?_
  refine zr_pcn 886 rfl ?_
  refine zr_iconstv (v := 1) F zd_LW_law_886 (by decide) ?_
  refine zr_iadd F zd_LW_law_887 ?_
  refine zr_sld F hX hbl hi1 zd_LW_law_888 ?_
  refine zr_toi (v' := x1) hv1 ?_
  refine zr_aload_n F zd_LW_law_889 rfl ?_
  refine zr_iload F zd_LW_law_890 rfl ?_
  refine zr_iconstv (v := 2) F zd_LW_law_892 (by decide) ?_
  refine zr_iadd F zd_LW_law_893 ?_
  refine zr_sld F hX hbl hi2 zd_LW_law_894 ?_
  refine zr_toi (v' := x2) hv2 ?_
  refine zr_pcn 895 rfl ?_
  obtain ⟨le5, hs4, h⟩ := zoS_s h
  obtain ⟨p6, ep6, h⟩ := zoB_s h
  refine zr_callV1 F (k_MD_nearness l D tA b sh _ ep6) zd_LW_law_895 (zW_o hs4 (by decide)) rfl zs_LW_111 rfl zq_MD_nearness rfl rfl ⟨(Nat.le_of_ble_eq_true rfl), (Nat.le_of_ble_eq_true rfl)⟩ (Nat.le_of_ble_eq_true rfl) ⟨by omega, by omega⟩ ?_
  refine zr_icmp_eq F 991 zd_LW_law_898 (by decide) (fun hb7 => ?_) (fun hb7 => ?_)
  ·
    rw [if_pos hb7] at h
    obtain rfl := Option.some.inj h
    refine zr_loc (L' := [(0, .ref bs), (1, .ref (b + 0)), (2, .ref (b + 1185)), (3, .ref (b + 1302)), (4, .int i)]) ⟨rfl, rfl, rfl, rfl, rfl, trivial⟩ ?_
    exact kk _
  ·
    rw [if_neg hb7] at h
    refine zr_iconstv (v := 0) F zd_LW_law_901 (by decide) ?_
    cases h
theorem zw_876 : (Jvm.Cond.methodLink "OrreryBoxLaw" (112 : Nat) ({ cls := "OrreryBox", name := "pick", desc := "(II)I" } : Jvm.MethodName)) ∈ gw := gw_t 876 (by decide +kernel) rfl
theorem zw_877 : (Jvm.Cond.instanceMethod ({ cls := "OrreryBox", name := "pick", desc := "(II)I" } : Jvm.MethodName)) ∈ gw := gw_t 877 (by decide +kernel) rfl
theorem zw_878 : (Jvm.Cond.selects "OrreryBox" ({ cls := "OrreryBox", name := "pick", desc := "(II)I" } : Jvm.MethodName) ({ cls := "OrreryBox", name := "pick", desc := "(II)I" } : Jvm.MethodName)) ∈ gw := gw_t 878 (by decide +kernel) rfl
theorem zs_LW_112 : zwV "OrreryBoxLaw" 112 "OrreryBox" zy_OB_pick zb_OB_pick 8 (some .int) := ⟨zw_876, zw_877, zw_878, zw_1, zc_OB_pick⟩
theorem zw_2170 : (Jvm.Cond.methodLink "OrreryBoxLaw" (115 : Nat) ({ cls := "OrreryBoxModel", name := "pick", desc := "(II)I" } : Jvm.MethodName)) ∈ gw := gw_t 2170 (by decide +kernel) rfl
theorem zw_2171 : (Jvm.Cond.instanceMethod ({ cls := "OrreryBoxModel", name := "pick", desc := "(II)I" } : Jvm.MethodName)) ∈ gw := gw_t 2171 (by decide +kernel) rfl
theorem zw_2172 : (Jvm.Cond.selects "OrreryBoxModel" ({ cls := "OrreryBoxModel", name := "pick", desc := "(II)I" } : Jvm.MethodName) ({ cls := "OrreryBoxModel", name := "pick", desc := "(II)I" } : Jvm.MethodName)) ∈ gw := gw_t 2172 (by decide +kernel) rfl
theorem zs_LW_115 : zwV "OrreryBoxLaw" 115 "OrreryBoxModel" zy_MD_pick zb_MD_pick 3 (some .int) := ⟨zw_2170, zw_2171, zw_2172, zw_13, zc_MD_pick⟩
def lawS17 (sh : zSh) (mm : zMem) (x1 x2 x3 x4 x5 : Int32) : Option zMem := zoS (sh 0) 0 (fun le2 => Option.bind (F_OB_pick sh mm 0 x1 x2) (fun p3 => zoS (sh 1185) 1 (fun le5 => Option.bind (F_MD_pick sh (p3.2) 1185 x1 x2) (fun p6 => (if p3.1 = p6.1 then some (p6.2) else none)))))
set_option maxHeartbeats 4000000 in
set_option maxRecDepth 100000 in
theorem lawk17 {p : Program} {l : Launch} {e : Env} {s : State} {m : MethodId} {below : List Frame} {meth : Method} {c : Code} {D : va_G} {tA : Nat → ClassId} {b bs L : Nat} {xs : Nat → Int32} {i x1 x2 x3 x4 x5 : Int32} {sh : zSh} {mm mq : zMem} {n cells slots : Nat} (F : zF p s m #[Value.ref bs] meth c code 7 "OrreryBoxLaw" D tA b) (hX : va_X bs L xs s s.heap) (hbl : bs < b) (hbs : s.heap.size ≤ b) (hr : meth.sig.returnType = ret) (hl : l.stackTraces = false) (hi1 : vp_in (i + 1) L) (hv1 : xs (i + 1).toNatClampNeg = x1) (hi2 : vp_in (i + 2) L) (hv2 : xs (i + 2).toNatClampNeg = x2) (hi3 : vp_in (i + 3) L) (hv3 : xs (i + 3).toNatClampNeg = x3) (hi4 : vp_in (i + 4) L) (hv4 : xs (i + 4).toNatClampNeg = x4) (hi5 : vp_in (i + 5) L) (hv5 : xs (i + 5).toNatClampNeg = x5) (hc1 : cells + 1 ≤ room_1.cells) (hs1 : slots + 6 ≤ room_1.slots) (h : lawS17 sh mm x1 x2 x3 x4 x5 = some mq) (kk : ∀ n1 : Nat, Z p l e room_1 s m #[Value.ref bs] below meth c D b 7 (lw_Z below #[Value.ref bs] s) (zW tA b sh mq) n1 cells slots 991 [(0, .ref bs), (1, .ref (b + 0)), (2, .ref (b + 1185)), (3, .ref (b + 1302)), (4, .int i)] []) : Z p l e room_1 s m #[Value.ref bs] below meth c D b 7 (lw_Z below #[Value.ref bs] s) (zW tA b sh mm) n cells slots 903 [(0, .ref bs), (1, .ref (b + 0)), (2, .ref (b + 1185)), (3, .ref (b + 1302)), (4, .int i)] [] := by
  unfold lawS17 at h
  refine zr_aload_n F zd_LW_law_903 rfl ?_
  refine zr_aload_n F zd_LW_law_904 rfl ?_
  refine zr_iload F zd_LW_law_905 rfl ?_
  refine zr_iconstv (v := 1) F zd_LW_law_907 (by decide) ?_
  refine zr_iadd F zd_LW_law_908 ?_
  refine zr_sld F hX hbl hi1 zd_LW_law_909 ?_
  refine zr_toi (v' := x1) hv1 ?_
  refine zr_aload_n F zd_LW_law_910 rfl ?_
  refine zr_pcn 911 rfl ?_
  refine zr_iload F zd_LW_law_911 rfl ?_
  refine zr_iconstv (v := 2) F zd_LW_law_913 (by decide) ?_
  refine zr_iadd F zd_LW_law_914 ?_
  refine zr_sld F hX hbl hi2 zd_LW_law_915 ?_
  refine zr_toi (v' := x2) hv2 ?_
  obtain ⟨le2, hs1, h⟩ := zoS_s h
  obtain ⟨p3, ep3, h⟩ := zoB_s h
  refine zr_callV1 F (k_OB_pick l D tA b sh _ ep3) zd_LW_law_916 (zW_o hs1 (by decide)) rfl zs_LW_112 rfl zq_OB_pick rfl rfl ⟨(Nat.le_of_ble_eq_true rfl), (Nat.le_of_ble_eq_true rfl)⟩ (Nat.le_of_ble_eq_true rfl) ⟨by omega, by omega⟩ ?_
  refine zr_aload_n F zd_LW_law_919 rfl ?_
  refine zr_aload_n F zd_LW_law_920 rfl ?_
  refine zr_iload F zd_LW_law_921 rfl ?_
  refine zr_pcn 923 rfl ?_
  refine zr_iconstv (v := 1) F zd_LW_law_923 (by decide) ?_
  refine zr_iadd F zd_LW_law_924 ?_
  refine zr_sld F hX hbl hi1 zd_LW_law_925 ?_
  refine zr_toi (v' := x1) hv1 ?_
  refine zr_aload_n F zd_LW_law_926 rfl ?_
  refine zr_iload F zd_LW_law_927 rfl ?_
  refine zr_iconstv (v := 2) F zd_LW_law_929 (by decide) ?_
  refine zr_iadd F zd_LW_law_930 ?_
  refine zr_sld F hX hbl hi2 zd_LW_law_931 ?_
  refine zr_toi (v' := x2) hv2 ?_
  refine zr_pcn 932 rfl ?_
  obtain ⟨le5, hs4, h⟩ := zoS_s h
  obtain ⟨p6, ep6, h⟩ := zoB_s h
  refine zr_callV1 F (k_MD_pick l D tA b sh _ ep6) zd_LW_law_932 (zW_o hs4 (by decide)) rfl zs_LW_115 rfl zq_MD_pick rfl rfl ⟨(Nat.le_of_ble_eq_true rfl), (Nat.le_of_ble_eq_true rfl)⟩ (Nat.le_of_ble_eq_true rfl) ⟨by omega, by omega⟩ ?_
  refine zr_icmp_eq F 991 zd_LW_law_935 (by decide) (fun hb7 => ?_) (fun hb7 => ?_)
  ·
    rw [if_pos hb7] at h
    obtain rfl := Option.some.inj h
    refine zr_loc (L' := [(0, .ref bs), (1, .ref (b + 0)), (2, .ref (b + 1185)), (3, .ref (b + 1302)), (4, .int i)]) ⟨rfl, rfl, rfl, rfl, rfl, trivial⟩ ?_
    exact kk _
  ·
    rw [if_neg hb7] at h
    refine zr_iconstv (v := 0) F zd_LW_law_938 (by decide) ?_
    cases h
theorem zw_892 : (Jvm.Cond.methodLink "OrreryBoxLaw" (116 : Nat) ({ cls := "OrreryBox", name := "picked", desc := "()I" } : Jvm.MethodName)) ∈ gw := gw_t 892 (by decide +kernel) rfl
theorem zw_893 : (Jvm.Cond.instanceMethod ({ cls := "OrreryBox", name := "picked", desc := "()I" } : Jvm.MethodName)) ∈ gw := gw_t 893 (by decide +kernel) rfl
theorem zw_894 : (Jvm.Cond.selects "OrreryBox" ({ cls := "OrreryBox", name := "picked", desc := "()I" } : Jvm.MethodName) ({ cls := "OrreryBox", name := "picked", desc := "()I" } : Jvm.MethodName)) ∈ gw := gw_t 894 (by decide +kernel) rfl
theorem zs_LW_116 : zwV "OrreryBoxLaw" 116 "OrreryBox" zy_OB_picked zb_OB_picked 1 (some .int) := ⟨zw_892, zw_893, zw_894, zw_1, zc_OB_picked⟩
theorem zw_2178 : (Jvm.Cond.methodLink "OrreryBoxLaw" (119 : Nat) ({ cls := "OrreryBoxModel", name := "picked", desc := "()I" } : Jvm.MethodName)) ∈ gw := gw_t 2178 (by decide +kernel) rfl
theorem zw_2179 : (Jvm.Cond.instanceMethod ({ cls := "OrreryBoxModel", name := "picked", desc := "()I" } : Jvm.MethodName)) ∈ gw := gw_t 2179 (by decide +kernel) rfl
theorem zw_2180 : (Jvm.Cond.selects "OrreryBoxModel" ({ cls := "OrreryBoxModel", name := "picked", desc := "()I" } : Jvm.MethodName) ({ cls := "OrreryBoxModel", name := "picked", desc := "()I" } : Jvm.MethodName)) ∈ gw := gw_t 2180 (by decide +kernel) rfl
theorem zs_LW_119 : zwV "OrreryBoxLaw" 119 "OrreryBoxModel" zy_MD_picked zb_MD_picked 1 (some .int) := ⟨zw_2178, zw_2179, zw_2180, zw_13, zc_MD_picked⟩
def lawS18 (sh : zSh) (mm : zMem) (x1 x2 x3 x4 x5 : Int32) : Option zMem := zoS (sh 0) 0 (fun le2 => Option.bind (F_OB_picked sh mm 0) (fun p3 => zoS (sh 1185) 1 (fun le5 => Option.bind (F_MD_picked sh (p3.2) 1185) (fun p6 => (if p3.1 = p6.1 then some (p6.2) else none)))))
set_option maxHeartbeats 4000000 in
set_option maxRecDepth 100000 in
theorem lawk18 {p : Program} {l : Launch} {e : Env} {s : State} {m : MethodId} {below : List Frame} {meth : Method} {c : Code} {D : va_G} {tA : Nat → ClassId} {b bs L : Nat} {xs : Nat → Int32} {i x1 x2 x3 x4 x5 : Int32} {sh : zSh} {mm mq : zMem} {n cells slots : Nat} (F : zF p s m #[Value.ref bs] meth c code 7 "OrreryBoxLaw" D tA b) (hX : va_X bs L xs s s.heap) (hbl : bs < b) (hbs : s.heap.size ≤ b) (hr : meth.sig.returnType = ret) (hl : l.stackTraces = false) (hi1 : vp_in (i + 1) L) (hv1 : xs (i + 1).toNatClampNeg = x1) (hi2 : vp_in (i + 2) L) (hv2 : xs (i + 2).toNatClampNeg = x2) (hi3 : vp_in (i + 3) L) (hv3 : xs (i + 3).toNatClampNeg = x3) (hi4 : vp_in (i + 4) L) (hv4 : xs (i + 4).toNatClampNeg = x4) (hi5 : vp_in (i + 5) L) (hv5 : xs (i + 5).toNatClampNeg = x5) (hc1 : cells + 1 ≤ room_1.cells) (hs1 : slots + 6 ≤ room_1.slots) (h : lawS18 sh mm x1 x2 x3 x4 x5 = some mq) (kk : ∀ n1 : Nat, Z p l e room_1 s m #[Value.ref bs] below meth c D b 7 (lw_Z below #[Value.ref bs] s) (zW tA b sh mq) n1 cells slots 991 [(0, .ref bs), (1, .ref (b + 0)), (2, .ref (b + 1185)), (3, .ref (b + 1302)), (4, .int i)] []) : Z p l e room_1 s m #[Value.ref bs] below meth c D b 7 (lw_Z below #[Value.ref bs] s) (zW tA b sh mm) n cells slots 940 [(0, .ref bs), (1, .ref (b + 0)), (2, .ref (b + 1185)), (3, .ref (b + 1302)), (4, .int i)] [] := by
  unfold lawS18 at h
  refine zr_aload_n F zd_LW_law_940 rfl ?_
  obtain ⟨le2, hs1, h⟩ := zoS_s h
  obtain ⟨p3, ep3, h⟩ := zoB_s h
  refine zr_callV1 F (k_OB_picked l D tA b sh _ ep3) zd_LW_law_941 (zW_o hs1 (by decide)) rfl zs_LW_116 rfl zq_OB_picked rfl rfl ⟨(Nat.le_of_ble_eq_true rfl), (Nat.le_of_ble_eq_true rfl)⟩ (Nat.le_of_ble_eq_true rfl) ⟨by omega, by omega⟩ ?_
  refine zr_aload_n F zd_LW_law_944 rfl ?_
  obtain ⟨le5, hs4, h⟩ := zoS_s h
  obtain ⟨p6, ep6, h⟩ := zoB_s h
  refine zr_callV1 F (k_MD_picked l D tA b sh _ ep6) zd_LW_law_945 (zW_o hs4 (by decide)) rfl zs_LW_119 rfl zq_MD_picked rfl rfl ⟨(Nat.le_of_ble_eq_true rfl), (Nat.le_of_ble_eq_true rfl)⟩ (Nat.le_of_ble_eq_true rfl) ⟨by omega, by omega⟩ ?_
  refine zr_icmp_eq F 991 zd_LW_law_948 (by decide) (fun hb7 => ?_) (fun hb7 => ?_)
  ·
    rw [if_pos hb7] at h
    obtain rfl := Option.some.inj h
    refine zr_loc (L' := [(0, .ref bs), (1, .ref (b + 0)), (2, .ref (b + 1185)), (3, .ref (b + 1302)), (4, .int i)]) ⟨rfl, rfl, rfl, rfl, rfl, trivial⟩ ?_
    exact kk _
  ·
    rw [if_neg hb7] at h
    refine zr_iconstv (v := 0) F zd_LW_law_951 (by decide) ?_
    cases h
theorem zw_896 : (Jvm.Cond.methodLink "OrreryBoxLaw" (120 : Nat) ({ cls := "OrreryBox", name := "file", desc := "()I" } : Jvm.MethodName)) ∈ gw := gw_t 896 (by decide +kernel) rfl
theorem zw_897 : (Jvm.Cond.instanceMethod ({ cls := "OrreryBox", name := "file", desc := "()I" } : Jvm.MethodName)) ∈ gw := gw_t 897 (by decide +kernel) rfl
theorem zw_898 : (Jvm.Cond.selects "OrreryBox" ({ cls := "OrreryBox", name := "file", desc := "()I" } : Jvm.MethodName) ({ cls := "OrreryBox", name := "file", desc := "()I" } : Jvm.MethodName)) ∈ gw := gw_t 898 (by decide +kernel) rfl
theorem zs_LW_120 : zwV "OrreryBoxLaw" 120 "OrreryBox" zy_OB_file zb_OB_file 1 (some .int) := ⟨zw_896, zw_897, zw_898, zw_1, zc_OB_file⟩
theorem zw_2182 : (Jvm.Cond.methodLink "OrreryBoxLaw" (123 : Nat) ({ cls := "OrreryBoxModel", name := "file", desc := "()I" } : Jvm.MethodName)) ∈ gw := gw_t 2182 (by decide +kernel) rfl
theorem zw_2183 : (Jvm.Cond.instanceMethod ({ cls := "OrreryBoxModel", name := "file", desc := "()I" } : Jvm.MethodName)) ∈ gw := gw_t 2183 (by decide +kernel) rfl
theorem zw_2184 : (Jvm.Cond.selects "OrreryBoxModel" ({ cls := "OrreryBoxModel", name := "file", desc := "()I" } : Jvm.MethodName) ({ cls := "OrreryBoxModel", name := "file", desc := "()I" } : Jvm.MethodName)) ∈ gw := gw_t 2184 (by decide +kernel) rfl
theorem zs_LW_123 : zwV "OrreryBoxLaw" 123 "OrreryBoxModel" zy_MD_file zb_MD_file 2 (some .int) := ⟨zw_2182, zw_2183, zw_2184, zw_13, zc_MD_file⟩
def lawS19 (sh : zSh) (mm : zMem) (x1 x2 x3 x4 x5 : Int32) : Option zMem := zoS (sh 0) 0 (fun le2 => Option.bind (F_OB_file sh mm 0) (fun p3 => zoS (sh 1185) 1 (fun le5 => Option.bind (F_MD_file sh (p3.2) 1185) (fun p6 => (if p3.1 = p6.1 then some (p6.2) else none)))))
set_option maxHeartbeats 4000000 in
set_option maxRecDepth 100000 in
theorem lawk19 {p : Program} {l : Launch} {e : Env} {s : State} {m : MethodId} {below : List Frame} {meth : Method} {c : Code} {D : va_G} {tA : Nat → ClassId} {b bs L : Nat} {xs : Nat → Int32} {i x1 x2 x3 x4 x5 : Int32} {sh : zSh} {mm mq : zMem} {n cells slots : Nat} (F : zF p s m #[Value.ref bs] meth c code 7 "OrreryBoxLaw" D tA b) (hX : va_X bs L xs s s.heap) (hbl : bs < b) (hbs : s.heap.size ≤ b) (hr : meth.sig.returnType = ret) (hl : l.stackTraces = false) (hi1 : vp_in (i + 1) L) (hv1 : xs (i + 1).toNatClampNeg = x1) (hi2 : vp_in (i + 2) L) (hv2 : xs (i + 2).toNatClampNeg = x2) (hi3 : vp_in (i + 3) L) (hv3 : xs (i + 3).toNatClampNeg = x3) (hi4 : vp_in (i + 4) L) (hv4 : xs (i + 4).toNatClampNeg = x4) (hi5 : vp_in (i + 5) L) (hv5 : xs (i + 5).toNatClampNeg = x5) (hc1 : cells + 1 ≤ room_1.cells) (hs1 : slots + 6 ≤ room_1.slots) (h : lawS19 sh mm x1 x2 x3 x4 x5 = some mq) (kk : ∀ n1 : Nat, Z p l e room_1 s m #[Value.ref bs] below meth c D b 7 (lw_Z below #[Value.ref bs] s) (zW tA b sh mq) n1 cells slots 991 [(0, .ref bs), (1, .ref (b + 0)), (2, .ref (b + 1185)), (3, .ref (b + 1302)), (4, .int i)] []) : Z p l e room_1 s m #[Value.ref bs] below meth c D b 7 (lw_Z below #[Value.ref bs] s) (zW tA b sh mm) n cells slots 953 [(0, .ref bs), (1, .ref (b + 0)), (2, .ref (b + 1185)), (3, .ref (b + 1302)), (4, .int i)] [] := by
  unfold lawS19 at h
  refine zr_aload_n F zd_LW_law_953 rfl ?_
  obtain ⟨le2, hs1, h⟩ := zoS_s h
  obtain ⟨p3, ep3, h⟩ := zoB_s h
  refine zr_callV1 F (k_OB_file l D tA b sh _ ep3) zd_LW_law_954 (zW_o hs1 (by decide)) rfl zs_LW_120 rfl zq_OB_file rfl rfl ⟨(Nat.le_of_ble_eq_true rfl), (Nat.le_of_ble_eq_true rfl)⟩ (Nat.le_of_ble_eq_true rfl) ⟨by omega, by omega⟩ ?_
  refine zr_aload_n F zd_LW_law_957 rfl ?_
  obtain ⟨le5, hs4, h⟩ := zoS_s h
  obtain ⟨p6, ep6, h⟩ := zoB_s h
  refine zr_callV1 F (k_MD_file l D tA b sh _ ep6) zd_LW_law_958 (zW_o hs4 (by decide)) rfl zs_LW_123 rfl zq_MD_file rfl rfl ⟨(Nat.le_of_ble_eq_true rfl), (Nat.le_of_ble_eq_true rfl)⟩ (Nat.le_of_ble_eq_true rfl) ⟨by omega, by omega⟩ ?_
  refine zr_icmp_eq F 991 zd_LW_law_961 (by decide) (fun hb7 => ?_) (fun hb7 => ?_)
  ·
    rw [if_pos hb7] at h
    obtain rfl := Option.some.inj h
    refine zr_loc (L' := [(0, .ref bs), (1, .ref (b + 0)), (2, .ref (b + 1185)), (3, .ref (b + 1302)), (4, .int i)]) ⟨rfl, rfl, rfl, rfl, rfl, trivial⟩ ?_
    exact kk _
  ·
    rw [if_neg hb7] at h
    refine zr_iconstv (v := 0) F zd_LW_law_964 (by decide) ?_
    cases h
theorem zw_1058 : (Jvm.Cond.methodLink "OrreryBoxLaw" (124 : Nat) ({ cls := "OrreryBox", name := "byteAt", desc := "(I)I" } : Jvm.MethodName)) ∈ gw := gw_t 1058 (by decide +kernel) rfl
theorem zw_1059 : (Jvm.Cond.instanceMethod ({ cls := "OrreryBox", name := "byteAt", desc := "(I)I" } : Jvm.MethodName)) ∈ gw := gw_t 1059 (by decide +kernel) rfl
theorem zw_1060 : (Jvm.Cond.selects "OrreryBox" ({ cls := "OrreryBox", name := "byteAt", desc := "(I)I" } : Jvm.MethodName) ({ cls := "OrreryBox", name := "byteAt", desc := "(I)I" } : Jvm.MethodName)) ∈ gw := gw_t 1060 (by decide +kernel) rfl
theorem zs_LW_124 : zwV "OrreryBoxLaw" 124 "OrreryBox" zy_OB_byteAt zb_OB_byteAt 2 (some .int) := ⟨zw_1058, zw_1059, zw_1060, zw_1, zc_OB_byteAt⟩
theorem zw_2270 : (Jvm.Cond.methodLink "OrreryBoxLaw" (127 : Nat) ({ cls := "OrreryBoxModel", name := "byteAt", desc := "(I)I" } : Jvm.MethodName)) ∈ gw := gw_t 2270 (by decide +kernel) rfl
theorem zw_2271 : (Jvm.Cond.instanceMethod ({ cls := "OrreryBoxModel", name := "byteAt", desc := "(I)I" } : Jvm.MethodName)) ∈ gw := gw_t 2271 (by decide +kernel) rfl
theorem zw_2272 : (Jvm.Cond.selects "OrreryBoxModel" ({ cls := "OrreryBoxModel", name := "byteAt", desc := "(I)I" } : Jvm.MethodName) ({ cls := "OrreryBoxModel", name := "byteAt", desc := "(I)I" } : Jvm.MethodName)) ∈ gw := gw_t 2272 (by decide +kernel) rfl
theorem zs_LW_127 : zwV "OrreryBoxLaw" 127 "OrreryBoxModel" zy_MD_byteAt zb_MD_byteAt 2 (some .int) := ⟨zw_2270, zw_2271, zw_2272, zw_13, zc_MD_byteAt⟩
def lawS20 (sh : zSh) (mm : zMem) (x1 x2 x3 x4 x5 : Int32) : Option zMem := zoS (sh 0) 0 (fun le2 => Option.bind (F_OB_byteAt sh mm 0 x1) (fun p3 => zoS (sh 1185) 1 (fun le5 => Option.bind (F_MD_byteAt sh (p3.2) 1185 x1) (fun p6 => (if p3.1 = p6.1 then some (p6.2) else none)))))
set_option maxHeartbeats 4000000 in
set_option maxRecDepth 100000 in
theorem lawk20 {p : Program} {l : Launch} {e : Env} {s : State} {m : MethodId} {below : List Frame} {meth : Method} {c : Code} {D : va_G} {tA : Nat → ClassId} {b bs L : Nat} {xs : Nat → Int32} {i x1 x2 x3 x4 x5 : Int32} {sh : zSh} {mm mq : zMem} {n cells slots : Nat} (F : zF p s m #[Value.ref bs] meth c code 7 "OrreryBoxLaw" D tA b) (hX : va_X bs L xs s s.heap) (hbl : bs < b) (hbs : s.heap.size ≤ b) (hr : meth.sig.returnType = ret) (hl : l.stackTraces = false) (hi1 : vp_in (i + 1) L) (hv1 : xs (i + 1).toNatClampNeg = x1) (hi2 : vp_in (i + 2) L) (hv2 : xs (i + 2).toNatClampNeg = x2) (hi3 : vp_in (i + 3) L) (hv3 : xs (i + 3).toNatClampNeg = x3) (hi4 : vp_in (i + 4) L) (hv4 : xs (i + 4).toNatClampNeg = x4) (hi5 : vp_in (i + 5) L) (hv5 : xs (i + 5).toNatClampNeg = x5) (hc1 : cells + 1 ≤ room_1.cells) (hs1 : slots + 6 ≤ room_1.slots) (h : lawS20 sh mm x1 x2 x3 x4 x5 = some mq) (kk : ∀ n1 : Nat, Z p l e room_1 s m #[Value.ref bs] below meth c D b 7 (lw_Z below #[Value.ref bs] s) (zW tA b sh mq) n1 cells slots 991 [(0, .ref bs), (1, .ref (b + 0)), (2, .ref (b + 1185)), (3, .ref (b + 1302)), (4, .int i)] []) : Z p l e room_1 s m #[Value.ref bs] below meth c D b 7 (lw_Z below #[Value.ref bs] s) (zW tA b sh mm) n cells slots 966 [(0, .ref bs), (1, .ref (b + 0)), (2, .ref (b + 1185)), (3, .ref (b + 1302)), (4, .int i)] [] := by
  unfold lawS20 at h
  refine zr_aload_n F zd_LW_law_966 rfl ?_
  refine zr_aload_n F zd_LW_law_967 rfl ?_
  refine zr_iload F zd_LW_law_968 rfl ?_
  refine zr_iconstv (v := 1) F zd_LW_law_970 (by decide) ?_
  refine zr_iadd F zd_LW_law_971 ?_
  refine zr_sld F hX hbl hi1 zd_LW_law_972 ?_
  refine zr_toi (v' := x1) hv1 ?_
  obtain ⟨le2, hs1, h⟩ := zoS_s h
  obtain ⟨p3, ep3, h⟩ := zoB_s h
  refine zr_callV1 F (k_OB_byteAt l D tA b sh _ ep3) zd_LW_law_973 (zW_o hs1 (by decide)) rfl zs_LW_124 rfl zq_OB_byteAt rfl rfl ⟨(Nat.le_of_ble_eq_true rfl), (Nat.le_of_ble_eq_true rfl)⟩ (Nat.le_of_ble_eq_true rfl) ⟨by omega, by omega⟩ ?_
  refine zr_pcn 976 rfl ?_
  refine zr_aload_n F zd_LW_law_976 rfl ?_
  refine zr_aload_n F zd_LW_law_977 rfl ?_
  refine zr_iload F zd_LW_law_978 rfl ?_
  refine zr_iconstv (v := 1) F zd_LW_law_980 (by decide) ?_
  refine zr_iadd F zd_LW_law_981 ?_
  refine zr_sld F hX hbl hi1 zd_LW_law_982 ?_
  refine zr_toi (v' := x1) hv1 ?_
  obtain ⟨le5, hs4, h⟩ := zoS_s h
  obtain ⟨p6, ep6, h⟩ := zoB_s h
  refine zr_callV1 F (k_MD_byteAt l D tA b sh _ ep6) zd_LW_law_983 (zW_o hs4 (by decide)) rfl zs_LW_127 rfl zq_MD_byteAt rfl rfl ⟨(Nat.le_of_ble_eq_true rfl), (Nat.le_of_ble_eq_true rfl)⟩ (Nat.le_of_ble_eq_true rfl) ⟨by omega, by omega⟩ ?_
  refine zr_icmp_eq F 991 zd_LW_law_986 (by decide) (fun hb7 => ?_) (fun hb7 => ?_)
  ·
    rw [if_pos hb7] at h
    obtain rfl := Option.some.inj h
    refine zr_loc (L' := [(0, .ref bs), (1, .ref (b + 0)), (2, .ref (b + 1185)), (3, .ref (b + 1302)), (4, .int i)]) ⟨rfl, rfl, rfl, rfl, rfl, trivial⟩ ?_
    exact kk _
  ·
    rw [if_neg hb7] at h
    refine zr_iconstv (v := 0) F zd_LW_law_989 (by decide) ?_
    cases h
/-- one call of the script: both sides called, the answers compared; none if they differ -/
def lawS (sh : zSh) (mm : zMem) (v x1 x2 x3 x4 x5 : Int32) : Option zMem := (if v = 0 then lawS0 sh mm x1 x2 x3 x4 x5 else (if v = 1 then lawS1 sh mm x1 x2 x3 x4 x5 else (if v = 2 then lawS2 sh mm x1 x2 x3 x4 x5 else (if v = 3 then lawS3 sh mm x1 x2 x3 x4 x5 else (if v = 4 then lawS4 sh mm x1 x2 x3 x4 x5 else (if v = 5 then lawS5 sh mm x1 x2 x3 x4 x5 else (if v = 6 then lawS6 sh mm x1 x2 x3 x4 x5 else (if v = 7 then lawS7 sh mm x1 x2 x3 x4 x5 else (if v = 8 then lawS8 sh mm x1 x2 x3 x4 x5 else (if v = 9 then lawS9 sh mm x1 x2 x3 x4 x5 else (if v = 10 then lawS10 sh mm x1 x2 x3 x4 x5 else (if v = 11 then lawS11 sh mm x1 x2 x3 x4 x5 else (if v = 12 then lawS12 sh mm x1 x2 x3 x4 x5 else (if v = 13 then lawS13 sh mm x1 x2 x3 x4 x5 else (if v = 14 then lawS14 sh mm x1 x2 x3 x4 x5 else (if v = 15 then lawS15 sh mm x1 x2 x3 x4 x5 else (if v = 16 then lawS16 sh mm x1 x2 x3 x4 x5 else (if v = 17 then lawS17 sh mm x1 x2 x3 x4 x5 else (if v = 18 then lawS18 sh mm x1 x2 x3 x4 x5 else (if v = 19 then lawS19 sh mm x1 x2 x3 x4 x5 else (if v = 20 then lawS20 sh mm x1 x2 x3 x4 x5 else some mm)))))))))))))))))))))
theorem zr_lawret {p : Program} {l : Launch} {e : Env} {s : State} {m : MethodId} {below : List Frame} {meth : Method} {c : Code} {D : va_G} {tA : Nat → ClassId} {b bs : Nat} {f : zV} {n cells slots pc : Nat} {L : List (Nat × Value)} (F : zF p s m #[Value.ref bs] meth c code 7 "OrreryBoxLaw" D tA b) (hbl : bs < b) (hbs : s.heap.size ≤ b) (hr : meth.sig.returnType = ret) (hc : cells ≤ 466700) (hs : slots ≤ 7695972) (hd : decode code pc = .ok (.ireturn, 1)) : Z p l e room_1 s m #[Value.ref bs] below meth c D b 7 (lw_Z below #[Value.ref bs] s) f n cells slots pc L [.int 1] := fun H locs ls hH hS hL => W.widen hc hs (fun T hT X => lw_ret F.hx F.hb hr F.hlk hd T hT (Stand.forget (locs := []) (extra := locs) X (fun y hy => Nat.le_trans hbs (hS.2.2 y hy))))
set_option maxHeartbeats 4000000 in
set_option maxRecDepth 100000 in
theorem law_turn {p : Program} {l : Launch} {e : Env} {s : State} {m : MethodId} {below : List Frame} {meth : Method} {c : Code} {D : va_G} {tA : Nat → ClassId} {b bs L : Nat} {xs : Nat → Int32} {i x0 x1 x2 x3 x4 x5 : Int32} {sh : zSh} {mm mq : zMem} {n cells slots : Nat} (F : zF p s m #[Value.ref bs] meth c code 7 "OrreryBoxLaw" D tA b) (hX : va_X bs L xs s s.heap) (hbl : bs < b) (hbs : s.heap.size ≤ b) (hr : meth.sig.returnType = ret) (hl : l.stackTraces = false) (hi0 : vp_in i L) (hv0 : xs i.toNatClampNeg = x0) (hi1 : vp_in (i + 1) L) (hv1 : xs (i + 1).toNatClampNeg = x1) (hi2 : vp_in (i + 2) L) (hv2 : xs (i + 2).toNatClampNeg = x2) (hi3 : vp_in (i + 3) L) (hv3 : xs (i + 3).toNatClampNeg = x3) (hi4 : vp_in (i + 4) L) (hv4 : xs (i + 4).toNatClampNeg = x4) (hi5 : vp_in (i + 5) L) (hv5 : xs (i + 5).toNatClampNeg = x5) (hc1 : cells + 1 ≤ room_1.cells) (hs1 : slots + 6 ≤ room_1.slots) (h : lawS sh mm (x0 &&& 31) x1 x2 x3 x4 x5 = some mq) (kk : ∀ n1 cells1 slots1 : Nat, cells1 ≤ cells + 1 → slots1 ≤ slots + 6 → Z p l e room_1 s m #[Value.ref bs] below meth c D b 7 (lw_Z below #[Value.ref bs] s) (zW tA b sh mq) n1 cells1 slots1 991 [(0, .ref bs), (1, .ref (b + 0)), (2, .ref (b + 1185)), (3, .ref (b + 1302)), (4, .int i)] []) : Z p l e room_1 s m #[Value.ref bs] below meth c D b 7 (lw_Z below #[Value.ref bs] s) (zW tA b sh mm) n cells slots 53 [(0, .ref bs), (1, .ref (b + 0)), (2, .ref (b + 1185)), (3, .ref (b + 1302)), (4, .int i)] [] := by
  refine zr_aload_n F zd_LW_law_53 rfl ?_
  refine zr_iload F zd_LW_law_54 rfl ?_
  refine zr_sld F hX hbl hi0 zd_LW_law_56 ?_
  refine zr_toi (v' := x0) hv0 ?_
  refine zr_bipushv (v := 31) F zd_LW_law_57 (by decide) ?_
  refine zr_iand F zd_LW_law_59 ?_
  generalize x0 &&& 31 = v at h ⊢
  unfold lawS at h
  by_cases g_0 : v = 0
  ·
    rw [if_pos g_0] at h
    refine zr_tableIn F 160 zd_LW_law_60 (by rw [g_0]; decide) (by rw [g_0]; decide) (by rw [g_0]; rfl) (by decide) ?_
    exact lawk0 F hX hbl hbs hr hl hi1 hv1 hi2 hv2 hi3 hv3 hi4 hv4 hi5 hv5 hc1 hs1 h (fun n1 => kk n1 _ _ (Nat.le_succ _) (Nat.le_add_right _ _))
  rw [if_neg g_0] at h
  by_cases g_1 : v = 1
  ·
    rw [if_pos g_1] at h
    refine zr_tableIn F 233 zd_LW_law_60 (by rw [g_1]; decide) (by rw [g_1]; decide) (by rw [g_1]; rfl) (by decide) ?_
    exact lawk1 F hX hbl hbs hr hl hi1 hv1 hi2 hv2 hi3 hv3 hi4 hv4 hi5 hv5 hc1 hs1 h (fun n1 => kk n1 _ _ (Nat.le_succ _) (Nat.le_add_right _ _))
  rw [if_neg g_1] at h
  by_cases g_2 : v = 2
  ·
    rw [if_pos g_2] at h
    refine zr_tableIn F 258 zd_LW_law_60 (by rw [g_2]; decide) (by rw [g_2]; decide) (by rw [g_2]; rfl) (by decide) ?_
    exact lawk2 F hX hbl hbs hr hl hi1 hv1 hi2 hv2 hi3 hv3 hi4 hv4 hi5 hv5 hc1 hs1 h (fun n1 => kk n1 _ _ (Nat.le_refl _) (Nat.le_refl _))
  rw [if_neg g_2] at h
  by_cases g_3 : v = 3
  ·
    rw [if_pos g_3] at h
    refine zr_tableIn F 302 zd_LW_law_60 (by rw [g_3]; decide) (by rw [g_3]; decide) (by rw [g_3]; rfl) (by decide) ?_
    exact lawk3 F hX hbl hbs hr hl hi1 hv1 hi2 hv2 hi3 hv3 hi4 hv4 hi5 hv5 hc1 hs1 h (fun n1 => kk n1 _ _ (Nat.le_succ _) (Nat.le_add_right _ _))
  rw [if_neg g_3] at h
  by_cases g_4 : v = 4
  ·
    rw [if_pos g_4] at h
    refine zr_tableIn F 327 zd_LW_law_60 (by rw [g_4]; decide) (by rw [g_4]; decide) (by rw [g_4]; rfl) (by decide) ?_
    exact lawk4 F hX hbl hbs hr hl hi1 hv1 hi2 hv2 hi3 hv3 hi4 hv4 hi5 hv5 hc1 hs1 h (fun n1 => kk n1 _ _ (Nat.le_succ _) (Nat.le_add_right _ _))
  rw [if_neg g_4] at h
  by_cases g_5 : v = 5
  ·
    rw [if_pos g_5] at h
    refine zr_tableIn F 352 zd_LW_law_60 (by rw [g_5]; decide) (by rw [g_5]; decide) (by rw [g_5]; rfl) (by decide) ?_
    exact lawk5 F hX hbl hbs hr hl hi1 hv1 hi2 hv2 hi3 hv3 hi4 hv4 hi5 hv5 hc1 hs1 h (fun n1 => kk n1 _ _ (Nat.le_succ _) (Nat.le_add_right _ _))
  rw [if_neg g_5] at h
  by_cases g_6 : v = 6
  ·
    rw [if_pos g_6] at h
    refine zr_tableIn F 377 zd_LW_law_60 (by rw [g_6]; decide) (by rw [g_6]; decide) (by rw [g_6]; rfl) (by decide) ?_
    exact lawk6 F hX hbl hbs hr hl hi1 hv1 hi2 hv2 hi3 hv3 hi4 hv4 hi5 hv5 hc1 hs1 h (fun n1 => kk n1 _ _ (Nat.le_succ _) (Nat.le_add_right _ _))
  rw [if_neg g_6] at h
  by_cases g_7 : v = 7
  ·
    rw [if_pos g_7] at h
    refine zr_tableIn F 450 zd_LW_law_60 (by rw [g_7]; decide) (by rw [g_7]; decide) (by rw [g_7]; rfl) (by decide) ?_
    exact lawk7 F hX hbl hbs hr hl hi1 hv1 hi2 hv2 hi3 hv3 hi4 hv4 hi5 hv5 hc1 hs1 h (fun n1 => kk n1 _ _ (Nat.le_succ _) (Nat.le_add_right _ _))
  rw [if_neg g_7] at h
  by_cases g_8 : v = 8
  ·
    rw [if_pos g_8] at h
    refine zr_tableIn F 487 zd_LW_law_60 (by rw [g_8]; decide) (by rw [g_8]; decide) (by rw [g_8]; rfl) (by decide) ?_
    exact lawk8 F hX hbl hbs hr hl hi1 hv1 hi2 hv2 hi3 hv3 hi4 hv4 hi5 hv5 hc1 hs1 h (fun n1 => kk n1 _ _ (Nat.le_succ _) (Nat.le_add_right _ _))
  rw [if_neg g_8] at h
  by_cases g_9 : v = 9
  ·
    rw [if_pos g_9] at h
    refine zr_tableIn F 540 zd_LW_law_60 (by rw [g_9]; decide) (by rw [g_9]; decide) (by rw [g_9]; rfl) (by decide) ?_
    exact lawk9 F hX hbl hbs hr hl hi1 hv1 hi2 hv2 hi3 hv3 hi4 hv4 hi5 hv5 hc1 hs1 h (fun n1 => kk n1 _ _ (Nat.le_succ _) (Nat.le_add_right _ _))
  rw [if_neg g_9] at h
  by_cases g_10 : v = 10
  ·
    rw [if_pos g_10] at h
    refine zr_tableIn F 601 zd_LW_law_60 (by rw [g_10]; decide) (by rw [g_10]; decide) (by rw [g_10]; rfl) (by decide) ?_
    exact lawk10 F hX hbl hbs hr hl hi1 hv1 hi2 hv2 hi3 hv3 hi4 hv4 hi5 hv5 hc1 hs1 h (fun n1 => kk n1 _ _ (Nat.le_succ _) (Nat.le_add_right _ _))
  rw [if_neg g_10] at h
  by_cases g_11 : v = 11
  ·
    rw [if_pos g_11] at h
    refine zr_tableIn F 662 zd_LW_law_60 (by rw [g_11]; decide) (by rw [g_11]; decide) (by rw [g_11]; rfl) (by decide) ?_
    exact lawk11 F hX hbl hbs hr hl hi1 hv1 hi2 hv2 hi3 hv3 hi4 hv4 hi5 hv5 hc1 hs1 h (fun n1 => kk n1 _ _ (Nat.le_succ _) (Nat.le_add_right _ _))
  rw [if_neg g_11] at h
  by_cases g_12 : v = 12
  ·
    rw [if_pos g_12] at h
    refine zr_tableIn F 711 zd_LW_law_60 (by rw [g_12]; decide) (by rw [g_12]; decide) (by rw [g_12]; rfl) (by decide) ?_
    exact lawk12 F hX hbl hbs hr hl hi1 hv1 hi2 hv2 hi3 hv3 hi4 hv4 hi5 hv5 hc1 hs1 h (fun n1 => kk n1 _ _ (Nat.le_refl _) (Nat.le_refl _))
  rw [if_neg g_12] at h
  by_cases g_13 : v = 13
  ·
    rw [if_pos g_13] at h
    refine zr_tableIn F 791 zd_LW_law_60 (by rw [g_13]; decide) (by rw [g_13]; decide) (by rw [g_13]; rfl) (by decide) ?_
    exact lawk13 F hX hbl hbs hr hl hi1 hv1 hi2 hv2 hi3 hv3 hi4 hv4 hi5 hv5 hc1 hs1 h (fun n1 => kk n1 _ _ (Nat.le_succ _) (Nat.le_add_right _ _))
  rw [if_neg g_13] at h
  by_cases g_14 : v = 14
  ·
    rw [if_pos g_14] at h
    refine zr_tableIn F 804 zd_LW_law_60 (by rw [g_14]; decide) (by rw [g_14]; decide) (by rw [g_14]; rfl) (by decide) ?_
    exact lawk14 F hX hbl hbs hr hl hi1 hv1 hi2 hv2 hi3 hv3 hi4 hv4 hi5 hv5 hc1 hs1 h (fun n1 => kk n1 _ _ (Nat.le_succ _) (Nat.le_add_right _ _))
  rw [if_neg g_14] at h
  by_cases g_15 : v = 15
  ·
    rw [if_pos g_15] at h
    refine zr_tableIn F 829 zd_LW_law_60 (by rw [g_15]; decide) (by rw [g_15]; decide) (by rw [g_15]; rfl) (by decide) ?_
    exact lawk15 F hX hbl hbs hr hl hi1 hv1 hi2 hv2 hi3 hv3 hi4 hv4 hi5 hv5 hc1 hs1 h (fun n1 => kk n1 _ _ (Nat.le_succ _) (Nat.le_add_right _ _))
  rw [if_neg g_15] at h
  by_cases g_16 : v = 16
  ·
    rw [if_pos g_16] at h
    refine zr_tableIn F 866 zd_LW_law_60 (by rw [g_16]; decide) (by rw [g_16]; decide) (by rw [g_16]; rfl) (by decide) ?_
    exact lawk16 F hX hbl hbs hr hl hi1 hv1 hi2 hv2 hi3 hv3 hi4 hv4 hi5 hv5 hc1 hs1 h (fun n1 => kk n1 _ _ (Nat.le_succ _) (Nat.le_add_right _ _))
  rw [if_neg g_16] at h
  by_cases g_17 : v = 17
  ·
    rw [if_pos g_17] at h
    refine zr_tableIn F 903 zd_LW_law_60 (by rw [g_17]; decide) (by rw [g_17]; decide) (by rw [g_17]; rfl) (by decide) ?_
    exact lawk17 F hX hbl hbs hr hl hi1 hv1 hi2 hv2 hi3 hv3 hi4 hv4 hi5 hv5 hc1 hs1 h (fun n1 => kk n1 _ _ (Nat.le_succ _) (Nat.le_add_right _ _))
  rw [if_neg g_17] at h
  by_cases g_18 : v = 18
  ·
    rw [if_pos g_18] at h
    refine zr_tableIn F 940 zd_LW_law_60 (by rw [g_18]; decide) (by rw [g_18]; decide) (by rw [g_18]; rfl) (by decide) ?_
    exact lawk18 F hX hbl hbs hr hl hi1 hv1 hi2 hv2 hi3 hv3 hi4 hv4 hi5 hv5 hc1 hs1 h (fun n1 => kk n1 _ _ (Nat.le_succ _) (Nat.le_add_right _ _))
  rw [if_neg g_18] at h
  by_cases g_19 : v = 19
  ·
    rw [if_pos g_19] at h
    refine zr_tableIn F 953 zd_LW_law_60 (by rw [g_19]; decide) (by rw [g_19]; decide) (by rw [g_19]; rfl) (by decide) ?_
    exact lawk19 F hX hbl hbs hr hl hi1 hv1 hi2 hv2 hi3 hv3 hi4 hv4 hi5 hv5 hc1 hs1 h (fun n1 => kk n1 _ _ (Nat.le_succ _) (Nat.le_add_right _ _))
  rw [if_neg g_19] at h
  by_cases g_20 : v = 20
  ·
    rw [if_pos g_20] at h
    refine zr_tableIn F 966 zd_LW_law_60 (by rw [g_20]; decide) (by rw [g_20]; decide) (by rw [g_20]; rfl) (by decide) ?_
    exact lawk20 F hX hbl hbs hr hl hi1 hv1 hi2 hv2 hi3 hv3 hi4 hv4 hi5 hv5 hc1 hs1 h (fun n1 => kk n1 _ _ (Nat.le_succ _) (Nat.le_add_right _ _))
  rw [if_neg g_20] at h
  obtain rfl := Option.some.inj h
  refine zr_tableOut F 991 zd_LW_law_60 (zx_out v 0 20 (by decide) (by decide) (by decide) (by omega) (fun j hj => by match j, hj with | 0, _ => exact g_0 | 1, _ => exact g_1 | 2, _ => exact g_2 | 3, _ => exact g_3 | 4, _ => exact g_4 | 5, _ => exact g_5 | 6, _ => exact g_6 | 7, _ => exact g_7 | 8, _ => exact g_8 | 9, _ => exact g_9 | 10, _ => exact g_10 | 11, _ => exact g_11 | 12, _ => exact g_12 | 13, _ => exact g_13 | 14, _ => exact g_14 | 15, _ => exact g_15 | 16, _ => exact g_16 | 17, _ => exact g_17 | 18, _ => exact g_18 | 19, _ => exact g_19 | 20, _ => exact g_20 | j + 21, hq => exact absurd hq (by omega))) (by decide) ?_
  exact kk n _ _ (Nat.le_succ _) (Nat.le_add_right _ _)
set_option maxHeartbeats 4000000 in
set_option maxRecDepth 100000 in
theorem zx_sub6 {L : Nat} (h : L < 2 ^ 30) : (nI L - 6).toInt = (L : Int) - 6 := by
  have h1 : (nI L).toInt = L := nI_toInt (by omega)
  have h2 : (6 : Int32).toInt = 6 := by decide
  rw [Int32.toInt_sub, h1, h2]
  rw [Int.bmod_eq_of_le] <;> omega
theorem nI_add2 {a c : Nat} (h : a + c < 2 ^ 31) : nI a + nI c = nI (a + c) := by
  apply Int32.toInt_inj.mp
  rw [Int32.toInt_add, nI_toInt (by omega), nI_toInt (by omega), nI_toInt h]
  rw [Int.bmod_eq_of_le] <;> omega
theorem zx_add6 {i : Nat} (h : i + 6 < 2 ^ 31) : nI i + Int32.ofInt 6 = nI (i + 6) := nI_add2 h
set_option maxHeartbeats 4000000 in
set_option maxRecDepth 100000 in
/-- THE LAW OUT OF AN INVARIANT: what holds of the memory and is kept by each call, with equal answers, brings the law to its end with true -/
theorem law_loop {p : Program} {l : Launch} {e : Env} {s : State} {m : MethodId} {below : List Frame} {meth : Method} {c : Code} {D : va_G} {tA : Nat → ClassId} {b bs L : Nat} {xs : Nat → Int32} {sh : zSh} (PP : zMem → Prop) (hstep : ∀ (mm : zMem) (v x1 x2 x3 x4 x5 : Int32), PP mm → ∃ mq : zMem, lawS sh mm v x1 x2 x3 x4 x5 = some mq ∧ PP mq) (F : zF p s m #[Value.ref bs] meth c code 7 "OrreryBoxLaw" D tA b) (hX : va_X bs L xs s s.heap) (hbl : bs < b) (hbs : s.heap.size ≤ b) (hr : meth.sig.returnType = ret) (hl : l.stackTraces = false) (hL : L ≤ 3074) : ∀ (K i n cells slots : Nat) (mm : zMem), PP mm → L ≤ i + 6 * K → i ≤ L + 6 → cells + K ≤ 3000 → slots + 6 * K ≤ 2000000 → Z p l e room_1 s m #[Value.ref bs] below meth c D b 7 (lw_Z below #[Value.ref bs] s) (zW tA b sh mm) n cells slots 43 [(0, .ref bs), (1, .ref (b + 0)), (2, .ref (b + 1185)), (3, .ref (b + 1302)), (4, .int (nI i))] [] := by
  intro K
  induction K with
  | zero =>
    intro i n cells slots mm hP h1 h2 h3 h4
    refine zr_iload F zd_LW_law_43 rfl ?_
    refine zr_aload_n F zd_LW_law_45 rfl ?_
    refine zr_slen F hX hbl zd_LW_law_46 ?_
    refine zr_bipushv (v := 6) F zd_LW_law_47 (by decide) ?_
    refine zr_isub F zd_LW_law_49 ?_
    refine zr_icmp_gt F 997 zd_LW_law_50 (by decide) (fun _ => ?_) (fun hg => absurd ?_ hg)
    · refine zr_iconstv (v := 1) F zd_LW_law_997 (by decide) ?_
      exact zr_lawret F hbl hbs hr (by omega) (by omega) zd_LW_law_998
    · rw [Int32.lt_iff_toInt_lt, nI_toInt (by omega), zx_sub6 (by omega)]
      omega
  | succ K ih =>
    intro i n cells slots mm hP h1 h2 h3 h4
    have hc1 : cells + 1 ≤ room_1.cells := Nat.le_trans (show cells + 1 ≤ 3000 by omega) (Nat.le_of_ble_eq_true rfl)
    have hs1 : slots + 6 ≤ room_1.slots := Nat.le_trans (show slots + 6 ≤ 2000000 by omega) (Nat.le_of_ble_eq_true rfl)
    refine zr_iload F zd_LW_law_43 rfl ?_
    refine zr_aload_n F zd_LW_law_45 rfl ?_
    refine zr_slen F hX hbl zd_LW_law_46 ?_
    refine zr_bipushv (v := 6) F zd_LW_law_47 (by decide) ?_
    refine zr_isub F zd_LW_law_49 ?_
    refine zr_icmp_gt F 997 zd_LW_law_50 (by decide) (fun hg => ?_) (fun hg => ?_)
    ·
      refine zr_iconstv (v := 1) F zd_LW_law_997 (by decide) ?_
      exact zr_lawret F hbl hbs hr (by omega) (by omega) zd_LW_law_998
    ·
      have hle : i + 6 ≤ L := by
        have h1 : (nI i).toInt = i := nI_toInt (by omega)
        have h2 : (nI L - 6).toInt = (L : Int) - 6 := zx_sub6 (by omega)
        rw [Int32.lt_iff_toInt_lt, h1, h2] at hg
        omega
      have hin : ∀ c : Nat, c < 6 → vp_in (nI i + nI c) L ∧ (nI i + nI c).toNatClampNeg = i + c := fun c hc => by
        rw [nI_add2 (by omega)]
        exact ⟨vp_in_nI (by omega) (by omega), nI_clamp (by omega)⟩
      obtain ⟨mq, hq, hPq⟩ := hstep mm (xs i &&& 31) (xs (i + 1)) (xs (i + 2)) (xs (i + 3)) (xs (i + 4)) (xs (i + 5)) hP
      refine law_turn F hX hbl hbs hr hl (x0 := xs i) (x1 := xs (i + 1)) (x2 := xs (i + 2)) (x3 := xs (i + 3)) (x4 := xs (i + 4)) (x5 := xs (i + 5)) (vp_in_nI (by omega) (by omega)) (by rw [nI_clamp (by omega)]) (hin 1 (by decide)).1 (by rw [show (nI i + 1).toNatClampNeg = i + 1 from (hin 1 (by decide)).2]) (hin 2 (by decide)).1 (by rw [show (nI i + 2).toNatClampNeg = i + 2 from (hin 2 (by decide)).2]) (hin 3 (by decide)).1 (by rw [show (nI i + 3).toNatClampNeg = i + 3 from (hin 3 (by decide)).2]) (hin 4 (by decide)).1 (by rw [show (nI i + 4).toNatClampNeg = i + 4 from (hin 4 (by decide)).2]) (hin 5 (by decide)).1 (by rw [show (nI i + 5).toNatClampNeg = i + 5 from (hin 5 (by decide)).2]) hc1 hs1 hq (fun n1 cells1 slots1 g1 g2 => ?_)
      refine zr_iinc (v := nI (i + 6)) F zd_LW_law_991 rfl (zx_add6 (by omega)) (by decide) ?_
      refine zr_goto F 43 zd_LW_law_994 (by decide) ?_
      refine zr_loc (L' := [(0, .ref bs), (1, .ref (b + 0)), (2, .ref (b + 1185)), (3, .ref (b + 1302)), (4, .int (nI (i + 6)))]) ⟨rfl, rfl, rfl, rfl, rfl, trivial⟩ ?_
      exact ih (i + 6) n1 cells1 slots1 mq hPq (by omega) (by omega) (by omega) (by omega)
