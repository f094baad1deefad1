/-- a list of cells whose place p holds the array of the i objects that stand behind it -/
def zsl (B : List va_E) (q : Nat) (cell : Nat → va_E) (E : Nat → List va_E) (i : Nat) : List va_E := B.set q (cell i) ++ (List.range i).flatMap E
def zra (b base wd i : Nat) : Nat → Option Nat := fun j => if j < i then some (b + (base + wd * j)) else none
theorem zra_0 (b base wd : Nat) : zra b base wd 0 = fun _ => none := by funext j; simp [zra]
theorem zra_s (b base wd i : Nat) {q : Nat} {x : Int32} (hq : base + wd * i = q) (hx : x.toNatClampNeg = i) : va_up (zra b base wd i) x.toNatClampNeg (some (b + q)) = zra b base wd (i + 1) := by
  subst hq
  rw [hx]
  funext j
  unfold va_up zra
  by_cases h : j = i
  · simp [h]
  · by_cases h2 : j < i
    · simp [h, h2, Nat.lt_succ_of_lt h2]
    · simp [h, h2, show ¬ j < i + 1 by omega]
theorem zfl_len {E : Nat → List va_E} {wd : Nat} (hE : ∀ j, (E j).length = wd) : ∀ i, ((List.range i).flatMap E).length = wd * i
  | 0 => rfl
  | i + 1 => by
    rw [List.range_succ, List.flatMap_append, List.length_append, zfl_len hE i]
    simp [hE]
    rw [Nat.mul_succ]
theorem zsl_len {B : List va_E} {q : Nat} {cell : Nat → va_E} {E : Nat → List va_E} {i wd off : Nat} (hB : B.length = off) (hE : ∀ j, (E j).length = wd) : (zsl B q cell E i).length = off + wd * i := by
  unfold zsl
  rw [List.length_append, List.length_set, hB, zfl_len hE]
theorem zsl_at {B : List va_E} {q : Nat} {cell : Nat → va_E} {E : Nat → List va_E} {i off : Nat} (hB : B.length = off) (hq : q < off) (Y : List va_E) : (zsl B q cell E i ++ Y)[q]? = some (cell i) := by
  unfold zsl
  rw [List.append_assoc, List.getElem?_append_left (by rw [List.length_set]; omega), List.getElem?_set_self (by omega)]
theorem zsl_at0 {B : List va_E} {q : Nat} {cell : Nat → va_E} {E : Nat → List va_E} {i off : Nat} (hB : B.length = off) (hq : q < off) : (zsl B q cell E i)[q]? = some (cell i) := by
  have h := zsl_at (cell := cell) (E := E) (i := i) hB hq []
  rwa [List.append_nil] at h
theorem zsl_end {B : List va_E} {q : Nat} {cell : Nat → va_E} {E : Nat → List va_E} {i wd off : Nat} (hB : B.length = off) (hE : ∀ j, (E j).length = wd) (x : va_E) (Y : List va_E) : (zsl B q cell E i ++ (x :: Y))[off + wd * i]? = some x := by
  rw [List.getElem?_append_right (by rw [zsl_len hB hE]; omega), zsl_len hB hE, Nat.sub_self]
  rfl
theorem zsl_s {B : List va_E} {q : Nat} {cell : Nat → va_E} {E : Nat → List va_E} {i off : Nat} (hB : B.length = off) (hq : q < off) : (zsl B q cell E i ++ E i).set q (cell (i + 1)) = zsl B q cell E (i + 1) := by
  unfold zsl
  rw [List.append_assoc, List.set_append_left _ _ (by rw [List.length_set]; omega), List.set_set, List.range_succ, List.flatMap_append]
  simp
theorem zsl_0 {B : List va_E} {q : Nat} {cell : Nat → va_E} {E : Nat → List va_E} (h : B[q]? = some (cell 0)) : zsl B q cell E 0 = B := by
  unfold zsl
  simp only [List.range_zero, List.flatMap_nil, List.append_nil]
  apply List.ext_getElem?
  intro j
  by_cases hj : j = q
  · subst hj
    rw [List.getElem?_set_self (List.getElem?_eq_some_iff.mp h).1, h]
  · rw [List.getElem?_set_ne (Ne.symm hj)]
/-- an object and its two, its four arrays come behind the block -/
theorem zb_n2 {f : zV} {n k q : Nat} {l : List va_E} {o x0 x A1 A2 : va_E} (hk : k < n) (hq : n + l.length = q) : zu (zu (zu (zu (zb f n (l ++ [x0])) k o) (q + 1) A1) (q + 1 + 1) A2) q x = zu (zb f n (l ++ [x, A1, A2])) k o := by
  subst hq
  rw [zb_a (l' := l ++ [x0, A1]) hk (by simp; omega) (by simp), zb_a (l' := l ++ [x0, A1, A2]) hk (by simp; omega) (by simp)]
  exact zb_s (i := l.length) hk rfl (by simp) (by rw [List.set_append_right _ _ (Nat.le_refl _)]; simp)
theorem zb_n4 {f : zV} {n k q : Nat} {l : List va_E} {o x0 x A1 A2 A3 A4 : va_E} (hk : k < n) (hq : n + l.length = q) : zu (zu (zu (zu (zu (zu (zb f n (l ++ [x0])) k o) (q + 1) A1) (q + 1 + 1) A2) (q + 1 + 1 + 1) A3) (q + 1 + 1 + 1 + 1) A4) q x = zu (zb f n (l ++ [x, A1, A2, A3, A4])) k o := by
  subst hq
  rw [zb_a (l' := l ++ [x0, A1]) hk (by simp; omega) (by simp), zb_a (l' := l ++ [x0, A1, A2]) hk (by simp; omega) (by simp), zb_a (l' := l ++ [x0, A1, A2, A3]) hk (by simp; omega) (by simp), zb_a (l' := l ++ [x0, A1, A2, A3, A4]) hk (by simp; omega) (by simp)]
  exact zb_s (i := l.length) hk rfl (by simp) (by rw [List.set_append_right _ _ (Nat.le_refl _)]; simp)
abbrev zb_XScene_init : ByteArray := prog_9_method_1_code
def zy_XScene_init : MethodName := ⟨"OrreryBox$Scene", "<init>", "()V"⟩
theorem zc_XScene_init : Cond.code zy_XScene_init zb_XScene_init 2 none ∈ gw := gw_t 129 (by decide +kernel) rfl
theorem zq_XScene_init : zy_XScene_init.cls ≠ "java/lang/invoke/MethodHandle" ∧ zy_XScene_init.cls ≠ "java/lang/invoke/VarHandle" ∧ (parseMethodDescriptor zy_XScene_init.desc).map (fun d => d.parameters.length) = some 0 := by decide +kernel
theorem zd_XScene_init_0 : decode zb_XScene_init 0 = .ok (.aload_n 0, 1) := by decide +kernel
theorem zd_XScene_init_1 : decode zb_XScene_init 1 = .ok (.invokespecial 3, 3) := by decide +kernel
theorem zd_XScene_init_4 : decode zb_XScene_init 4 = .ok (.aload_n 0, 1) := by decide +kernel
theorem zd_XScene_init_5 : decode zb_XScene_init 5 = .ok (.iconst 5, 1) := by decide +kernel
theorem zd_XScene_init_6 : decode zb_XScene_init 6 = .ok (.newarray .int, 2) := by decide +kernel
theorem zd_XScene_init_8 : decode zb_XScene_init 8 = .ok (.putfield 9, 3) := by decide +kernel
theorem zd_XScene_init_11 : decode zb_XScene_init 11 = .ok (.aload_n 0, 1) := by decide +kernel
theorem zd_XScene_init_12 : decode zb_XScene_init 12 = .ok (.getstatic 15, 3) := by decide +kernel
theorem zd_XScene_init_15 : decode zb_XScene_init 15 = .ok (.iconst 0, 1) := by decide +kernel
theorem zd_XScene_init_16 : decode zb_XScene_init 16 = .ok (.iaload, 1) := by decide +kernel
theorem zd_XScene_init_17 : decode zb_XScene_init 17 = .ok (.anewarray 18, 3) := by decide +kernel
theorem zd_XScene_init_20 : decode zb_XScene_init 20 = .ok (.putfield 20, 3) := by decide +kernel
theorem zd_XScene_init_23 : decode zb_XScene_init 23 = .ok (.aload_n 0, 1) := by decide +kernel
theorem zd_XScene_init_24 : decode zb_XScene_init 24 = .ok (.getstatic 15, 3) := by decide +kernel
theorem zd_XScene_init_27 : decode zb_XScene_init 27 = .ok (.iconst 1, 1) := by decide +kernel
theorem zd_XScene_init_28 : decode zb_XScene_init 28 = .ok (.iaload, 1) := by decide +kernel
theorem zd_XScene_init_29 : decode zb_XScene_init 29 = .ok (.bipush 6, 2) := by decide +kernel
theorem zd_XScene_init_31 : decode zb_XScene_init 31 = .ok (.multianewarray 24 2, 4) := by decide +kernel
theorem zd_XScene_init_35 : decode zb_XScene_init 35 = .ok (.putfield 26, 3) := by decide +kernel
theorem zd_XScene_init_38 : decode zb_XScene_init 38 = .ok (.aload_n 0, 1) := by decide +kernel
theorem zd_XScene_init_39 : decode zb_XScene_init 39 = .ok (.getstatic 15, 3) := by decide +kernel
theorem zd_XScene_init_42 : decode zb_XScene_init 42 = .ok (.iconst 2, 1) := by decide +kernel
theorem zd_XScene_init_43 : decode zb_XScene_init 43 = .ok (.iaload, 1) := by decide +kernel
theorem zd_XScene_init_44 : decode zb_XScene_init 44 = .ok (.anewarray 29, 3) := by decide +kernel
theorem zd_XScene_init_47 : decode zb_XScene_init 47 = .ok (.putfield 31, 3) := by decide +kernel
theorem zd_XScene_init_50 : decode zb_XScene_init 50 = .ok (.aload_n 0, 1) := by decide +kernel
theorem zd_XScene_init_51 : decode zb_XScene_init 51 = .ok (.getstatic 15, 3) := by decide +kernel
theorem zd_XScene_init_54 : decode zb_XScene_init 54 = .ok (.iconst 3, 1) := by decide +kernel
theorem zd_XScene_init_55 : decode zb_XScene_init 55 = .ok (.iaload, 1) := by decide +kernel
theorem zd_XScene_init_56 : decode zb_XScene_init 56 = .ok (.anewarray 35, 3) := by decide +kernel
theorem zd_XScene_init_59 : decode zb_XScene_init 59 = .ok (.putfield 37, 3) := by decide +kernel
theorem zd_XScene_init_62 : decode zb_XScene_init 62 = .ok (.aload_n 0, 1) := by decide +kernel
theorem zd_XScene_init_63 : decode zb_XScene_init 63 = .ok (.getstatic 15, 3) := by decide +kernel
theorem zd_XScene_init_66 : decode zb_XScene_init 66 = .ok (.iconst 4, 1) := by decide +kernel
theorem zd_XScene_init_67 : decode zb_XScene_init 67 = .ok (.iaload, 1) := by decide +kernel
theorem zd_XScene_init_68 : decode zb_XScene_init 68 = .ok (.anewarray 41, 3) := by decide +kernel
theorem zd_XScene_init_71 : decode zb_XScene_init 71 = .ok (.putfield 43, 3) := by decide +kernel
theorem zd_XScene_init_74 : decode zb_XScene_init 74 = .ok (.aload_n 0, 1) := by decide +kernel
theorem zd_XScene_init_75 : decode zb_XScene_init 75 = .ok (.bipush 7, 2) := by decide +kernel
theorem zd_XScene_init_77 : decode zb_XScene_init 77 = .ok (.newarray .int, 2) := by decide +kernel
theorem zd_XScene_init_79 : decode zb_XScene_init 79 = .ok (.putfield 47, 3) := by decide +kernel
theorem zd_XScene_init_82 : decode zb_XScene_init 82 = .ok (.aload_n 0, 1) := by decide +kernel
theorem zd_XScene_init_83 : decode zb_XScene_init 83 = .ok (.iconst 4, 1) := by decide +kernel
theorem zd_XScene_init_84 : decode zb_XScene_init 84 = .ok (.newarray .int, 2) := by decide +kernel
theorem zd_XScene_init_86 : decode zb_XScene_init 86 = .ok (.putfield 50, 3) := by decide +kernel
theorem zd_XScene_init_89 : decode zb_XScene_init 89 = .ok (.aload_n 0, 1) := by decide +kernel
theorem zd_XScene_init_90 : decode zb_XScene_init 90 = .ok (.bipush 12, 2) := by decide +kernel
theorem zd_XScene_init_92 : decode zb_XScene_init 92 = .ok (.newarray .int, 2) := by decide +kernel
theorem zd_XScene_init_94 : decode zb_XScene_init 94 = .ok (.putfield 53, 3) := by decide +kernel
theorem zd_XScene_init_97 : decode zb_XScene_init 97 = .ok (.iconst 0, 1) := by decide +kernel
theorem zd_XScene_init_98 : decode zb_XScene_init 98 = .ok (.istore_n 1, 1) := by decide +kernel
theorem zd_XScene_init_99 : decode zb_XScene_init 99 = .ok (.iload_n 1, 1) := by decide +kernel
theorem zd_XScene_init_100 : decode zb_XScene_init 100 = .ok (.aload_n 0, 1) := by decide +kernel
theorem zd_XScene_init_101 : decode zb_XScene_init 101 = .ok (.getfield 20, 3) := by decide +kernel
theorem zd_XScene_init_104 : decode zb_XScene_init 104 = .ok (.arraylength, 1) := by decide +kernel
theorem zd_XScene_init_105 : decode zb_XScene_init 105 = .ok (.if_icmp .ge 22, 3) := by decide +kernel
theorem zd_XScene_init_108 : decode zb_XScene_init 108 = .ok (.aload_n 0, 1) := by decide +kernel
theorem zd_XScene_init_109 : decode zb_XScene_init 109 = .ok (.getfield 20, 3) := by decide +kernel
theorem zd_XScene_init_112 : decode zb_XScene_init 112 = .ok (.iload_n 1, 1) := by decide +kernel
theorem zd_XScene_init_113 : decode zb_XScene_init 113 = .ok (.new 18, 3) := by decide +kernel
theorem zd_XScene_init_116 : decode zb_XScene_init 116 = .ok (.dup, 1) := by decide +kernel
theorem zd_XScene_init_117 : decode zb_XScene_init 117 = .ok (.invokespecial 56, 3) := by decide +kernel
theorem zd_XScene_init_120 : decode zb_XScene_init 120 = .ok (.aastore, 1) := by decide +kernel
theorem zd_XScene_init_121 : decode zb_XScene_init 121 = .ok (.iinc 1 1, 3) := by decide +kernel
theorem zd_XScene_init_124 : decode zb_XScene_init 124 = .ok (.goto (-25), 3) := by decide +kernel
theorem zd_XScene_init_127 : decode zb_XScene_init 127 = .ok (.iconst 0, 1) := by decide +kernel
theorem zd_XScene_init_128 : decode zb_XScene_init 128 = .ok (.istore_n 1, 1) := by decide +kernel
theorem zd_XScene_init_129 : decode zb_XScene_init 129 = .ok (.iload_n 1, 1) := by decide +kernel
theorem zd_XScene_init_130 : decode zb_XScene_init 130 = .ok (.aload_n 0, 1) := by decide +kernel
theorem zd_XScene_init_131 : decode zb_XScene_init 131 = .ok (.getfield 31, 3) := by decide +kernel
theorem zd_XScene_init_134 : decode zb_XScene_init 134 = .ok (.arraylength, 1) := by decide +kernel
theorem zd_XScene_init_135 : decode zb_XScene_init 135 = .ok (.if_icmp .ge 22, 3) := by decide +kernel
theorem zd_XScene_init_138 : decode zb_XScene_init 138 = .ok (.aload_n 0, 1) := by decide +kernel
theorem zd_XScene_init_139 : decode zb_XScene_init 139 = .ok (.getfield 31, 3) := by decide +kernel
theorem zd_XScene_init_142 : decode zb_XScene_init 142 = .ok (.iload_n 1, 1) := by decide +kernel
theorem zd_XScene_init_143 : decode zb_XScene_init 143 = .ok (.new 29, 3) := by decide +kernel
theorem zd_XScene_init_146 : decode zb_XScene_init 146 = .ok (.dup, 1) := by decide +kernel
theorem zd_XScene_init_147 : decode zb_XScene_init 147 = .ok (.invokespecial 57, 3) := by decide +kernel
theorem zd_XScene_init_150 : decode zb_XScene_init 150 = .ok (.aastore, 1) := by decide +kernel
theorem zd_XScene_init_151 : decode zb_XScene_init 151 = .ok (.iinc 1 1, 3) := by decide +kernel
theorem zd_XScene_init_154 : decode zb_XScene_init 154 = .ok (.goto (-25), 3) := by decide +kernel
theorem zd_XScene_init_157 : decode zb_XScene_init 157 = .ok (.iconst 0, 1) := by decide +kernel
theorem zd_XScene_init_158 : decode zb_XScene_init 158 = .ok (.istore_n 1, 1) := by decide +kernel
theorem zd_XScene_init_159 : decode zb_XScene_init 159 = .ok (.iload_n 1, 1) := by decide +kernel
theorem zd_XScene_init_160 : decode zb_XScene_init 160 = .ok (.aload_n 0, 1) := by decide +kernel
theorem zd_XScene_init_161 : decode zb_XScene_init 161 = .ok (.getfield 37, 3) := by decide +kernel
theorem zd_XScene_init_164 : decode zb_XScene_init 164 = .ok (.arraylength, 1) := by decide +kernel
theorem zd_XScene_init_165 : decode zb_XScene_init 165 = .ok (.if_icmp .ge 22, 3) := by decide +kernel
theorem zd_XScene_init_168 : decode zb_XScene_init 168 = .ok (.aload_n 0, 1) := by decide +kernel
theorem zd_XScene_init_169 : decode zb_XScene_init 169 = .ok (.getfield 37, 3) := by decide +kernel
theorem zd_XScene_init_172 : decode zb_XScene_init 172 = .ok (.iload_n 1, 1) := by decide +kernel
theorem zd_XScene_init_173 : decode zb_XScene_init 173 = .ok (.new 35, 3) := by decide +kernel
theorem zd_XScene_init_176 : decode zb_XScene_init 176 = .ok (.dup, 1) := by decide +kernel
theorem zd_XScene_init_177 : decode zb_XScene_init 177 = .ok (.invokespecial 58, 3) := by decide +kernel
theorem zd_XScene_init_180 : decode zb_XScene_init 180 = .ok (.aastore, 1) := by decide +kernel
theorem zd_XScene_init_181 : decode zb_XScene_init 181 = .ok (.iinc 1 1, 3) := by decide +kernel
theorem zd_XScene_init_184 : decode zb_XScene_init 184 = .ok (.goto (-25), 3) := by decide +kernel
theorem zd_XScene_init_187 : decode zb_XScene_init 187 = .ok (.iconst 0, 1) := by decide +kernel
theorem zd_XScene_init_188 : decode zb_XScene_init 188 = .ok (.istore_n 1, 1) := by decide +kernel
theorem zd_XScene_init_189 : decode zb_XScene_init 189 = .ok (.iload_n 1, 1) := by decide +kernel
theorem zd_XScene_init_190 : decode zb_XScene_init 190 = .ok (.aload_n 0, 1) := by decide +kernel
theorem zd_XScene_init_191 : decode zb_XScene_init 191 = .ok (.getfield 43, 3) := by decide +kernel
theorem zd_XScene_init_194 : decode zb_XScene_init 194 = .ok (.arraylength, 1) := by decide +kernel
theorem zd_XScene_init_195 : decode zb_XScene_init 195 = .ok (.if_icmp .ge 22, 3) := by decide +kernel
theorem zd_XScene_init_198 : decode zb_XScene_init 198 = .ok (.aload_n 0, 1) := by decide +kernel
theorem zd_XScene_init_199 : decode zb_XScene_init 199 = .ok (.getfield 43, 3) := by decide +kernel
theorem zd_XScene_init_202 : decode zb_XScene_init 202 = .ok (.iload_n 1, 1) := by decide +kernel
theorem zd_XScene_init_203 : decode zb_XScene_init 203 = .ok (.new 41, 3) := by decide +kernel
theorem zd_XScene_init_206 : decode zb_XScene_init 206 = .ok (.dup, 1) := by decide +kernel
theorem zd_XScene_init_207 : decode zb_XScene_init 207 = .ok (.invokespecial 59, 3) := by decide +kernel
theorem zd_XScene_init_210 : decode zb_XScene_init 210 = .ok (.aastore, 1) := by decide +kernel
theorem zd_XScene_init_211 : decode zb_XScene_init 211 = .ok (.iinc 1 1, 3) := by decide +kernel
theorem zd_XScene_init_214 : decode zb_XScene_init 214 = .ok (.goto (-25), 3) := by decide +kernel
theorem zd_XScene_init_217 : decode zb_XScene_init 217 = .ok (.aload_n 0, 1) := by decide +kernel
theorem zd_XScene_init_218 : decode zb_XScene_init 218 = .ok (.invokevirtual 60, 3) := by decide +kernel
theorem zd_XScene_init_221 : decode zb_XScene_init 221 = .ok (.return_, 1) := by decide +kernel
theorem zdef_XScene : ∀ j, j < 11 → defaultValue (zk_ty 8 j) = vp_V [.null, .null, .null, .null, .null, .null, .null, .null, .int 0, .int 0, .null] j := by
  intro j hj
  match j, hj with
  | 0, _ => rfl
  | 1, _ => rfl
  | 2, _ => rfl
  | 3, _ => rfl
  | 4, _ => rfl
  | 5, _ => rfl
  | 6, _ => rfl
  | 7, _ => rfl
  | 8, _ => rfl
  | 9, _ => rfl
  | 10, _ => rfl
  | k + 11, h => exact absurd h (by omega)
theorem zw_130 : (Jvm.Cond.methodLink "OrreryBox$Scene" (3 : Nat) ({ cls := "java/lang/Object", name := "<init>", desc := "()V" } : Jvm.MethodName)) ∈ gw := gw_t 130 (by decide +kernel) rfl
theorem zw_131 : (Jvm.Cond.fieldLinkNest "OrreryBox$Scene" (15 : Nat) "OrreryBox" "LIMITS" "[I" "OrreryBox") ∈ gn := gn_t 131 (by decide +kernel) rfl
theorem zw_133 : (Jvm.Cond.classLink "OrreryBox$Scene" (18 : Nat) "OrreryBox$Texture") ∈ gw := gw_t 133 (by decide +kernel) rfl
theorem zw_285 : (Jvm.Cond.fieldLink "OrreryBox$Scene" (20 : Nat) "OrreryBox$Scene" "textures" "[LOrreryBox$Texture;") ∈ gw := gw_t 285 (by decide +kernel) rfl
theorem zw_135 : (Jvm.Cond.classLink "OrreryBox$Scene" (24 : Nat) "[[I") ∈ gw := gw_t 135 (by decide +kernel) rfl
theorem zw_288 : (Jvm.Cond.fieldLink "OrreryBox$Scene" (26 : Nat) "OrreryBox$Scene" "materials" "[[I") ∈ gw := gw_t 288 (by decide +kernel) rfl
theorem zw_137 : (Jvm.Cond.classLink "OrreryBox$Scene" (29 : Nat) "OrreryBox$Mesh") ∈ gw := gw_t 137 (by decide +kernel) rfl
theorem zw_292 : (Jvm.Cond.fieldLink "OrreryBox$Scene" (31 : Nat) "OrreryBox$Scene" "meshes" "[LOrreryBox$Mesh;") ∈ gw := gw_t 292 (by decide +kernel) rfl
theorem zw_139 : (Jvm.Cond.classLink "OrreryBox$Scene" (35 : Nat) "OrreryBox$Node") ∈ gw := gw_t 139 (by decide +kernel) rfl
theorem zw_295 : (Jvm.Cond.fieldLink "OrreryBox$Scene" (37 : Nat) "OrreryBox$Scene" "nodes" "[LOrreryBox$Node;") ∈ gw := gw_t 295 (by decide +kernel) rfl
theorem zw_141 : (Jvm.Cond.classLink "OrreryBox$Scene" (41 : Nat) "OrreryBox$Track") ∈ gw := gw_t 141 (by decide +kernel) rfl
theorem zw_299 : (Jvm.Cond.fieldLink "OrreryBox$Scene" (43 : Nat) "OrreryBox$Scene" "tracks" "[LOrreryBox$Track;") ∈ gw := gw_t 299 (by decide +kernel) rfl
theorem zw_313 : (Jvm.Cond.fieldLink "OrreryBox$Scene" (53 : Nat) "OrreryBox$Scene" "local" "[I") ∈ gw := gw_t 313 (by decide +kernel) rfl
def zsB (tA : Nat → ClassId) (b n : Nat) : List va_E := (([.inl (tA 0, 5, .inl (fun _ => 0)), .inl (tA 5, 8, .inr (.inr (.inr (.inr (fun _ => none)))))] ++ (zouter tA b (n + 2) 16 :: List.replicate 16 (zrow tA 6))) ++ [.inl (tA 6, 16, .inr (.inr (.inr (.inr (fun _ => none))))), .inl (tA 7, 48, .inr (.inr (.inr (.inr (fun _ => none))))), .inl (tA 8, 32, .inr (.inr (.inr (.inr (fun _ => none))))), .inl (tA 0, 7, .inl (fun _ => 0)), .inl (tA 0, 4, .inl (fun _ => 0)), .inl (tA 0, 12, .inl (fun _ => 0))])
theorem zsB_len (tA : Nat → ClassId) (b n : Nat) : (zsB tA b n).length = 25 := rfl
def zsO (b n : Nat) (now placed : Int32) : List Value := [.ref (b + (n)), .ref (b + (n + 1)), .ref (b + (n + 2)), .ref (b + (n + 19)), .ref (b + (n + 20)), .ref (b + (n + 21)), .ref (b + (n + 22)), .ref (b + (n + 23)), .int now, .int placed, .ref (b + (n + 24))]
def zE_T0 (tA : Nat → ClassId) (b q : Nat) : List va_E := [.inr (10, [.int 0, .int 0, .int 0, .int 0, .ref (b + (q + 1)), .ref (b + (q + 1 + 1))]), .inl (tA 0, 1365, .inl (fun _ => 0)), .inl (tA 0, 6, .inl (fun _ => 0))]
def zE_T (tA : Nat → ClassId) (b n j : Nat) : List va_E := zE_T0 tA b (n + (25 + 3 * j))
theorem zE_T_len (tA : Nat → ClassId) (b n : Nat) : ∀ j, (zE_T tA b n j).length = 3 := fun _ => rfl
def zC_T (tA : Nat → ClassId) (b n i : Nat) : va_E := .inl (tA 5, 8, .inr (.inr (.inr (.inr (zra b (n + 25) 3 i)))))
theorem zw_143 : (Jvm.Cond.instantiable "OrreryBox$Texture" (6 : Nat)) ∈ gw := gw_t 143 (by decide +kernel) rfl
theorem zw_6 : (Jvm.Cond.initialized "OrreryBox$Texture") ∈ gw := gw_t 6 (by decide +kernel) rfl
theorem zw_144 : (Jvm.Cond.methodLinkNest "OrreryBox$Scene" (56 : Nat) ({ cls := "OrreryBox$Texture", name := "<init>", desc := "()V" } : Jvm.MethodName) "OrreryBox") ∈ gn := gn_t 144 (by decide +kernel) rfl
theorem zw_145 : (Jvm.Cond.instanceMethod ({ cls := "OrreryBox$Texture", name := "<init>", desc := "()V" } : Jvm.MethodName)) ∈ gw := gw_t 145 (by decide +kernel) rfl
theorem zs_XScene_56 : zwIN "OrreryBox$Scene" 56 zy_XTexture_init "OrreryBox" zb_XTexture_init 1 := ⟨zw_144, zw_145, zw_6, zc_XTexture_init⟩
set_option maxHeartbeats 4000000 in
set_option maxRecDepth 100000 in
theorem lp_XScene_init_T {p : Program} {l : Launch} {e : Env} {s : State} {m : MethodId} {args : Array Value} {below : List Frame} {meth : Method} {c : Code} {Q : State → Prop} {D : va_G} {tA : Nat → ClassId} {b : Nat} {f : zV} {n k : Nat} {B : List va_E} (F : zF p s m args meth c zb_XScene_init 2 "OrreryBox$Scene" D tA b) (hk : k < n) (hB : B.length = 25)
    (hx : Z p l e { frames := 2, cells := 369, slots := 39484, locals := 40 } s m args below meth c D b 2 Q (zu (zb f n (zsl B 1 (zC_T tA b n) (zE_T tA b n) 8)) k (.inr (8, zsO b n 0 0))) (n + (25 + 3 * 8)) (25 + 3 * 8) (244 + 1377 * 8) 127 [(0, .ref (b + k)), (1, .int (nI 8))] []) :
    ∀ r i : Nat, i + r = 8 → Z p l e { frames := 2, cells := 369, slots := 39484, locals := 40 } s m args below meth c D b 2 Q (zu (zb f n (zsl B 1 (zC_T tA b n) (zE_T tA b n) i)) k (.inr (8, zsO b n 0 0))) (n + (25 + 3 * i)) (25 + 3 * i) (244 + 1377 * i) 99 [(0, .ref (b + k)), (1, .int (nI i))] [] := by
  intro r
  induction r with
  | zero =>
    intro i hi
    have hi : i = 8 := by omega
    subst hi
    refine zr_iload_n F zd_XScene_init_99 rfl ?_
    refine zr_aload_n F zd_XScene_init_100 rfl ?_
    refine zr_get F 8 1 zd_XScene_init_101 (zu_s _ _ _) rfl (by decide) zw_285 rfl (by rfl) ?_
    refine zr_alen (v := nI 8) F 5 zd_XScene_init_104 (zb_g (i := 1) hk rfl (zsl_at0 hB (by decide))) rfl (by rfl) ?_
    refine zr_icmp_ge F 127 zd_XScene_init_105 (by decide) (fun _ => ?_) (fun h => absurd (by decide) h)
    exact hx
  | succ r ih =>
    intro i hi
    refine zr_iload_n F zd_XScene_init_99 rfl ?_
    refine zr_aload_n F zd_XScene_init_100 rfl ?_
    refine zr_get F 8 1 zd_XScene_init_101 (zu_s _ _ _) rfl (by decide) zw_285 rfl (by rfl) ?_
    refine zr_alen (v := nI 8) F 5 zd_XScene_init_104 (zb_g (i := 1) hk rfl (zsl_at0 hB (by decide))) rfl (by rfl) ?_
    refine zr_icmp_ge F 127 zd_XScene_init_105 (by decide) (fun h => absurd h (nI_ge (by omega) (by decide))) (fun _ => ?_)
    refine zr_aload_n F zd_XScene_init_108 rfl ?_
    refine zr_get F 8 1 zd_XScene_init_109 (zu_s _ _ _) rfl (by decide) zw_285 rfl (by rfl) ?_
    refine zr_iload_n F zd_XScene_init_112 rfl ?_
    refine zr_new (fs := [.int 0, .int 0, .int 0, .int 0, .null, .null]) F 10 zd_XScene_init_113 rfl zw_133 zw_143 zw_6 (zdef_XTexture) (by show _ ≤ 369; omega) (by show _ ≤ 39484; omega) ?_
    refine zr_norm (zu (zb f n (zsl B 1 (zC_T tA b n) (zE_T tA b n) i ++ [.inr (10, [.int 0, .int 0, .int 0, .int 0, .null, .null])])) k (.inr (8, zsO b n 0 0))) (n + (25 + 3 * i) + 1) (zb_a hk (by rw [zsl_len hB (zE_T_len tA b n)]) rfl) rfl ?_
    refine zr_dup F zd_XScene_init_116 rfl ?_
    refine zr_callIN0 F (c_XTexture_init l D tA b _ _ (n + (25 + 3 * i)) (zb_g (i := 25 + 3 * i) hk rfl (zsl_end hB (zE_T_len tA b n) _ _))) zd_XScene_init_117 zs_XScene_56 rfl zq_XTexture_init rfl rfl ⟨(Nat.le_of_ble_eq_true rfl), (Nat.le_of_ble_eq_true rfl)⟩ (Nat.le_of_ble_eq_true rfl) ⟨(by show _ ≤ 369; omega), (by show _ ≤ 39484; omega)⟩ ?_
    refine zr_norm (zu (zb f n (zsl B 1 (zC_T tA b n) (zE_T tA b n) i ++ zE_T tA b n i)) k (.inr (8, zsO b n 0 0))) (n + (25 + 3 * i) + 3) (zb_n2 hk (by rw [zsl_len hB (zE_T_len tA b n)])) rfl ?_
    refine zr_aast (v := n + (25 + 3 * i)) F 5 zd_XScene_init_120 (zb_g (i := 1) hk rfl (zsl_at hB (by decide) _)) rfl (zb_g (i := 25 + 3 * i) hk rfl (zsl_end hB (zE_T_len tA b n) _ _)) rfl (vp_in_nI (by omega) (by decide)) ?_
    refine zr_norm (zu (zb f n (zsl B 1 (zC_T tA b n) (zE_T tA b n) (i + 1))) k (.inr (8, zsO b n 0 0))) (n + (25 + 3 * (i + 1))) (zb_s (i := 1) hk rfl (by rw [List.length_append, zsl_len hB (zE_T_len tA b n)]; omega) (by rw [zra_s b (n + 25) 3 i (by omega) (nI_clamp (by omega))]; exact zsl_s hB (by decide))) (by omega) ?_
    refine zr_iinc (v := nI (i + 1)) F zd_XScene_init_121 rfl (nI_1 i) (by decide) ?_
    refine zr_loc (L' := [(0, .ref (b + k)), (1, .int (nI (i + 1)))]) ⟨rfl, rfl, trivial⟩ ?_
    refine zr_cs (25 + 3 * (i + 1)) (244 + 1377 * (i + 1)) (by omega) (by omega) ?_
    refine zr_goto F 99 zd_XScene_init_124 (by decide) ?_
    exact ih (i + 1) (by omega)
def zE_M0 (tA : Nat → ClassId) (b q : Nat) : List va_E := [.inr (2, [.int 0, .int 0, .int 0, .ref (b + (q + 1)), .ref (b + (q + 1 + 1)), .ref (b + (q + 1 + 1 + 1)), .ref (b + (q + 1 + 1 + 1 + 1))]), .inl (tA 0, 384, .inl (fun _ => 0)), .inl (tA 0, 384, .inl (fun _ => 0)), .inl (tA 0, 256, .inl (fun _ => 0)), .inl (tA 0, 384, .inl (fun _ => 0))]
def zE_M (tA : Nat → ClassId) (b n j : Nat) : List va_E := zE_M0 tA b (n + (49 + 5 * j))
theorem zE_M_len (tA : Nat → ClassId) (b n : Nat) : ∀ j, (zE_M tA b n j).length = 5 := fun _ => rfl
def zC_M (tA : Nat → ClassId) (b n i : Nat) : va_E := .inl (tA 6, 16, .inr (.inr (.inr (.inr (zra b (n + 49) 5 i)))))
theorem zw_170 : (Jvm.Cond.instantiable "OrreryBox$Mesh" (7 : Nat)) ∈ gw := gw_t 170 (by decide +kernel) rfl
theorem zw_7 : (Jvm.Cond.initialized "OrreryBox$Mesh") ∈ gw := gw_t 7 (by decide +kernel) rfl
theorem zw_171 : (Jvm.Cond.methodLinkNest "OrreryBox$Scene" (57 : Nat) ({ cls := "OrreryBox$Mesh", name := "<init>", desc := "()V" } : Jvm.MethodName) "OrreryBox") ∈ gn := gn_t 171 (by decide +kernel) rfl
theorem zw_172 : (Jvm.Cond.instanceMethod ({ cls := "OrreryBox$Mesh", name := "<init>", desc := "()V" } : Jvm.MethodName)) ∈ gw := gw_t 172 (by decide +kernel) rfl
theorem zs_XScene_57 : zwIN "OrreryBox$Scene" 57 zy_XMesh_init "OrreryBox" zb_XMesh_init 1 := ⟨zw_171, zw_172, zw_7, zc_XMesh_init⟩
set_option maxHeartbeats 4000000 in
set_option maxRecDepth 100000 in
theorem lp_XScene_init_M {p : Program} {l : Launch} {e : Env} {s : State} {m : MethodId} {args : Array Value} {below : List Frame} {meth : Method} {c : Code} {Q : State → Prop} {D : va_G} {tA : Nat → ClassId} {b : Nat} {f : zV} {n k : Nat} {B : List va_E} (F : zF p s m args meth c zb_XScene_init 2 "OrreryBox$Scene" D tA b) (hk : k < n) (hB : B.length = 49)
    (hx : Z p l e { frames := 2, cells := 369, slots := 39484, locals := 40 } s m args below meth c D b 2 Q (zu (zb f n (zsl B 19 (zC_M tA b n) (zE_M tA b n) 16)) k (.inr (8, zsO b n 0 0))) (n + (49 + 5 * 16)) (49 + 5 * 16) (11260 + 1415 * 16) 157 [(0, .ref (b + k)), (1, .int (nI 16))] []) :
    ∀ r i : Nat, i + r = 16 → Z p l e { frames := 2, cells := 369, slots := 39484, locals := 40 } s m args below meth c D b 2 Q (zu (zb f n (zsl B 19 (zC_M tA b n) (zE_M tA b n) i)) k (.inr (8, zsO b n 0 0))) (n + (49 + 5 * i)) (49 + 5 * i) (11260 + 1415 * i) 129 [(0, .ref (b + k)), (1, .int (nI i))] [] := by
  intro r
  induction r with
  | zero =>
    intro i hi
    have hi : i = 16 := by omega
    subst hi
    refine zr_iload_n F zd_XScene_init_129 rfl ?_
    refine zr_aload_n F zd_XScene_init_130 rfl ?_
    refine zr_get F 8 3 zd_XScene_init_131 (zu_s _ _ _) rfl (by decide) zw_292 rfl (by rfl) ?_
    refine zr_alen (v := nI 16) F 6 zd_XScene_init_134 (zb_g (i := 19) hk rfl (zsl_at0 hB (by decide))) rfl (by rfl) ?_
    refine zr_icmp_ge F 157 zd_XScene_init_135 (by decide) (fun _ => ?_) (fun h => absurd (by decide) h)
    exact hx
  | succ r ih =>
    intro i hi
    refine zr_iload_n F zd_XScene_init_129 rfl ?_
    refine zr_aload_n F zd_XScene_init_130 rfl ?_
    refine zr_get F 8 3 zd_XScene_init_131 (zu_s _ _ _) rfl (by decide) zw_292 rfl (by rfl) ?_
    refine zr_alen (v := nI 16) F 6 zd_XScene_init_134 (zb_g (i := 19) hk rfl (zsl_at0 hB (by decide))) rfl (by rfl) ?_
    refine zr_icmp_ge F 157 zd_XScene_init_135 (by decide) (fun h => absurd h (nI_ge (by omega) (by decide))) (fun _ => ?_)
    refine zr_aload_n F zd_XScene_init_138 rfl ?_
    refine zr_get F 8 3 zd_XScene_init_139 (zu_s _ _ _) rfl (by decide) zw_292 rfl (by rfl) ?_
    refine zr_iload_n F zd_XScene_init_142 rfl ?_
    refine zr_new (fs := [.int 0, .int 0, .int 0, .null, .null, .null, .null]) F 2 zd_XScene_init_143 rfl zw_137 zw_170 zw_7 (zdef_XMesh) (by show _ ≤ 369; omega) (by show _ ≤ 39484; omega) ?_
    refine zr_norm (zu (zb f n (zsl B 19 (zC_M tA b n) (zE_M tA b n) i ++ [.inr (2, [.int 0, .int 0, .int 0, .null, .null, .null, .null])])) k (.inr (8, zsO b n 0 0))) (n + (49 + 5 * i) + 1) (zb_a hk (by rw [zsl_len hB (zE_M_len tA b n)]) rfl) rfl ?_
    refine zr_dup F zd_XScene_init_146 rfl ?_
    refine zr_callIN0 F (c_XMesh_init l D tA b _ _ (n + (49 + 5 * i)) (zb_g (i := 49 + 5 * i) hk rfl (zsl_end hB (zE_M_len tA b n) _ _))) zd_XScene_init_147 zs_XScene_57 rfl zq_XMesh_init rfl rfl ⟨(Nat.le_of_ble_eq_true rfl), (Nat.le_of_ble_eq_true rfl)⟩ (Nat.le_of_ble_eq_true rfl) ⟨(by show _ ≤ 369; omega), (by show _ ≤ 39484; omega)⟩ ?_
    refine zr_norm (zu (zb f n (zsl B 19 (zC_M tA b n) (zE_M tA b n) i ++ zE_M tA b n i)) k (.inr (8, zsO b n 0 0))) (n + (49 + 5 * i) + 5) (zb_n4 hk (by rw [zsl_len hB (zE_M_len tA b n)])) rfl ?_
    refine zr_aast (v := n + (49 + 5 * i)) F 6 zd_XScene_init_150 (zb_g (i := 19) hk rfl (zsl_at hB (by decide) _)) rfl (zb_g (i := 49 + 5 * i) hk rfl (zsl_end hB (zE_M_len tA b n) _ _)) rfl (vp_in_nI (by omega) (by decide)) ?_
    refine zr_norm (zu (zb f n (zsl B 19 (zC_M tA b n) (zE_M tA b n) (i + 1))) k (.inr (8, zsO b n 0 0))) (n + (49 + 5 * (i + 1))) (zb_s (i := 19) hk rfl (by rw [List.length_append, zsl_len hB (zE_M_len tA b n)]; omega) (by rw [zra_s b (n + 49) 5 i (by omega) (nI_clamp (by omega))]; exact zsl_s hB (by decide))) (by omega) ?_
    refine zr_iinc (v := nI (i + 1)) F zd_XScene_init_151 rfl (nI_1 i) (by decide) ?_
    refine zr_loc (L' := [(0, .ref (b + k)), (1, .int (nI (i + 1)))]) ⟨rfl, rfl, trivial⟩ ?_
    refine zr_cs (49 + 5 * (i + 1)) (11260 + 1415 * (i + 1)) (by omega) (by omega) ?_
    refine zr_goto F 129 zd_XScene_init_154 (by decide) ?_
    exact ih (i + 1) (by omega)
def zE_N0 (tA : Nat → ClassId) (b q : Nat) : List va_E := [.inr (3, [.int 0, .int 0, .int 0, .int 0, .ref (b + (q + 1)), .ref (b + (q + 1 + 1))]), .inl (tA 0, 9, .inl (fun _ => 0)), .inl (tA 0, 12, .inl (fun _ => 0))]
def zE_N (tA : Nat → ClassId) (b n j : Nat) : List va_E := zE_N0 tA b (n + (129 + 3 * j))
theorem zE_N_len (tA : Nat → ClassId) (b n : Nat) : ∀ j, (zE_N tA b n j).length = 3 := fun _ => rfl
def zC_N (tA : Nat → ClassId) (b n i : Nat) : va_E := .inl (tA 7, 48, .inr (.inr (.inr (.inr (zra b (n + 129) 3 i)))))
theorem zw_209 : (Jvm.Cond.instantiable "OrreryBox$Node" (6 : Nat)) ∈ gw := gw_t 209 (by decide +kernel) rfl
theorem zw_8 : (Jvm.Cond.initialized "OrreryBox$Node") ∈ gw := gw_t 8 (by decide +kernel) rfl
theorem zw_210 : (Jvm.Cond.methodLinkNest "OrreryBox$Scene" (58 : Nat) ({ cls := "OrreryBox$Node", name := "<init>", desc := "()V" } : Jvm.MethodName) "OrreryBox") ∈ gn := gn_t 210 (by decide +kernel) rfl
theorem zw_211 : (Jvm.Cond.instanceMethod ({ cls := "OrreryBox$Node", name := "<init>", desc := "()V" } : Jvm.MethodName)) ∈ gw := gw_t 211 (by decide +kernel) rfl
theorem zs_XScene_58 : zwIN "OrreryBox$Scene" 58 zy_XNode_init "OrreryBox" zb_XNode_init 1 := ⟨zw_210, zw_211, zw_8, zc_XNode_init⟩
set_option maxHeartbeats 4000000 in
set_option maxRecDepth 100000 in
theorem lp_XScene_init_N {p : Program} {l : Launch} {e : Env} {s : State} {m : MethodId} {args : Array Value} {below : List Frame} {meth : Method} {c : Code} {Q : State → Prop} {D : va_G} {tA : Nat → ClassId} {b : Nat} {f : zV} {n k : Nat} {B : List va_E} (F : zF p s m args meth c zb_XScene_init 2 "OrreryBox$Scene" D tA b) (hk : k < n) (hB : B.length = 129)
    (hx : Z p l e { frames := 2, cells := 369, slots := 39484, locals := 40 } s m args below meth c D b 2 Q (zu (zb f n (zsl B 20 (zC_N tA b n) (zE_N tA b n) 48)) k (.inr (8, zsO b n 0 0))) (n + (129 + 3 * 48)) (129 + 3 * 48) (33900 + 27 * 48) 187 [(0, .ref (b + k)), (1, .int (nI 48))] []) :
    ∀ r i : Nat, i + r = 48 → Z p l e { frames := 2, cells := 369, slots := 39484, locals := 40 } s m args below meth c D b 2 Q (zu (zb f n (zsl B 20 (zC_N tA b n) (zE_N tA b n) i)) k (.inr (8, zsO b n 0 0))) (n + (129 + 3 * i)) (129 + 3 * i) (33900 + 27 * i) 159 [(0, .ref (b + k)), (1, .int (nI i))] [] := by
  intro r
  induction r with
  | zero =>
    intro i hi
    have hi : i = 48 := by omega
    subst hi
    refine zr_iload_n F zd_XScene_init_159 rfl ?_
    refine zr_aload_n F zd_XScene_init_160 rfl ?_
    refine zr_get F 8 4 zd_XScene_init_161 (zu_s _ _ _) rfl (by decide) zw_295 rfl (by rfl) ?_
    refine zr_alen (v := nI 48) F 7 zd_XScene_init_164 (zb_g (i := 20) hk rfl (zsl_at0 hB (by decide))) rfl (by rfl) ?_
    refine zr_icmp_ge F 187 zd_XScene_init_165 (by decide) (fun _ => ?_) (fun h => absurd (by decide) h)
    exact hx
  | succ r ih =>
    intro i hi
    refine zr_iload_n F zd_XScene_init_159 rfl ?_
    refine zr_aload_n F zd_XScene_init_160 rfl ?_
    refine zr_get F 8 4 zd_XScene_init_161 (zu_s _ _ _) rfl (by decide) zw_295 rfl (by rfl) ?_
    refine zr_alen (v := nI 48) F 7 zd_XScene_init_164 (zb_g (i := 20) hk rfl (zsl_at0 hB (by decide))) rfl (by rfl) ?_
    refine zr_icmp_ge F 187 zd_XScene_init_165 (by decide) (fun h => absurd h (nI_ge (by omega) (by decide))) (fun _ => ?_)
    refine zr_aload_n F zd_XScene_init_168 rfl ?_
    refine zr_get F 8 4 zd_XScene_init_169 (zu_s _ _ _) rfl (by decide) zw_295 rfl (by rfl) ?_
    refine zr_iload_n F zd_XScene_init_172 rfl ?_
    refine zr_new (fs := [.int 0, .int 0, .int 0, .int 0, .null, .null]) F 3 zd_XScene_init_173 rfl zw_139 zw_209 zw_8 (zdef_XNode) (by show _ ≤ 369; omega) (by show _ ≤ 39484; omega) ?_
    refine zr_norm (zu (zb f n (zsl B 20 (zC_N tA b n) (zE_N tA b n) i ++ [.inr (3, [.int 0, .int 0, .int 0, .int 0, .null, .null])])) k (.inr (8, zsO b n 0 0))) (n + (129 + 3 * i) + 1) (zb_a hk (by rw [zsl_len hB (zE_N_len tA b n)]) rfl) rfl ?_
    refine zr_dup F zd_XScene_init_176 rfl ?_
    refine zr_callIN0 F (c_XNode_init l D tA b _ _ (n + (129 + 3 * i)) (zb_g (i := 129 + 3 * i) hk rfl (zsl_end hB (zE_N_len tA b n) _ _))) zd_XScene_init_177 zs_XScene_58 rfl zq_XNode_init rfl rfl ⟨(Nat.le_of_ble_eq_true rfl), (Nat.le_of_ble_eq_true rfl)⟩ (Nat.le_of_ble_eq_true rfl) ⟨(by show _ ≤ 369; omega), (by show _ ≤ 39484; omega)⟩ ?_
    refine zr_norm (zu (zb f n (zsl B 20 (zC_N tA b n) (zE_N tA b n) i ++ zE_N tA b n i)) k (.inr (8, zsO b n 0 0))) (n + (129 + 3 * i) + 3) (zb_n2 hk (by rw [zsl_len hB (zE_N_len tA b n)])) rfl ?_
    refine zr_aast (v := n + (129 + 3 * i)) F 7 zd_XScene_init_180 (zb_g (i := 20) hk rfl (zsl_at hB (by decide) _)) rfl (zb_g (i := 129 + 3 * i) hk rfl (zsl_end hB (zE_N_len tA b n) _ _)) rfl (vp_in_nI (by omega) (by decide)) ?_
    refine zr_norm (zu (zb f n (zsl B 20 (zC_N tA b n) (zE_N tA b n) (i + 1))) k (.inr (8, zsO b n 0 0))) (n + (129 + 3 * (i + 1))) (zb_s (i := 20) hk rfl (by rw [List.length_append, zsl_len hB (zE_N_len tA b n)]; omega) (by rw [zra_s b (n + 129) 3 i (by omega) (nI_clamp (by omega))]; exact zsl_s hB (by decide))) (by omega) ?_
    refine zr_iinc (v := nI (i + 1)) F zd_XScene_init_181 rfl (nI_1 i) (by decide) ?_
    refine zr_loc (L' := [(0, .ref (b + k)), (1, .int (nI (i + 1)))]) ⟨rfl, rfl, trivial⟩ ?_
    refine zr_cs (129 + 3 * (i + 1)) (33900 + 27 * (i + 1)) (by omega) (by omega) ?_
    refine zr_goto F 159 zd_XScene_init_184 (by decide) ?_
    exact ih (i + 1) (by omega)
def zE_K0 (tA : Nat → ClassId) (b q : Nat) : List va_E := [.inr (11, [.int 0, .int 0, .int 0, .int 0, .ref (b + (q + 1)), .ref (b + (q + 1 + 1))]), .inl (tA 0, 32, .inl (fun _ => 0)), .inl (tA 0, 96, .inl (fun _ => 0))]
def zE_K (tA : Nat → ClassId) (b n j : Nat) : List va_E := zE_K0 tA b (n + (273 + 3 * j))
theorem zE_K_len (tA : Nat → ClassId) (b n : Nat) : ∀ j, (zE_K tA b n j).length = 3 := fun _ => rfl
def zC_K (tA : Nat → ClassId) (b n i : Nat) : va_E := .inl (tA 8, 32, .inr (.inr (.inr (.inr (zra b (n + 273) 3 i)))))
theorem zw_246 : (Jvm.Cond.instantiable "OrreryBox$Track" (6 : Nat)) ∈ gw := gw_t 246 (by decide +kernel) rfl
theorem zw_9 : (Jvm.Cond.initialized "OrreryBox$Track") ∈ gw := gw_t 9 (by decide +kernel) rfl
theorem zw_247 : (Jvm.Cond.methodLinkNest "OrreryBox$Scene" (59 : Nat) ({ cls := "OrreryBox$Track", name := "<init>", desc := "()V" } : Jvm.MethodName) "OrreryBox") ∈ gn := gn_t 247 (by decide +kernel) rfl
theorem zw_248 : (Jvm.Cond.instanceMethod ({ cls := "OrreryBox$Track", name := "<init>", desc := "()V" } : Jvm.MethodName)) ∈ gw := gw_t 248 (by decide +kernel) rfl
theorem zs_XScene_59 : zwIN "OrreryBox$Scene" 59 zy_XTrack_init "OrreryBox" zb_XTrack_init 1 := ⟨zw_247, zw_248, zw_9, zc_XTrack_init⟩
set_option maxHeartbeats 4000000 in
set_option maxRecDepth 100000 in
theorem lp_XScene_init_K {p : Program} {l : Launch} {e : Env} {s : State} {m : MethodId} {args : Array Value} {below : List Frame} {meth : Method} {c : Code} {Q : State → Prop} {D : va_G} {tA : Nat → ClassId} {b : Nat} {f : zV} {n k : Nat} {B : List va_E} (F : zF p s m args meth c zb_XScene_init 2 "OrreryBox$Scene" D tA b) (hk : k < n) (hB : B.length = 273)
    (hx : Z p l e { frames := 2, cells := 369, slots := 39484, locals := 40 } s m args below meth c D b 2 Q (zu (zb f n (zsl B 21 (zC_K tA b n) (zE_K tA b n) 32)) k (.inr (8, zsO b n 0 0))) (n + (273 + 3 * 32)) (273 + 3 * 32) (35196 + 134 * 32) 217 [(0, .ref (b + k)), (1, .int (nI 32))] []) :
    ∀ r i : Nat, i + r = 32 → Z p l e { frames := 2, cells := 369, slots := 39484, locals := 40 } s m args below meth c D b 2 Q (zu (zb f n (zsl B 21 (zC_K tA b n) (zE_K tA b n) i)) k (.inr (8, zsO b n 0 0))) (n + (273 + 3 * i)) (273 + 3 * i) (35196 + 134 * i) 189 [(0, .ref (b + k)), (1, .int (nI i))] [] := by
  intro r
  induction r with
  | zero =>
    intro i hi
    have hi : i = 32 := by omega
    subst hi
    refine zr_iload_n F zd_XScene_init_189 rfl ?_
    refine zr_aload_n F zd_XScene_init_190 rfl ?_
    refine zr_get F 8 5 zd_XScene_init_191 (zu_s _ _ _) rfl (by decide) zw_299 rfl (by rfl) ?_
    refine zr_alen (v := nI 32) F 8 zd_XScene_init_194 (zb_g (i := 21) hk rfl (zsl_at0 hB (by decide))) rfl (by rfl) ?_
    refine zr_icmp_ge F 217 zd_XScene_init_195 (by decide) (fun _ => ?_) (fun h => absurd (by decide) h)
    exact hx
  | succ r ih =>
    intro i hi
    refine zr_iload_n F zd_XScene_init_189 rfl ?_
    refine zr_aload_n F zd_XScene_init_190 rfl ?_
    refine zr_get F 8 5 zd_XScene_init_191 (zu_s _ _ _) rfl (by decide) zw_299 rfl (by rfl) ?_
    refine zr_alen (v := nI 32) F 8 zd_XScene_init_194 (zb_g (i := 21) hk rfl (zsl_at0 hB (by decide))) rfl (by rfl) ?_
    refine zr_icmp_ge F 217 zd_XScene_init_195 (by decide) (fun h => absurd h (nI_ge (by omega) (by decide))) (fun _ => ?_)
    refine zr_aload_n F zd_XScene_init_198 rfl ?_
    refine zr_get F 8 5 zd_XScene_init_199 (zu_s _ _ _) rfl (by decide) zw_299 rfl (by rfl) ?_
    refine zr_iload_n F zd_XScene_init_202 rfl ?_
    refine zr_new (fs := [.int 0, .int 0, .int 0, .int 0, .null, .null]) F 11 zd_XScene_init_203 rfl zw_141 zw_246 zw_9 (zdef_XTrack) (by show _ ≤ 369; omega) (by show _ ≤ 39484; omega) ?_
    refine zr_norm (zu (zb f n (zsl B 21 (zC_K tA b n) (zE_K tA b n) i ++ [.inr (11, [.int 0, .int 0, .int 0, .int 0, .null, .null])])) k (.inr (8, zsO b n 0 0))) (n + (273 + 3 * i) + 1) (zb_a hk (by rw [zsl_len hB (zE_K_len tA b n)]) rfl) rfl ?_
    refine zr_dup F zd_XScene_init_206 rfl ?_
    refine zr_callIN0 F (c_XTrack_init l D tA b _ _ (n + (273 + 3 * i)) (zb_g (i := 273 + 3 * i) hk rfl (zsl_end hB (zE_K_len tA b n) _ _))) zd_XScene_init_207 zs_XScene_59 rfl zq_XTrack_init rfl rfl ⟨(Nat.le_of_ble_eq_true rfl), (Nat.le_of_ble_eq_true rfl)⟩ (Nat.le_of_ble_eq_true rfl) ⟨(by show _ ≤ 369; omega), (by show _ ≤ 39484; omega)⟩ ?_
    refine zr_norm (zu (zb f n (zsl B 21 (zC_K tA b n) (zE_K tA b n) i ++ zE_K tA b n i)) k (.inr (8, zsO b n 0 0))) (n + (273 + 3 * i) + 3) (zb_n2 hk (by rw [zsl_len hB (zE_K_len tA b n)])) rfl ?_
    refine zr_aast (v := n + (273 + 3 * i)) F 8 zd_XScene_init_210 (zb_g (i := 21) hk rfl (zsl_at hB (by decide) _)) rfl (zb_g (i := 273 + 3 * i) hk rfl (zsl_end hB (zE_K_len tA b n) _ _)) rfl (vp_in_nI (by omega) (by decide)) ?_
    refine zr_norm (zu (zb f n (zsl B 21 (zC_K tA b n) (zE_K tA b n) (i + 1))) k (.inr (8, zsO b n 0 0))) (n + (273 + 3 * (i + 1))) (zb_s (i := 21) hk rfl (by rw [List.length_append, zsl_len hB (zE_K_len tA b n)]; omega) (by rw [zra_s b (n + 273) 3 i (by omega) (nI_clamp (by omega))]; exact zsl_s hB (by decide))) (by omega) ?_
    refine zr_iinc (v := nI (i + 1)) F zd_XScene_init_211 rfl (nI_1 i) (by decide) ?_
    refine zr_loc (L' := [(0, .ref (b + k)), (1, .int (nI (i + 1)))]) ⟨rfl, rfl, trivial⟩ ?_
    refine zr_cs (273 + 3 * (i + 1)) (35196 + 134 * (i + 1)) (by omega) (by omega) ?_
    refine zr_goto F 189 zd_XScene_init_214 (by decide) ?_
    exact ih (i + 1) (by omega)
def zsL_T (tA : Nat → ClassId) (b n : Nat) : List va_E := zsl (zsB tA b n) 1 (zC_T tA b n) (zE_T tA b n) 8
theorem zsL_T_len (tA : Nat → ClassId) (b n : Nat) : (zsL_T tA b n).length = 49 := zsl_len (zsB_len tA b n) (zE_T_len tA b n)
def zsL_M (tA : Nat → ClassId) (b n : Nat) : List va_E := zsl (zsL_T tA b n) 19 (zC_M tA b n) (zE_M tA b n) 16
theorem zsL_M_len (tA : Nat → ClassId) (b n : Nat) : (zsL_M tA b n).length = 129 := zsl_len (zsL_T_len tA b n) (zE_M_len tA b n)
def zsL_N (tA : Nat → ClassId) (b n : Nat) : List va_E := zsl (zsL_M tA b n) 20 (zC_N tA b n) (zE_N tA b n) 48
theorem zsL_N_len (tA : Nat → ClassId) (b n : Nat) : (zsL_N tA b n).length = 273 := zsl_len (zsL_M_len tA b n) (zE_N_len tA b n)
def zsL_K (tA : Nat → ClassId) (b n : Nat) : List va_E := zsl (zsL_N tA b n) 21 (zC_K tA b n) (zE_K tA b n) 32
theorem zsL_K_len (tA : Nat → ClassId) (b n : Nat) : (zsL_K tA b n).length = 369 := zsl_len (zsL_N_len tA b n) (zE_K_len tA b n)
theorem zsl_old {B : List va_E} {q : Nat} {cell : Nat → va_E} {E : Nat → List va_E} {i j : Nat} {x : va_E} (h : B[j]? = some x) (hj : j ≠ q) : (zsl B q cell E i)[j]? = some x := by
  unfold zsl
  rw [List.getElem?_append_left (by rw [List.length_set]; exact (List.getElem?_eq_some_iff.mp h).1), List.getElem?_set_ne (Ne.symm hj)]
  exact h
def zsF (tA : Nat → ClassId) (b n : Nat) : List va_E := (((zsL_K tA b n).set 0 (.inl (tA 0, 5, .inl (zclr (fun _ => 0) 5)))).set 22 (.inl (tA 0, 7, .inl (zview (fun _ => 0))))).set 23 (.inl (tA 0, 4, .inl (zlamp (fun _ => 0))))
theorem zw_276 : (Jvm.Cond.methodLink "OrreryBox$Scene" (60 : Nat) ({ cls := "OrreryBox$Scene", name := "clear", desc := "()V" } : Jvm.MethodName)) ∈ gw := gw_t 276 (by decide +kernel) rfl
theorem zw_278 : (Jvm.Cond.instanceMethod ({ cls := "OrreryBox$Scene", name := "clear", desc := "()V" } : Jvm.MethodName)) ∈ gw := gw_t 278 (by decide +kernel) rfl
theorem zv_0 : (Jvm.Cond.selects "OrreryBox$Scene" (⟨"OrreryBox$Scene", "clear", "()V"⟩ : MethodName) ⟨"OrreryBox$Scene", "clear", "()V"⟩) ∈ gw := gw_s 0 (by decide +kernel) rfl
theorem zw_5 : (Jvm.Cond.initialized "OrreryBox$Scene") ∈ gw := gw_t 5 (by decide +kernel) rfl
theorem zs_XScene_60 : zwV "OrreryBox$Scene" 60 "OrreryBox$Scene" zy_XScene_clear zb_XScene_clear 2 none := ⟨zw_276, zw_278, zv_0, zw_5, zc_XScene_clear⟩
theorem zs_end {f : zV} {tA : Nat → ClassId} {b n k : Nat} {o o' : va_E} (hk : k < n) : zu (zu (zu (zu (zu (zb f n (zsL_K tA b n)) k o) n (.inl (tA 0, 5, .inl (zclr (fun _ => 0) 5)))) (n + 22) (.inl (tA 0, 7, .inl (zview (fun _ => 0))))) (n + 23) (.inl (tA 0, 4, .inl (zlamp (fun _ => 0))))) k o' = zu (zb f n (zsF tA b n)) k o' := by
  have hl := zsL_K_len tA b n
  rw [zb_s (q := n) (i := 0) hk (Nat.add_zero n) (by omega) rfl, zb_s (i := 22) hk rfl (by rw [List.length_set]; omega) rfl, zb_s (i := 23) hk rfl (by rw [List.length_set, List.length_set]; omega) rfl, zu_zu]
  rfl
set_option maxHeartbeats 4000000 in
set_option maxRecDepth 100000 in
theorem c_XScene_init (l : Launch) (D : va_G) (tA : Nat → ClassId) (b : Nat) (f : zV) (n : Nat) (k : Nat) (hf : f k = some (.inr (8, [.null, .null, .null, .null, .null, .null, .null, .null, .int 0, .int 0, .null]))) : zM l D tA b zy_XScene_init zb_XScene_init 2 none 2 40 369 39484 [.ref (b + k)] f n (zE none (zu (zb f n (zsF tA b n)) k (.inr (8, zsO b n 0 0))) (n + 369)) := by
  refine zM_of (own := "OrreryBox$Scene") (plainFor_of_name (by decide)) rfl (Nat.le_of_ble_eq_true rfl) (fun p e s m below meth c F hr hin hH => ?_)
  have hk := hH.lt hf
  refine zr_aload_n F zd_XScene_init_0 rfl ?_
  refine zr_objInit F zd_XScene_init_1 zw_130 zw_35 zw_36 (Nat.le_of_ble_eq_true rfl) (Nat.le_of_ble_eq_true rfl) ?_
  refine zr_norm (zu (zb f n []) k (.inr (8, [.null, .null, .null, .null, .null, .null, .null, .null, .int 0, .int 0, .null]))) (n) (zb_0 hf) rfl ?_
  refine zr_aload_n F zd_XScene_init_4 rfl ?_
  refine zr_iconstv (v := 5) F zd_XScene_init_5 (by decide) ?_
  refine zr_newa (N := 5) (a0 := (5, .inl (fun _ => 0))) F 0 zd_XScene_init_6 rfl rfl zw_74 (fun _ => rfl) (by decide) (by decide) (Nat.le_of_ble_eq_true rfl) (Nat.le_of_ble_eq_true rfl) (Nat.le_of_ble_eq_true rfl) ?_
  refine zr_norm (zu (zb f n [.inl (tA 0, 5, .inl (fun _ => 0))]) k (.inr (8, [.null, .null, .null, .null, .null, .null, .null, .null, .int 0, .int 0, .null]))) (n + 1) (zb_a hk rfl rfl) rfl ?_
  refine zr_putF F 8 0 zd_XScene_init_8 (zu_s _ _ _) rfl (by decide) zw_281 rfl rfl hin rfl rfl rfl (by exact (Nat.le_of_ble_eq_true rfl)) ?_
  refine zr_norm (zu (zb f n [.inl (tA 0, 5, .inl (fun _ => 0))]) k (.inr (8, [.ref (b + (n)), .null, .null, .null, .null, .null, .null, .null, .int 0, .int 0, .null]))) (n + 1) (zu_zu _ _ _ _) rfl ?_
  refine zr_aload_n F zd_XScene_init_11 rfl ?_
  refine zr_gl F zd_XScene_init_12 zw_131 (fun tl hT => ?_)
  refine zr_iconstv (v := 0) F zd_XScene_init_15 (by decide) ?_
  refine zr_ti (v := .int 8) F zd_XScene_init_16 hT (vp_in_nI (n := 0) (by decide) (by decide)) rfl ?_
  refine zr_anew (N := 8) F 5 zd_XScene_init_17 rfl zw_133 (F.hG.2.1 _ (by decide)) (by decide) (by decide) (Nat.le_of_ble_eq_true rfl) (Nat.le_of_ble_eq_true rfl) (Nat.le_of_ble_eq_true rfl) ?_
  refine zr_norm (zu (zb f n [.inl (tA 0, 5, .inl (fun _ => 0)), .inl (tA 5, 8, .inr (.inr (.inr (.inr (fun _ => none)))))]) k (.inr (8, [.ref (b + (n)), .null, .null, .null, .null, .null, .null, .null, .int 0, .int 0, .null]))) (n + 2) (zb_a hk rfl rfl) rfl ?_
  refine zr_putF F 8 1 zd_XScene_init_20 (zu_s _ _ _) rfl (by decide) zw_285 rfl rfl hin rfl rfl rfl (by exact (Nat.le_of_ble_eq_true rfl)) ?_
  refine zr_norm (zu (zb f n [.inl (tA 0, 5, .inl (fun _ => 0)), .inl (tA 5, 8, .inr (.inr (.inr (.inr (fun _ => none)))))]) k (.inr (8, [.ref (b + (n)), .ref (b + (n + 1)), .null, .null, .null, .null, .null, .null, .int 0, .int 0, .null]))) (n + 2) (zu_zu _ _ _ _) rfl ?_
  refine zr_aload_n F zd_XScene_init_23 rfl ?_
  refine zr_gl F zd_XScene_init_24 zw_131 (fun tl hT => ?_)
  refine zr_iconstv (v := 1) F zd_XScene_init_27 (by decide) ?_
  refine zr_ti (v := .int 16) F zd_XScene_init_28 hT (vp_in_nI (n := 1) (by decide) (by decide)) rfl ?_
  refine zr_bipushv (v := 6) F zd_XScene_init_29 (by decide) ?_
  refine zr_multi (N := 16) (K := 6) F zd_XScene_init_31 zw_135 (by decide) (by decide) (by decide) (by decide) (Nat.le_of_ble_eq_true rfl) (Nat.le_of_ble_eq_true rfl) (Nat.le_of_ble_eq_true rfl) (Nat.le_of_ble_eq_true rfl) ?_
  refine zr_norm (zu (zb f n ([.inl (tA 0, 5, .inl (fun _ => 0)), .inl (tA 5, 8, .inr (.inr (.inr (.inr (fun _ => none)))))] ++ (zouter tA b (n + 2) 16 :: List.replicate 16 (zrow tA 6)))) k (.inr (8, [.ref (b + (n)), .ref (b + (n + 1)), .null, .null, .null, .null, .null, .null, .int 0, .int 0, .null]))) (n + 19) (zb_m hk rfl rfl) rfl ?_
  refine zr_putF F 8 2 zd_XScene_init_35 (zu_s _ _ _) rfl (by decide) zw_288 rfl rfl hin rfl rfl rfl (by exact (Nat.le_of_ble_eq_true rfl)) ?_
  refine zr_norm (zu (zb f n ([.inl (tA 0, 5, .inl (fun _ => 0)), .inl (tA 5, 8, .inr (.inr (.inr (.inr (fun _ => none)))))] ++ (zouter tA b (n + 2) 16 :: List.replicate 16 (zrow tA 6)))) k (.inr (8, [.ref (b + (n)), .ref (b + (n + 1)), .ref (b + (n + 2)), .null, .null, .null, .null, .null, .int 0, .int 0, .null]))) (n + 19) (zu_zu _ _ _ _) rfl ?_
  refine zr_aload_n F zd_XScene_init_38 rfl ?_
  refine zr_gl F zd_XScene_init_39 zw_131 (fun tl hT => ?_)
  refine zr_iconstv (v := 2) F zd_XScene_init_42 (by decide) ?_
  refine zr_ti (v := .int 16) F zd_XScene_init_43 hT (vp_in_nI (n := 2) (by decide) (by decide)) rfl ?_
  refine zr_anew (N := 16) F 6 zd_XScene_init_44 rfl zw_137 (F.hG.2.1 _ (by decide)) (by decide) (by decide) (Nat.le_of_ble_eq_true rfl) (Nat.le_of_ble_eq_true rfl) (Nat.le_of_ble_eq_true rfl) ?_
  refine zr_norm (zu (zb f n (([.inl (tA 0, 5, .inl (fun _ => 0)), .inl (tA 5, 8, .inr (.inr (.inr (.inr (fun _ => none)))))] ++ (zouter tA b (n + 2) 16 :: List.replicate 16 (zrow tA 6))) ++ [.inl (tA 6, 16, .inr (.inr (.inr (.inr (fun _ => none)))))])) k (.inr (8, [.ref (b + (n)), .ref (b + (n + 1)), .ref (b + (n + 2)), .null, .null, .null, .null, .null, .int 0, .int 0, .null]))) (n + 20) (zb_a hk rfl rfl) rfl ?_
  refine zr_putF F 8 3 zd_XScene_init_47 (zu_s _ _ _) rfl (by decide) zw_292 rfl rfl hin rfl rfl rfl (by exact (Nat.le_of_ble_eq_true rfl)) ?_
  refine zr_norm (zu (zb f n (([.inl (tA 0, 5, .inl (fun _ => 0)), .inl (tA 5, 8, .inr (.inr (.inr (.inr (fun _ => none)))))] ++ (zouter tA b (n + 2) 16 :: List.replicate 16 (zrow tA 6))) ++ [.inl (tA 6, 16, .inr (.inr (.inr (.inr (fun _ => none)))))])) k (.inr (8, [.ref (b + (n)), .ref (b + (n + 1)), .ref (b + (n + 2)), .ref (b + (n + 19)), .null, .null, .null, .null, .int 0, .int 0, .null]))) (n + 20) (zu_zu _ _ _ _) rfl ?_
  refine zr_aload_n F zd_XScene_init_50 rfl ?_
  refine zr_gl F zd_XScene_init_51 zw_131 (fun tl hT => ?_)
  refine zr_iconstv (v := 3) F zd_XScene_init_54 (by decide) ?_
  refine zr_ti (v := .int 48) F zd_XScene_init_55 hT (vp_in_nI (n := 3) (by decide) (by decide)) rfl ?_
  refine zr_anew (N := 48) F 7 zd_XScene_init_56 rfl zw_139 (F.hG.2.1 _ (by decide)) (by decide) (by decide) (Nat.le_of_ble_eq_true rfl) (Nat.le_of_ble_eq_true rfl) (Nat.le_of_ble_eq_true rfl) ?_
  refine zr_norm (zu (zb f n (([.inl (tA 0, 5, .inl (fun _ => 0)), .inl (tA 5, 8, .inr (.inr (.inr (.inr (fun _ => none)))))] ++ (zouter tA b (n + 2) 16 :: List.replicate 16 (zrow tA 6))) ++ [.inl (tA 6, 16, .inr (.inr (.inr (.inr (fun _ => none))))), .inl (tA 7, 48, .inr (.inr (.inr (.inr (fun _ => none)))))])) k (.inr (8, [.ref (b + (n)), .ref (b + (n + 1)), .ref (b + (n + 2)), .ref (b + (n + 19)), .null, .null, .null, .null, .int 0, .int 0, .null]))) (n + 21) (zb_a hk rfl rfl) rfl ?_
  refine zr_putF F 8 4 zd_XScene_init_59 (zu_s _ _ _) rfl (by decide) zw_295 rfl rfl hin rfl rfl rfl (by exact (Nat.le_of_ble_eq_true rfl)) ?_
  refine zr_norm (zu (zb f n (([.inl (tA 0, 5, .inl (fun _ => 0)), .inl (tA 5, 8, .inr (.inr (.inr (.inr (fun _ => none)))))] ++ (zouter tA b (n + 2) 16 :: List.replicate 16 (zrow tA 6))) ++ [.inl (tA 6, 16, .inr (.inr (.inr (.inr (fun _ => none))))), .inl (tA 7, 48, .inr (.inr (.inr (.inr (fun _ => none)))))])) k (.inr (8, [.ref (b + (n)), .ref (b + (n + 1)), .ref (b + (n + 2)), .ref (b + (n + 19)), .ref (b + (n + 20)), .null, .null, .null, .int 0, .int 0, .null]))) (n + 21) (zu_zu _ _ _ _) rfl ?_
  refine zr_aload_n F zd_XScene_init_62 rfl ?_
  refine zr_gl F zd_XScene_init_63 zw_131 (fun tl hT => ?_)
  refine zr_iconstv (v := 4) F zd_XScene_init_66 (by decide) ?_
  refine zr_ti (v := .int 32) F zd_XScene_init_67 hT (vp_in_nI (n := 4) (by decide) (by decide)) rfl ?_
  refine zr_anew (N := 32) F 8 zd_XScene_init_68 rfl zw_141 (F.hG.2.1 _ (by decide)) (by decide) (by decide) (Nat.le_of_ble_eq_true rfl) (Nat.le_of_ble_eq_true rfl) (Nat.le_of_ble_eq_true rfl) ?_
  refine zr_norm (zu (zb f n (([.inl (tA 0, 5, .inl (fun _ => 0)), .inl (tA 5, 8, .inr (.inr (.inr (.inr (fun _ => none)))))] ++ (zouter tA b (n + 2) 16 :: List.replicate 16 (zrow tA 6))) ++ [.inl (tA 6, 16, .inr (.inr (.inr (.inr (fun _ => none))))), .inl (tA 7, 48, .inr (.inr (.inr (.inr (fun _ => none))))), .inl (tA 8, 32, .inr (.inr (.inr (.inr (fun _ => none)))))])) k (.inr (8, [.ref (b + (n)), .ref (b + (n + 1)), .ref (b + (n + 2)), .ref (b + (n + 19)), .ref (b + (n + 20)), .null, .null, .null, .int 0, .int 0, .null]))) (n + 22) (zb_a hk rfl rfl) rfl ?_
  refine zr_putF F 8 5 zd_XScene_init_71 (zu_s _ _ _) rfl (by decide) zw_299 rfl rfl hin rfl rfl rfl (by exact (Nat.le_of_ble_eq_true rfl)) ?_
  refine zr_norm (zu (zb f n (([.inl (tA 0, 5, .inl (fun _ => 0)), .inl (tA 5, 8, .inr (.inr (.inr (.inr (fun _ => none)))))] ++ (zouter tA b (n + 2) 16 :: List.replicate 16 (zrow tA 6))) ++ [.inl (tA 6, 16, .inr (.inr (.inr (.inr (fun _ => none))))), .inl (tA 7, 48, .inr (.inr (.inr (.inr (fun _ => none))))), .inl (tA 8, 32, .inr (.inr (.inr (.inr (fun _ => none)))))])) k (.inr (8, [.ref (b + (n)), .ref (b + (n + 1)), .ref (b + (n + 2)), .ref (b + (n + 19)), .ref (b + (n + 20)), .ref (b + (n + 21)), .null, .null, .int 0, .int 0, .null]))) (n + 22) (zu_zu _ _ _ _) rfl ?_
  refine zr_aload_n F zd_XScene_init_74 rfl ?_
  refine zr_bipushv (v := 7) F zd_XScene_init_75 (by decide) ?_
  refine zr_newa (N := 7) (a0 := (7, .inl (fun _ => 0))) F 0 zd_XScene_init_77 rfl rfl zw_74 (fun _ => rfl) (by decide) (by decide) (Nat.le_of_ble_eq_true rfl) (Nat.le_of_ble_eq_true rfl) (Nat.le_of_ble_eq_true rfl) ?_
  refine zr_norm (zu (zb f n (([.inl (tA 0, 5, .inl (fun _ => 0)), .inl (tA 5, 8, .inr (.inr (.inr (.inr (fun _ => none)))))] ++ (zouter tA b (n + 2) 16 :: List.replicate 16 (zrow tA 6))) ++ [.inl (tA 6, 16, .inr (.inr (.inr (.inr (fun _ => none))))), .inl (tA 7, 48, .inr (.inr (.inr (.inr (fun _ => none))))), .inl (tA 8, 32, .inr (.inr (.inr (.inr (fun _ => none))))), .inl (tA 0, 7, .inl (fun _ => 0))])) k (.inr (8, [.ref (b + (n)), .ref (b + (n + 1)), .ref (b + (n + 2)), .ref (b + (n + 19)), .ref (b + (n + 20)), .ref (b + (n + 21)), .null, .null, .int 0, .int 0, .null]))) (n + 23) (zb_a hk rfl rfl) rfl ?_
  refine zr_putF F 8 6 zd_XScene_init_79 (zu_s _ _ _) rfl (by decide) zw_301 rfl rfl hin rfl rfl rfl (by exact (Nat.le_of_ble_eq_true rfl)) ?_
  refine zr_norm (zu (zb f n (([.inl (tA 0, 5, .inl (fun _ => 0)), .inl (tA 5, 8, .inr (.inr (.inr (.inr (fun _ => none)))))] ++ (zouter tA b (n + 2) 16 :: List.replicate 16 (zrow tA 6))) ++ [.inl (tA 6, 16, .inr (.inr (.inr (.inr (fun _ => none))))), .inl (tA 7, 48, .inr (.inr (.inr (.inr (fun _ => none))))), .inl (tA 8, 32, .inr (.inr (.inr (.inr (fun _ => none))))), .inl (tA 0, 7, .inl (fun _ => 0))])) k (.inr (8, [.ref (b + (n)), .ref (b + (n + 1)), .ref (b + (n + 2)), .ref (b + (n + 19)), .ref (b + (n + 20)), .ref (b + (n + 21)), .ref (b + (n + 22)), .null, .int 0, .int 0, .null]))) (n + 23) (zu_zu _ _ _ _) rfl ?_
  refine zr_aload_n F zd_XScene_init_82 rfl ?_
  refine zr_iconstv (v := 4) F zd_XScene_init_83 (by decide) ?_
  refine zr_newa (N := 4) (a0 := (4, .inl (fun _ => 0))) F 0 zd_XScene_init_84 rfl rfl zw_74 (fun _ => rfl) (by decide) (by decide) (Nat.le_of_ble_eq_true rfl) (Nat.le_of_ble_eq_true rfl) (Nat.le_of_ble_eq_true rfl) ?_
  refine zr_norm (zu (zb f n (([.inl (tA 0, 5, .inl (fun _ => 0)), .inl (tA 5, 8, .inr (.inr (.inr (.inr (fun _ => none)))))] ++ (zouter tA b (n + 2) 16 :: List.replicate 16 (zrow tA 6))) ++ [.inl (tA 6, 16, .inr (.inr (.inr (.inr (fun _ => none))))), .inl (tA 7, 48, .inr (.inr (.inr (.inr (fun _ => none))))), .inl (tA 8, 32, .inr (.inr (.inr (.inr (fun _ => none))))), .inl (tA 0, 7, .inl (fun _ => 0)), .inl (tA 0, 4, .inl (fun _ => 0))])) k (.inr (8, [.ref (b + (n)), .ref (b + (n + 1)), .ref (b + (n + 2)), .ref (b + (n + 19)), .ref (b + (n + 20)), .ref (b + (n + 21)), .ref (b + (n + 22)), .null, .int 0, .int 0, .null]))) (n + 24) (zb_a hk rfl rfl) rfl ?_
  refine zr_putF F 8 7 zd_XScene_init_86 (zu_s _ _ _) rfl (by decide) zw_305 rfl rfl hin rfl rfl rfl (by exact (Nat.le_of_ble_eq_true rfl)) ?_
  refine zr_norm (zu (zb f n (([.inl (tA 0, 5, .inl (fun _ => 0)), .inl (tA 5, 8, .inr (.inr (.inr (.inr (fun _ => none)))))] ++ (zouter tA b (n + 2) 16 :: List.replicate 16 (zrow tA 6))) ++ [.inl (tA 6, 16, .inr (.inr (.inr (.inr (fun _ => none))))), .inl (tA 7, 48, .inr (.inr (.inr (.inr (fun _ => none))))), .inl (tA 8, 32, .inr (.inr (.inr (.inr (fun _ => none))))), .inl (tA 0, 7, .inl (fun _ => 0)), .inl (tA 0, 4, .inl (fun _ => 0))])) k (.inr (8, [.ref (b + (n)), .ref (b + (n + 1)), .ref (b + (n + 2)), .ref (b + (n + 19)), .ref (b + (n + 20)), .ref (b + (n + 21)), .ref (b + (n + 22)), .ref (b + (n + 23)), .int 0, .int 0, .null]))) (n + 24) (zu_zu _ _ _ _) rfl ?_
  refine zr_aload_n F zd_XScene_init_89 rfl ?_
  refine zr_bipushv (v := 12) F zd_XScene_init_90 (by decide) ?_
  refine zr_newa (N := 12) (a0 := (12, .inl (fun _ => 0))) F 0 zd_XScene_init_92 rfl rfl zw_74 (fun _ => rfl) (by decide) (by decide) (Nat.le_of_ble_eq_true rfl) (Nat.le_of_ble_eq_true rfl) (Nat.le_of_ble_eq_true rfl) ?_
  refine zr_norm (zu (zb f n (([.inl (tA 0, 5, .inl (fun _ => 0)), .inl (tA 5, 8, .inr (.inr (.inr (.inr (fun _ => none)))))] ++ (zouter tA b (n + 2) 16 :: List.replicate 16 (zrow tA 6))) ++ [.inl (tA 6, 16, .inr (.inr (.inr (.inr (fun _ => none))))), .inl (tA 7, 48, .inr (.inr (.inr (.inr (fun _ => none))))), .inl (tA 8, 32, .inr (.inr (.inr (.inr (fun _ => none))))), .inl (tA 0, 7, .inl (fun _ => 0)), .inl (tA 0, 4, .inl (fun _ => 0)), .inl (tA 0, 12, .inl (fun _ => 0))])) k (.inr (8, [.ref (b + (n)), .ref (b + (n + 1)), .ref (b + (n + 2)), .ref (b + (n + 19)), .ref (b + (n + 20)), .ref (b + (n + 21)), .ref (b + (n + 22)), .ref (b + (n + 23)), .int 0, .int 0, .null]))) (n + 25) (zb_a hk rfl rfl) rfl ?_
  refine zr_putF F 8 10 zd_XScene_init_94 (zu_s _ _ _) rfl (by decide) zw_313 rfl rfl hin rfl rfl rfl (by exact (Nat.le_of_ble_eq_true rfl)) ?_
  refine zr_norm (zu (zb f n (([.inl (tA 0, 5, .inl (fun _ => 0)), .inl (tA 5, 8, .inr (.inr (.inr (.inr (fun _ => none)))))] ++ (zouter tA b (n + 2) 16 :: List.replicate 16 (zrow tA 6))) ++ [.inl (tA 6, 16, .inr (.inr (.inr (.inr (fun _ => none))))), .inl (tA 7, 48, .inr (.inr (.inr (.inr (fun _ => none))))), .inl (tA 8, 32, .inr (.inr (.inr (.inr (fun _ => none))))), .inl (tA 0, 7, .inl (fun _ => 0)), .inl (tA 0, 4, .inl (fun _ => 0)), .inl (tA 0, 12, .inl (fun _ => 0))])) k (.inr (8, [.ref (b + (n)), .ref (b + (n + 1)), .ref (b + (n + 2)), .ref (b + (n + 19)), .ref (b + (n + 20)), .ref (b + (n + 21)), .ref (b + (n + 22)), .ref (b + (n + 23)), .int 0, .int 0, .ref (b + (n + 24))]))) (n + 25) (zu_zu _ _ _ _) rfl ?_
  refine zr_norm (zu (zb f n (zsl (zsB tA b n) 1 (zC_T tA b n) (zE_T tA b n) 0)) k (.inr (8, zsO b n 0 0))) (n + (25 + 3 * 0)) (by rw [zsl_0 (by rw [zC_T, zra_0]; rfl)]; rfl) rfl ?_
  refine zr_iconstv (v := 0) F zd_XScene_init_97 (by decide) ?_
  refine zr_istore_n F zd_XScene_init_98 (by decide) ?_
  refine zr_loc (L' := [(0, .ref (b + k)), (1, .int (nI 0))]) ⟨rfl, rfl, trivial⟩ ?_
  refine zr_cs (25 + 3 * 0) (244 + 1377 * 0) rfl rfl ?_
  refine lp_XScene_init_T F hk (zsB_len tA b n) ?_ 8 0 rfl
  refine zr_norm (zu (zb f n (zsl (zsL_T tA b n) 19 (zC_M tA b n) (zE_M tA b n) 0)) k (.inr (8, zsO b n 0 0))) (n + (49 + 5 * 0)) (by rw [zsl_0 (by rw [zC_M, zra_0]; exact (zsl_old rfl (by decide)))]; rfl) rfl ?_
  refine zr_iconstv (v := 0) F zd_XScene_init_127 (by decide) ?_
  refine zr_istore_n F zd_XScene_init_128 (by decide) ?_
  refine zr_loc (L' := [(0, .ref (b + k)), (1, .int (nI 0))]) ⟨rfl, rfl, trivial⟩ ?_
  refine zr_cs (49 + 5 * 0) (11260 + 1415 * 0) rfl rfl ?_
  refine lp_XScene_init_M F hk (zsL_T_len tA b n) ?_ 16 0 rfl
  refine zr_norm (zu (zb f n (zsl (zsL_M tA b n) 20 (zC_N tA b n) (zE_N tA b n) 0)) k (.inr (8, zsO b n 0 0))) (n + (129 + 3 * 0)) (by rw [zsl_0 (by rw [zC_N, zra_0]; exact (zsl_old (zsl_old rfl (by decide)) (by decide)))]; rfl) rfl ?_
  refine zr_iconstv (v := 0) F zd_XScene_init_157 (by decide) ?_
  refine zr_istore_n F zd_XScene_init_158 (by decide) ?_
  refine zr_loc (L' := [(0, .ref (b + k)), (1, .int (nI 0))]) ⟨rfl, rfl, trivial⟩ ?_
  refine zr_cs (129 + 3 * 0) (33900 + 27 * 0) rfl rfl ?_
  refine lp_XScene_init_N F hk (zsL_M_len tA b n) ?_ 48 0 rfl
  refine zr_norm (zu (zb f n (zsl (zsL_N tA b n) 21 (zC_K tA b n) (zE_K tA b n) 0)) k (.inr (8, zsO b n 0 0))) (n + (273 + 3 * 0)) (by rw [zsl_0 (by rw [zC_K, zra_0]; exact (zsl_old (zsl_old (zsl_old rfl (by decide)) (by decide)) (by decide)))]; rfl) rfl ?_
  refine zr_iconstv (v := 0) F zd_XScene_init_187 (by decide) ?_
  refine zr_istore_n F zd_XScene_init_188 (by decide) ?_
  refine zr_loc (L' := [(0, .ref (b + k)), (1, .int (nI 0))]) ⟨rfl, rfl, trivial⟩ ?_
  refine zr_cs (273 + 3 * 0) (35196 + 134 * 0) rfl rfl ?_
  refine lp_XScene_init_K F hk (zsL_N_len tA b n) ?_ 32 0 rfl
  refine zr_aload_n F zd_XScene_init_217 rfl ?_
  refine zr_norm (zu (zb f n (zsL_K tA b n)) k (.inr (8, zsO b n 0 0))) (n + 369) rfl rfl ?_
  refine zr_callV0 F (c_XScene_clear l D tA b _ _ k (n) (n + 22) (n + 23) (.ref (b + (n + 1))) (.ref (b + (n + 2))) (.ref (b + (n + 19))) (.ref (b + (n + 20))) (.ref (b + (n + 21))) (.ref (b + (n + 24))) 0 0 (fun _ => 0) (fun _ => 0) (fun _ => 0) (by omega) (zu_s _ _ _) (zb_g (i := 0) hk rfl (zsl_old (zsl_old (zsl_old (zsl_old rfl (by decide)) (by decide)) (by decide)) (by decide))) (zb_g (i := 22) hk rfl (zsl_old (zsl_old (zsl_old (zsl_old rfl (by decide)) (by decide)) (by decide)) (by decide))) (zb_g (i := 23) hk rfl (zsl_old (zsl_old (zsl_old (zsl_old rfl (by decide)) (by decide)) (by decide)) (by decide)))) zd_XScene_init_218 (zu_s _ _ _) rfl zs_XScene_60 rfl zq_XScene_clear rfl rfl ⟨(Nat.le_of_ble_eq_true rfl), (Nat.le_of_ble_eq_true rfl)⟩ (Nat.le_of_ble_eq_true rfl) ⟨(Nat.le_of_ble_eq_true rfl), (Nat.le_of_ble_eq_true rfl)⟩ ?_
  exact zr_vret F hr zd_XScene_init_221 (Nat.le_of_ble_eq_true rfl) (Nat.le_of_ble_eq_true rfl) ⟨rfl, zs_end hk, rfl⟩
