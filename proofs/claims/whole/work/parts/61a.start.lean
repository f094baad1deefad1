/-! THE START: the shapes, and the memory behind both constructors -/
def akS (r : Nat) : Nat := if r < 4 then 20 + r else if r < 20 then 24 else if r < 26 then 5 + r else if r < 50 then 31 + (r - 26) % 3 else if r < 130 then 34 + (r - 50) % 5 else if r < 274 then 39 + (r - 130) % 3 else 42 + (r - 274) % 3
def akL : List Nat := [50, 51, 52, 53, 54, 55, 56, 56, 56, 56, 56, 56, 56, 56, 56, 56, 56, 56, 56, 56, 56, 56, 56, 56, 56, 56, 56, 56, 56, 56, 56, 56, 56, 56, 56, 56, 56, 56, 56, 56, 56, 56, 56, 56, 56, 56, 56, 56, 56, 56, 56, 56, 56, 56, 57, 58, 53, 60, 61, 62, 51, 52, 65, 66, 70, 71, 72, 80, 81, 82, 83, 84, 85, 86, 87, 88, 89, 90, 91, 92, 93, 94, 95, 96, 97, 98, 99, 100, 101, 102, 103, 104, 105, 106, 107, 108, 72, 80, 81, 82, 83, 84, 85, 86, 87, 88, 89, 90, 91, 92, 93, 94, 95, 96, 97, 98, 99, 100, 101, 102, 103, 104, 105, 106, 107, 108, 72, 80, 81, 82, 83, 84, 85, 86, 87, 88, 89, 90, 91, 92, 93, 94, 95, 96, 97, 98, 99, 100, 101, 102, 103, 104, 105, 106, 107, 108, 73, 74, 75, 76, 77, 78, 79, 110, 111, 112, 113, 114, 115, 116, 117, 118, 119, 120, 121, 122, 123, 124, 125, 126, 127, 130]
/-- an address's kind -/
def ak (k : Nat) : Nat := if k < 11 then k else if k < 1121 then akS ((k - 11) % 370) else akL.getD (k - 1121) 200
def shL (W H : Nat) : List (Option (Nat × Nat)) := [some (0, 0), some (101, 65536), some (204, 3), some (7, 0), some (100, 3072), some (4, 0), some (101, 7958), some (100, 6912), some (100, 6960), some (100, 4096), some (100, 6960), none, none, none, none, none, none, none, none, none, some (8, 0), some (100, 5), some (205, 8), some (209, 16), some (100, 6), some (206, 16), some (207, 48), some (208, 32), some (100, 7), some (100, 4), some (100, 12), some (10, 0), some (100, 1365), some (100, 6), some (2, 0), some (100, 384), some (100, 384), some (100, 256), some (100, 384), some (3, 0), some (100, 9), some (100, 12), some (11, 0), some (100, 32), some (100, 96), none, none, none, none, none, some (9, 0), some (6, 0), some (100, 18), some (100, 144), some (100, 12), some (209, 48), some (100, 12), some (100, 48), some (100, 512), none, some (5, 0), some (100, 663552), some (101, 36864), none, none, some (100, W * H), some (100, W * H), none, none, none, some (1, 0), some (101, 65536), some (15, 0), some (14, 0), some (12, 0), some (100, 6960), some (101, 8192), some (100, 3), some (103, 36), some (100, 6912), some (100, 8), some (100, 8), some (100, 8), some (100, 32760), some (100, 64), some (100, 16), some (100, 16), some (100, 16), some (100, 16), some (100, 16), some (100, 6144), some (100, 6144), some (100, 4096), some (100, 6144), some (100, 48), some (100, 48), some (100, 144), some (100, 144), some (100, 144), some (103, 48), some (100, 32), some (100, 32), some (100, 32), some (100, 32), some (100, 1024), some (100, 3072), some (100, 3), some (100, 3), some (100, 3), none, some (102, 2304), some (13, 0), some (102, 12), some (102, 12), some (102, 12), some (102, 12), some (102, 12), some (102, 12), some (100, 48), some (102, 48), some (100, 48), some (102, 120), some (102, 120), some (102, 20), some (102, 20), some (102, 20), some (102, 20), some (102, 3), none, none, some (102, 1)]
def sh0 (W H : Nat) : zSh := fun k => (shL W H).getD (ak k) none
def rS (k r j : Nat) : Option Nat :=
  if r = 0 then ([some (k + 1), some (k + 2), some (k + 3), some (k + 20), some (k + 21), some (k + 22), some (k + 23), some (k + 24), none, none, some (k + 25)] : List (Option Nat)).getD j none
  else if r = 2 then (if j < 8 then some (k + 24 + 3 * j) else none)
  else if r = 3 then (if j < 16 then some (k + 1 + j) else none)
  else if r = 20 then (if j < 16 then some (k + 30 + 5 * j) else none)
  else if r = 21 then (if j < 48 then some (k + 109 + 3 * j) else none)
  else if r = 22 then (if j < 32 then some (k + 252 + 3 * j) else none)
  else if r < 26 then none
  else if r < 50 then (if (r - 26) % 3 = 0 then ([none, none, none, none, some (k + 1), some (k + 2)] : List (Option Nat)).getD j none else none)
  else if r < 130 then (if (r - 50) % 5 = 0 then ([none, none, none, some (k + 1), some (k + 2), some (k + 3), some (k + 4)] : List (Option Nat)).getD j none else none)
  else if r < 274 then (if (r - 130) % 3 = 0 then ([none, none, none, none, some (k + 1), some (k + 2)] : List (Option Nat)).getD j none else none)
  else (if (r - 274) % 3 = 0 then ([none, none, none, none, some (k + 1), some (k + 2)] : List (Option Nat)).getD j none else none)
def m0R (k j : Nat) : Option Nat := if 11 ≤ k ∧ k < 1121 then rS k ((k - 11) % 370) j else if k = 2 then (if j < 3 then ([some 11, some 381, some 751] : List (Option Nat)).getD j none else none) else if k = 1126 then (if j < 48 then some (1126 + 1 + j) else none) else if k = 0 then ([none, none, some 1, none, some 2, some 11, some 3, some 1121, some 1178, some 5, none, none] : List (Option Nat)).getD j none else if k = 3 then ([none, none, some 4, none, none, none, none, none] : List (Option Nat)).getD j none else if k = 5 then ([some 6, none, some 7, some 8, none, some 9, some 10, none, none, none, none] : List (Option Nat)).getD j none else if k = 1121 then ([some 1122, none, some 1124, none, none, none, none, none, some 1125, some 1126, some 1175, none, none, some 1176, some 1177] : List (Option Nat)).getD j none else if k = 1122 then ([none, some 1123, none, none, none, none] : List (Option Nat)).getD j none else if k = 1178 then ([none, some 1183, some 1184, none, none, none, none, none, some 1179, some 1180, none, some 1181, none, none, none, none, none, none] : List (Option Nat)).getD j none else if k = 1181 then ([none, some 1182, none, none, none, none] : List (Option Nat)).getD j none else if k = 1185 then ([none, none, some 1186, none, some 1187, some 1217, some 1247, some 1277, some 1285, some 1278, none, none, none, none, some 1281, none, some 1282, some 1283, some 1284, none] : List (Option Nat)).getD j none else if k = 1277 then ([some 1186, some 1217, none, none, none, none, none, none, none, none, none] : List (Option Nat)).getD j none else if k = 1278 then ([some 1279, none, some 1280, none, none, none, none] : List (Option Nat)).getD j none else if k = 1285 then ([none, none, none, some 1283, some 1284, none, none, none, none, none, none, none, none, none, some 1286, some 1287, some 1288, some 1289, some 1290, some 1291, some 1292, some 1293, some 1294, some 1295, some 1296, some 1297, none, some 1298, some 1299, some 1300, some 1301] : List (Option Nat)).getD j none else if k = 1187 then ([none, none, none, none, none, some 1188, some 1189, some 1190, some 1191, some 1192, some 1193, some 1194, some 1195, some 1196, some 1197, some 1198, some 1199, some 1200, some 1201, some 1202, some 1203, some 1204, some 1205, some 1206, some 1207, some 1208, some 1209, some 1210, some 1211, some 1212, some 1213, some 1214, some 1215, some 1216, none, none] : List (Option Nat)).getD j none else if k = 1217 then ([none, none, none, none, none, some 1218, some 1219, some 1220, some 1221, some 1222, some 1223, some 1224, some 1225, some 1226, some 1227, some 1228, some 1229, some 1230, some 1231, some 1232, some 1233, some 1234, some 1235, some 1236, some 1237, some 1238, some 1239, some 1240, some 1241, some 1242, some 1243, some 1244, some 1245, some 1246, none, none] : List (Option Nat)).getD j none else if k = 1247 then ([none, none, none, none, none, some 1248, some 1249, some 1250, some 1251, some 1252, some 1253, some 1254, some 1255, some 1256, some 1257, some 1258, some 1259, some 1260, some 1261, some 1262, some 1263, some 1264, some 1265, some 1266, some 1267, some 1268, some 1269, some 1270, some 1271, some 1272, some 1273, some 1274, some 1275, some 1276, none, none] : List (Option Nat)).getD j none else none
def m0I (W H k : Nat) : Nat → Int32 := if 11 ≤ k ∧ k < 1121 then (if (k - 11) % 370 = 1 then zclr (fun _ => 0) 5 else if (k - 11) % 370 = 23 then zview (fun _ => 0) else if (k - 11) % 370 = 24 then zlamp (fun _ => 0) else (fun _ => 0)) else if k = 0 then (fun j => ([nI W, nI H, 0, 0, 0, 0, 0, 0, 0, 0, 0, -1] : List Int32).getD j 0) else if k = 1121 then (fun j => ([0, 0, 0, 0, 0, nI W, nI H, 0, 0, 0, 0, 0, 0, 0, 0] : List Int32).getD j 0) else if k = 1178 then (fun j => ([(((nI W) + 7) / 8) * (((nI H) + 7) / 8), 0, 0, 0, nI W, nI H, ((nI W) + 7) / 8, 0, 0, 0, 0, 0, 0, 0, 0, 0, 0, 0] : List Int32).getD j 0) else if k = 1185 then (fun j => ([nI W, nI H, 0, 0, 0, 0, 0, 0, 0, 0, 0, 0, 0, 0, 0, 0, 0, 0, 0, -1] : List Int32).getD j 0) else if k = 1187 then (fun j => ([0, 0, 0, 0, 0, 0, 0, 0, 0, 0, 0, 0, 0, 0, 0, 0, 0, 0, 0, 0, 0, 0, 0, 0, 0, 0, 0, 0, 0, 0, 0, 0, 0, 0, 32, 16384] : List Int32).getD j 0) else if k = 1214 then zclr (fun _ => 0) 3 else if k = 1215 then zclr (fun _ => 0) 3 else if k = 1216 then ztow (fun _ => 0) else if k = 1285 then (fun j => ([0, nI W, nI H, 0, 0, 0, 0, 0, 0, 0, 0, 0, 0, 0, 0, 0, 0, 0, 0, 0, 0, 0, 0, 0, 0, 0, 0, 0, 0, 0, 0] : List Int32).getD j 0) else (fun _ => 0)
def m0 (W H : Nat) : zMem := (m0I W H, fun _ _ => 0, m0R)
section ZST0
variable (tA : Nat → ClassId) (b W H : Nat)
theorem st_2 : lawW tA b W H 2 = zW tA b (sh0 W H) (m0 W H) 2 := by
  have e : (fun j => ((m0 W H).2.2 2 j).map (fun y => b + y)) = (zscn b 3) := by
    funext j
    rcases (show j = 0 ∨ j = 1 ∨ j = 2 ∨ 3 ≤ j by omega) with rfl | rfl | rfl | h
    · rfl
    · rfl
    · rfl
    · show Option.map _ (if j < 3 then _ else none) = (if j < 3 then _ else none)
      rw [if_neg (by omega), if_neg (by omega)]
      rfl
  show (some (.inl (tA 4, 3, .inr (.inr (.inr (.inr (zscn b 3)))))) : Option va_E) = (some (.inl (tA 4, 3, .inr (.inr (.inr (.inr (fun j => ((m0 W H).2.2 2 j).map (fun y => b + y))))))) : Option va_E)
  rw [e]
theorem st_13 : lawW tA b W H 13 = zW tA b (sh0 W H) (m0 W H) 13 := by
  have e : (fun j => ((m0 W H).2.2 13 j).map (fun y => b + y)) = (zra b (12 + 25) 3 8) := by
    funext j
    show Option.map (fun y => b + y) (if j < 8 then some (13 + 24 + 3 * j) else none) = (if j < 8 then some (b + (12 + 25 + 3 * j)) else none)
    by_cases h : j < 8
    · rw [if_pos h, if_pos h]
      show some (b + (13 + 24 + 3 * j)) = some (b + (12 + 25 + 3 * j))
      congr 2
    · rw [if_neg h, if_neg h]
      rfl
  show (some (.inl (tA 5, 8, .inr (.inr (.inr (.inr (zra b (12 + 25) 3 8)))))) : Option va_E) = (some (.inl (tA 5, 8, .inr (.inr (.inr (.inr (fun j => ((m0 W H).2.2 13 j).map (fun y => b + y))))))) : Option va_E)
  rw [e]
theorem st_14 : lawW tA b W H 14 = zW tA b (sh0 W H) (m0 W H) 14 := by
  have e : (fun j => ((m0 W H).2.2 14 j).map (fun y => b + y)) = (fun j => if j < 16 then some (b + (12 + 2 + 1 + j)) else none) := by
    funext j
    show Option.map (fun y => b + y) (if j < 16 then some (14 + 1 + j) else none) = (if j < 16 then some (b + (12 + 2 + 1 + j)) else none)
    by_cases h : j < 16
    · rw [if_pos h, if_pos h]
      show some (b + (14 + 1 + j)) = some (b + (12 + 2 + 1 + j))
      congr 2
    · rw [if_neg h, if_neg h]
      rfl
  show (some (.inl (tA 9, 16, .inr (.inr (.inr (.inr (fun j => if j < 16 then some (b + (12 + 2 + 1 + j)) else none)))))) : Option va_E) = (some (.inl (tA 9, 16, .inr (.inr (.inr (.inr (fun j => ((m0 W H).2.2 14 j).map (fun y => b + y))))))) : Option va_E)
  rw [e]
theorem st_31 : lawW tA b W H 31 = zW tA b (sh0 W H) (m0 W H) 31 := by
  have e : (fun j => ((m0 W H).2.2 31 j).map (fun y => b + y)) = (zra b (12 + 49) 5 16) := by
    funext j
    show Option.map (fun y => b + y) (if j < 16 then some (31 + 30 + 5 * j) else none) = (if j < 16 then some (b + (12 + 49 + 5 * j)) else none)
    by_cases h : j < 16
    · rw [if_pos h, if_pos h]
      show some (b + (31 + 30 + 5 * j)) = some (b + (12 + 49 + 5 * j))
      congr 2
    · rw [if_neg h, if_neg h]
      rfl
  show (some (.inl (tA 6, 16, .inr (.inr (.inr (.inr (zra b (12 + 49) 5 16)))))) : Option va_E) = (some (.inl (tA 6, 16, .inr (.inr (.inr (.inr (fun j => ((m0 W H).2.2 31 j).map (fun y => b + y))))))) : Option va_E)
  rw [e]
theorem st_32 : lawW tA b W H 32 = zW tA b (sh0 W H) (m0 W H) 32 := by
  have e : (fun j => ((m0 W H).2.2 32 j).map (fun y => b + y)) = (zra b (12 + 129) 3 48) := by
    funext j
    show Option.map (fun y => b + y) (if j < 48 then some (32 + 109 + 3 * j) else none) = (if j < 48 then some (b + (12 + 129 + 3 * j)) else none)
    by_cases h : j < 48
    · rw [if_pos h, if_pos h]
      show some (b + (32 + 109 + 3 * j)) = some (b + (12 + 129 + 3 * j))
      congr 2
    · rw [if_neg h, if_neg h]
      rfl
  show (some (.inl (tA 7, 48, .inr (.inr (.inr (.inr (zra b (12 + 129) 3 48)))))) : Option va_E) = (some (.inl (tA 7, 48, .inr (.inr (.inr (.inr (fun j => ((m0 W H).2.2 32 j).map (fun y => b + y))))))) : Option va_E)
  rw [e]
theorem st_33 : lawW tA b W H 33 = zW tA b (sh0 W H) (m0 W H) 33 := by
  have e : (fun j => ((m0 W H).2.2 33 j).map (fun y => b + y)) = (zra b (12 + 273) 3 32) := by
    funext j
    show Option.map (fun y => b + y) (if j < 32 then some (33 + 252 + 3 * j) else none) = (if j < 32 then some (b + (12 + 273 + 3 * j)) else none)
    by_cases h : j < 32
    · rw [if_pos h, if_pos h]
      show some (b + (33 + 252 + 3 * j)) = some (b + (12 + 273 + 3 * j))
      congr 2
    · rw [if_neg h, if_neg h]
      rfl
  show (some (.inl (tA 8, 32, .inr (.inr (.inr (.inr (zra b (12 + 273) 3 32)))))) : Option va_E) = (some (.inl (tA 8, 32, .inr (.inr (.inr (.inr (fun j => ((m0 W H).2.2 33 j).map (fun y => b + y))))))) : Option va_E)
  rw [e]
theorem st_383 : lawW tA b W H 383 = zW tA b (sh0 W H) (m0 W H) 383 := by
  have e : (fun j => ((m0 W H).2.2 383 j).map (fun y => b + y)) = (zra b (382 + 25) 3 8) := by
    funext j
    show Option.map (fun y => b + y) (if j < 8 then some (383 + 24 + 3 * j) else none) = (if j < 8 then some (b + (382 + 25 + 3 * j)) else none)
    by_cases h : j < 8
    · rw [if_pos h, if_pos h]
      show some (b + (383 + 24 + 3 * j)) = some (b + (382 + 25 + 3 * j))
      congr 2
    · rw [if_neg h, if_neg h]
      rfl
  show (some (.inl (tA 5, 8, .inr (.inr (.inr (.inr (zra b (382 + 25) 3 8)))))) : Option va_E) = (some (.inl (tA 5, 8, .inr (.inr (.inr (.inr (fun j => ((m0 W H).2.2 383 j).map (fun y => b + y))))))) : Option va_E)
  rw [e]
theorem st_384 : lawW tA b W H 384 = zW tA b (sh0 W H) (m0 W H) 384 := by
  have e : (fun j => ((m0 W H).2.2 384 j).map (fun y => b + y)) = (fun j => if j < 16 then some (b + (382 + 2 + 1 + j)) else none) := by
    funext j
    show Option.map (fun y => b + y) (if j < 16 then some (384 + 1 + j) else none) = (if j < 16 then some (b + (382 + 2 + 1 + j)) else none)
    by_cases h : j < 16
    · rw [if_pos h, if_pos h]
      show some (b + (384 + 1 + j)) = some (b + (382 + 2 + 1 + j))
      congr 2
    · rw [if_neg h, if_neg h]
      rfl
  show (some (.inl (tA 9, 16, .inr (.inr (.inr (.inr (fun j => if j < 16 then some (b + (382 + 2 + 1 + j)) else none)))))) : Option va_E) = (some (.inl (tA 9, 16, .inr (.inr (.inr (.inr (fun j => ((m0 W H).2.2 384 j).map (fun y => b + y))))))) : Option va_E)
  rw [e]
theorem st_401 : lawW tA b W H 401 = zW tA b (sh0 W H) (m0 W H) 401 := by
  have e : (fun j => ((m0 W H).2.2 401 j).map (fun y => b + y)) = (zra b (382 + 49) 5 16) := by
    funext j
    show Option.map (fun y => b + y) (if j < 16 then some (401 + 30 + 5 * j) else none) = (if j < 16 then some (b + (382 + 49 + 5 * j)) else none)
    by_cases h : j < 16
    · rw [if_pos h, if_pos h]
      show some (b + (401 + 30 + 5 * j)) = some (b + (382 + 49 + 5 * j))
      congr 2
    · rw [if_neg h, if_neg h]
      rfl
  show (some (.inl (tA 6, 16, .inr (.inr (.inr (.inr (zra b (382 + 49) 5 16)))))) : Option va_E) = (some (.inl (tA 6, 16, .inr (.inr (.inr (.inr (fun j => ((m0 W H).2.2 401 j).map (fun y => b + y))))))) : Option va_E)
  rw [e]
theorem st_402 : lawW tA b W H 402 = zW tA b (sh0 W H) (m0 W H) 402 := by
  have e : (fun j => ((m0 W H).2.2 402 j).map (fun y => b + y)) = (zra b (382 + 129) 3 48) := by
    funext j
    show Option.map (fun y => b + y) (if j < 48 then some (402 + 109 + 3 * j) else none) = (if j < 48 then some (b + (382 + 129 + 3 * j)) else none)
    by_cases h : j < 48
    · rw [if_pos h, if_pos h]
      show some (b + (402 + 109 + 3 * j)) = some (b + (382 + 129 + 3 * j))
      congr 2
    · rw [if_neg h, if_neg h]
      rfl
  show (some (.inl (tA 7, 48, .inr (.inr (.inr (.inr (zra b (382 + 129) 3 48)))))) : Option va_E) = (some (.inl (tA 7, 48, .inr (.inr (.inr (.inr (fun j => ((m0 W H).2.2 402 j).map (fun y => b + y))))))) : Option va_E)
  rw [e]
theorem st_403 : lawW tA b W H 403 = zW tA b (sh0 W H) (m0 W H) 403 := by
  have e : (fun j => ((m0 W H).2.2 403 j).map (fun y => b + y)) = (zra b (382 + 273) 3 32) := by
    funext j
    show Option.map (fun y => b + y) (if j < 32 then some (403 + 252 + 3 * j) else none) = (if j < 32 then some (b + (382 + 273 + 3 * j)) else none)
    by_cases h : j < 32
    · rw [if_pos h, if_pos h]
      show some (b + (403 + 252 + 3 * j)) = some (b + (382 + 273 + 3 * j))
      congr 2
    · rw [if_neg h, if_neg h]
      rfl
  show (some (.inl (tA 8, 32, .inr (.inr (.inr (.inr (zra b (382 + 273) 3 32)))))) : Option va_E) = (some (.inl (tA 8, 32, .inr (.inr (.inr (.inr (fun j => ((m0 W H).2.2 403 j).map (fun y => b + y))))))) : Option va_E)
  rw [e]
theorem st_753 : lawW tA b W H 753 = zW tA b (sh0 W H) (m0 W H) 753 := by
  have e : (fun j => ((m0 W H).2.2 753 j).map (fun y => b + y)) = (zra b (752 + 25) 3 8) := by
    funext j
    show Option.map (fun y => b + y) (if j < 8 then some (753 + 24 + 3 * j) else none) = (if j < 8 then some (b + (752 + 25 + 3 * j)) else none)
    by_cases h : j < 8
    · rw [if_pos h, if_pos h]
      show some (b + (753 + 24 + 3 * j)) = some (b + (752 + 25 + 3 * j))
      congr 2
    · rw [if_neg h, if_neg h]
      rfl
  show (some (.inl (tA 5, 8, .inr (.inr (.inr (.inr (zra b (752 + 25) 3 8)))))) : Option va_E) = (some (.inl (tA 5, 8, .inr (.inr (.inr (.inr (fun j => ((m0 W H).2.2 753 j).map (fun y => b + y))))))) : Option va_E)
  rw [e]
theorem st_754 : lawW tA b W H 754 = zW tA b (sh0 W H) (m0 W H) 754 := by
  have e : (fun j => ((m0 W H).2.2 754 j).map (fun y => b + y)) = (fun j => if j < 16 then some (b + (752 + 2 + 1 + j)) else none) := by
    funext j
    show Option.map (fun y => b + y) (if j < 16 then some (754 + 1 + j) else none) = (if j < 16 then some (b + (752 + 2 + 1 + j)) else none)
    by_cases h : j < 16
    · rw [if_pos h, if_pos h]
      show some (b + (754 + 1 + j)) = some (b + (752 + 2 + 1 + j))
      congr 2
    · rw [if_neg h, if_neg h]
      rfl
  show (some (.inl (tA 9, 16, .inr (.inr (.inr (.inr (fun j => if j < 16 then some (b + (752 + 2 + 1 + j)) else none)))))) : Option va_E) = (some (.inl (tA 9, 16, .inr (.inr (.inr (.inr (fun j => ((m0 W H).2.2 754 j).map (fun y => b + y))))))) : Option va_E)
  rw [e]
theorem st_771 : lawW tA b W H 771 = zW tA b (sh0 W H) (m0 W H) 771 := by
  have e : (fun j => ((m0 W H).2.2 771 j).map (fun y => b + y)) = (zra b (752 + 49) 5 16) := by
    funext j
    show Option.map (fun y => b + y) (if j < 16 then some (771 + 30 + 5 * j) else none) = (if j < 16 then some (b + (752 + 49 + 5 * j)) else none)
    by_cases h : j < 16
    · rw [if_pos h, if_pos h]
      show some (b + (771 + 30 + 5 * j)) = some (b + (752 + 49 + 5 * j))
      congr 2
    · rw [if_neg h, if_neg h]
      rfl
  show (some (.inl (tA 6, 16, .inr (.inr (.inr (.inr (zra b (752 + 49) 5 16)))))) : Option va_E) = (some (.inl (tA 6, 16, .inr (.inr (.inr (.inr (fun j => ((m0 W H).2.2 771 j).map (fun y => b + y))))))) : Option va_E)
  rw [e]
theorem st_772 : lawW tA b W H 772 = zW tA b (sh0 W H) (m0 W H) 772 := by
  have e : (fun j => ((m0 W H).2.2 772 j).map (fun y => b + y)) = (zra b (752 + 129) 3 48) := by
    funext j
    show Option.map (fun y => b + y) (if j < 48 then some (772 + 109 + 3 * j) else none) = (if j < 48 then some (b + (752 + 129 + 3 * j)) else none)
    by_cases h : j < 48
    · rw [if_pos h, if_pos h]
      show some (b + (772 + 109 + 3 * j)) = some (b + (752 + 129 + 3 * j))
      congr 2
    · rw [if_neg h, if_neg h]
      rfl
  show (some (.inl (tA 7, 48, .inr (.inr (.inr (.inr (zra b (752 + 129) 3 48)))))) : Option va_E) = (some (.inl (tA 7, 48, .inr (.inr (.inr (.inr (fun j => ((m0 W H).2.2 772 j).map (fun y => b + y))))))) : Option va_E)
  rw [e]
theorem st_773 : lawW tA b W H 773 = zW tA b (sh0 W H) (m0 W H) 773 := by
  have e : (fun j => ((m0 W H).2.2 773 j).map (fun y => b + y)) = (zra b (752 + 273) 3 32) := by
    funext j
    show Option.map (fun y => b + y) (if j < 32 then some (773 + 252 + 3 * j) else none) = (if j < 32 then some (b + (752 + 273 + 3 * j)) else none)
    by_cases h : j < 32
    · rw [if_pos h, if_pos h]
      show some (b + (773 + 252 + 3 * j)) = some (b + (752 + 273 + 3 * j))
      congr 2
    · rw [if_neg h, if_neg h]
      rfl
  show (some (.inl (tA 8, 32, .inr (.inr (.inr (.inr (zra b (752 + 273) 3 32)))))) : Option va_E) = (some (.inl (tA 8, 32, .inr (.inr (.inr (.inr (fun j => ((m0 W H).2.2 773 j).map (fun y => b + y))))))) : Option va_E)
  rw [e]
theorem st_1126 : lawW tA b W H 1126 = zW tA b (sh0 W H) (m0 W H) 1126 := by
  have e : (fun j => ((m0 W H).2.2 1126 j).map (fun y => b + y)) = (fun j => if j < 48 then some (b + (1122 + 4 + 1 + j)) else none) := by
    funext j
    show Option.map (fun y => b + y) (if j < 48 then some (1126 + 1 + j) else none) = (if j < 48 then some (b + (1122 + 4 + 1 + j)) else none)
    by_cases h : j < 48
    · rw [if_pos h, if_pos h]
      show some (b + (1126 + 1 + j)) = some (b + (1122 + 4 + 1 + j))
      congr 2
    · rw [if_neg h, if_neg h]
      rfl
  show (some (.inl (tA 9, 48, .inr (.inr (.inr (.inr (fun j => if j < 48 then some (b + (1122 + 4 + 1 + j)) else none)))))) : Option va_E) = (some (.inl (tA 9, 48, .inr (.inr (.inr (.inr (fun j => ((m0 W H).2.2 1126 j).map (fun y => b + y))))))) : Option va_E)
  rw [e]
end ZST0
