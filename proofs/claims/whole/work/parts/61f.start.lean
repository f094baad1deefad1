section ZST0
variable (tA : Nat → ClassId) (b W H : Nat)
set_option maxRecDepth 100000 in
theorem sg_1185 : lawW tA b W H 1185 = zW tA b (sh0 W H) (m0 W H) 1185 := Eq.trans (b := some _) rfl rfl
set_option maxRecDepth 100000 in
theorem sg_1186 : lawW tA b W H 1186 = zW tA b (sh0 W H) (m0 W H) 1186 := Eq.trans (b := some _) rfl rfl
set_option maxRecDepth 100000 in
theorem sg_1187 : lawW tA b W H 1187 = zW tA b (sh0 W H) (m0 W H) 1187 := Eq.trans (b := some _) rfl rfl
set_option maxRecDepth 100000 in
theorem sg_1188 : lawW tA b W H 1188 = zW tA b (sh0 W H) (m0 W H) 1188 := Eq.trans (b := some _) rfl rfl
set_option maxRecDepth 100000 in
theorem sg_1189 : lawW tA b W H 1189 = zW tA b (sh0 W H) (m0 W H) 1189 := Eq.trans (b := some _) rfl rfl
set_option maxRecDepth 100000 in
theorem sg_1190 : lawW tA b W H 1190 = zW tA b (sh0 W H) (m0 W H) 1190 := Eq.trans (b := some _) rfl rfl
set_option maxRecDepth 100000 in
theorem sg_1191 : lawW tA b W H 1191 = zW tA b (sh0 W H) (m0 W H) 1191 := Eq.trans (b := some _) rfl rfl
set_option maxRecDepth 100000 in
theorem sg_1192 : lawW tA b W H 1192 = zW tA b (sh0 W H) (m0 W H) 1192 := Eq.trans (b := some _) rfl rfl
set_option maxRecDepth 100000 in
theorem sg_1193 : lawW tA b W H 1193 = zW tA b (sh0 W H) (m0 W H) 1193 := Eq.trans (b := some _) rfl rfl
set_option maxRecDepth 100000 in
theorem sg_1194 : lawW tA b W H 1194 = zW tA b (sh0 W H) (m0 W H) 1194 := Eq.trans (b := some _) rfl rfl
set_option maxRecDepth 100000 in
theorem sg_1195 : lawW tA b W H 1195 = zW tA b (sh0 W H) (m0 W H) 1195 := Eq.trans (b := some _) rfl rfl
set_option maxRecDepth 100000 in
theorem sg_1196 : lawW tA b W H 1196 = zW tA b (sh0 W H) (m0 W H) 1196 := Eq.trans (b := some _) rfl rfl
set_option maxRecDepth 100000 in
theorem sg_1197 : lawW tA b W H 1197 = zW tA b (sh0 W H) (m0 W H) 1197 := Eq.trans (b := some _) rfl rfl
set_option maxRecDepth 100000 in
theorem sg_1198 : lawW tA b W H 1198 = zW tA b (sh0 W H) (m0 W H) 1198 := Eq.trans (b := some _) rfl rfl
set_option maxRecDepth 100000 in
theorem sg_1199 : lawW tA b W H 1199 = zW tA b (sh0 W H) (m0 W H) 1199 := Eq.trans (b := some _) rfl rfl
set_option maxRecDepth 100000 in
theorem sg_1200 : lawW tA b W H 1200 = zW tA b (sh0 W H) (m0 W H) 1200 := Eq.trans (b := some _) rfl rfl
set_option maxRecDepth 100000 in
theorem sg_1201 : lawW tA b W H 1201 = zW tA b (sh0 W H) (m0 W H) 1201 := Eq.trans (b := some _) rfl rfl
set_option maxRecDepth 100000 in
theorem sg_1202 : lawW tA b W H 1202 = zW tA b (sh0 W H) (m0 W H) 1202 := Eq.trans (b := some _) rfl rfl
set_option maxRecDepth 100000 in
theorem sg_1203 : lawW tA b W H 1203 = zW tA b (sh0 W H) (m0 W H) 1203 := Eq.trans (b := some _) rfl rfl
set_option maxRecDepth 100000 in
theorem sg_1204 : lawW tA b W H 1204 = zW tA b (sh0 W H) (m0 W H) 1204 := Eq.trans (b := some _) rfl rfl
set_option maxRecDepth 100000 in
theorem sg_1205 : lawW tA b W H 1205 = zW tA b (sh0 W H) (m0 W H) 1205 := Eq.trans (b := some _) rfl rfl
set_option maxRecDepth 100000 in
theorem sg_1206 : lawW tA b W H 1206 = zW tA b (sh0 W H) (m0 W H) 1206 := Eq.trans (b := some _) rfl rfl
set_option maxRecDepth 100000 in
theorem sg_1207 : lawW tA b W H 1207 = zW tA b (sh0 W H) (m0 W H) 1207 := Eq.trans (b := some _) rfl rfl
set_option maxRecDepth 100000 in
theorem sg_1208 : lawW tA b W H 1208 = zW tA b (sh0 W H) (m0 W H) 1208 := Eq.trans (b := some _) rfl rfl
set_option maxRecDepth 100000 in
theorem sg_1209 : lawW tA b W H 1209 = zW tA b (sh0 W H) (m0 W H) 1209 := Eq.trans (b := some _) rfl rfl
set_option maxRecDepth 100000 in
theorem sg_1210 : lawW tA b W H 1210 = zW tA b (sh0 W H) (m0 W H) 1210 := Eq.trans (b := some _) rfl rfl
set_option maxRecDepth 100000 in
theorem sg_1211 : lawW tA b W H 1211 = zW tA b (sh0 W H) (m0 W H) 1211 := Eq.trans (b := some _) rfl rfl
set_option maxRecDepth 100000 in
theorem sg_1212 : lawW tA b W H 1212 = zW tA b (sh0 W H) (m0 W H) 1212 := Eq.trans (b := some _) rfl rfl
set_option maxRecDepth 100000 in
theorem sg_1213 : lawW tA b W H 1213 = zW tA b (sh0 W H) (m0 W H) 1213 := Eq.trans (b := some _) rfl rfl
set_option maxRecDepth 100000 in
theorem sg_1214 : lawW tA b W H 1214 = zW tA b (sh0 W H) (m0 W H) 1214 := Eq.trans (b := some _) rfl rfl
set_option maxRecDepth 100000 in
theorem sg_1215 : lawW tA b W H 1215 = zW tA b (sh0 W H) (m0 W H) 1215 := Eq.trans (b := some _) rfl rfl
set_option maxRecDepth 100000 in
theorem sg_1216 : lawW tA b W H 1216 = zW tA b (sh0 W H) (m0 W H) 1216 := Eq.trans (b := some _) rfl rfl
set_option maxRecDepth 100000 in
theorem sg_1217 : lawW tA b W H 1217 = zW tA b (sh0 W H) (m0 W H) 1217 := Eq.trans (b := some _) rfl rfl
set_option maxRecDepth 100000 in
theorem sg_1218 : lawW tA b W H 1218 = zW tA b (sh0 W H) (m0 W H) 1218 := Eq.trans (b := some _) rfl rfl
set_option maxRecDepth 100000 in
theorem sg_1219 : lawW tA b W H 1219 = zW tA b (sh0 W H) (m0 W H) 1219 := Eq.trans (b := some _) rfl rfl
set_option maxRecDepth 100000 in
theorem sg_1220 : lawW tA b W H 1220 = zW tA b (sh0 W H) (m0 W H) 1220 := Eq.trans (b := some _) rfl rfl
set_option maxRecDepth 100000 in
theorem sg_1221 : lawW tA b W H 1221 = zW tA b (sh0 W H) (m0 W H) 1221 := Eq.trans (b := some _) rfl rfl
set_option maxRecDepth 100000 in
theorem sg_1222 : lawW tA b W H 1222 = zW tA b (sh0 W H) (m0 W H) 1222 := Eq.trans (b := some _) rfl rfl
set_option maxRecDepth 100000 in
theorem sg_1223 : lawW tA b W H 1223 = zW tA b (sh0 W H) (m0 W H) 1223 := Eq.trans (b := some _) rfl rfl
set_option maxRecDepth 100000 in
theorem sg_1224 : lawW tA b W H 1224 = zW tA b (sh0 W H) (m0 W H) 1224 := Eq.trans (b := some _) rfl rfl
set_option maxRecDepth 100000 in
theorem sg_1225 : lawW tA b W H 1225 = zW tA b (sh0 W H) (m0 W H) 1225 := Eq.trans (b := some _) rfl rfl
set_option maxRecDepth 100000 in
theorem sg_1226 : lawW tA b W H 1226 = zW tA b (sh0 W H) (m0 W H) 1226 := Eq.trans (b := some _) rfl rfl
set_option maxRecDepth 100000 in
theorem sg_1227 : lawW tA b W H 1227 = zW tA b (sh0 W H) (m0 W H) 1227 := Eq.trans (b := some _) rfl rfl
set_option maxRecDepth 100000 in
theorem sg_1228 : lawW tA b W H 1228 = zW tA b (sh0 W H) (m0 W H) 1228 := Eq.trans (b := some _) rfl rfl
set_option maxRecDepth 100000 in
theorem sg_1229 : lawW tA b W H 1229 = zW tA b (sh0 W H) (m0 W H) 1229 := Eq.trans (b := some _) rfl rfl
set_option maxRecDepth 100000 in
theorem sg_1230 : lawW tA b W H 1230 = zW tA b (sh0 W H) (m0 W H) 1230 := Eq.trans (b := some _) rfl rfl
set_option maxRecDepth 100000 in
theorem sg_1231 : lawW tA b W H 1231 = zW tA b (sh0 W H) (m0 W H) 1231 := Eq.trans (b := some _) rfl rfl
set_option maxRecDepth 100000 in
theorem sg_1232 : lawW tA b W H 1232 = zW tA b (sh0 W H) (m0 W H) 1232 := Eq.trans (b := some _) rfl rfl
set_option maxRecDepth 100000 in
theorem sg_1233 : lawW tA b W H 1233 = zW tA b (sh0 W H) (m0 W H) 1233 := Eq.trans (b := some _) rfl rfl
set_option maxRecDepth 100000 in
theorem sg_1234 : lawW tA b W H 1234 = zW tA b (sh0 W H) (m0 W H) 1234 := Eq.trans (b := some _) rfl rfl
set_option maxRecDepth 100000 in
theorem sg_1235 : lawW tA b W H 1235 = zW tA b (sh0 W H) (m0 W H) 1235 := Eq.trans (b := some _) rfl rfl
set_option maxRecDepth 100000 in
theorem sg_1236 : lawW tA b W H 1236 = zW tA b (sh0 W H) (m0 W H) 1236 := Eq.trans (b := some _) rfl rfl
set_option maxRecDepth 100000 in
theorem sg_1237 : lawW tA b W H 1237 = zW tA b (sh0 W H) (m0 W H) 1237 := Eq.trans (b := some _) rfl rfl
set_option maxRecDepth 100000 in
theorem sg_1238 : lawW tA b W H 1238 = zW tA b (sh0 W H) (m0 W H) 1238 := Eq.trans (b := some _) rfl rfl
set_option maxRecDepth 100000 in
theorem sg_1239 : lawW tA b W H 1239 = zW tA b (sh0 W H) (m0 W H) 1239 := Eq.trans (b := some _) rfl rfl
set_option maxRecDepth 100000 in
theorem sg_1240 : lawW tA b W H 1240 = zW tA b (sh0 W H) (m0 W H) 1240 := Eq.trans (b := some _) rfl rfl
set_option maxRecDepth 100000 in
theorem sg_1241 : lawW tA b W H 1241 = zW tA b (sh0 W H) (m0 W H) 1241 := Eq.trans (b := some _) rfl rfl
set_option maxRecDepth 100000 in
theorem sg_1242 : lawW tA b W H 1242 = zW tA b (sh0 W H) (m0 W H) 1242 := Eq.trans (b := some _) rfl rfl
set_option maxRecDepth 100000 in
theorem sg_1243 : lawW tA b W H 1243 = zW tA b (sh0 W H) (m0 W H) 1243 := Eq.trans (b := some _) rfl rfl
set_option maxRecDepth 100000 in
theorem sg_1244 : lawW tA b W H 1244 = zW tA b (sh0 W H) (m0 W H) 1244 := Eq.trans (b := some _) rfl rfl
theorem sgs_f : ∀ j, j < 60 → lawW tA b W H (1185 + j) = zW tA b (sh0 W H) (m0 W H) (1185 + j) := by
  intro j hj
  match j, hj with
  | 0, _ => exact sg_1185 tA b W H
  | 1, _ => exact sg_1186 tA b W H
  | 2, _ => exact sg_1187 tA b W H
  | 3, _ => exact sg_1188 tA b W H
  | 4, _ => exact sg_1189 tA b W H
  | 5, _ => exact sg_1190 tA b W H
  | 6, _ => exact sg_1191 tA b W H
  | 7, _ => exact sg_1192 tA b W H
  | 8, _ => exact sg_1193 tA b W H
  | 9, _ => exact sg_1194 tA b W H
  | 10, _ => exact sg_1195 tA b W H
  | 11, _ => exact sg_1196 tA b W H
  | 12, _ => exact sg_1197 tA b W H
  | 13, _ => exact sg_1198 tA b W H
  | 14, _ => exact sg_1199 tA b W H
  | 15, _ => exact sg_1200 tA b W H
  | 16, _ => exact sg_1201 tA b W H
  | 17, _ => exact sg_1202 tA b W H
  | 18, _ => exact sg_1203 tA b W H
  | 19, _ => exact sg_1204 tA b W H
  | 20, _ => exact sg_1205 tA b W H
  | 21, _ => exact sg_1206 tA b W H
  | 22, _ => exact sg_1207 tA b W H
  | 23, _ => exact sg_1208 tA b W H
  | 24, _ => exact sg_1209 tA b W H
  | 25, _ => exact sg_1210 tA b W H
  | 26, _ => exact sg_1211 tA b W H
  | 27, _ => exact sg_1212 tA b W H
  | 28, _ => exact sg_1213 tA b W H
  | 29, _ => exact sg_1214 tA b W H
  | 30, _ => exact sg_1215 tA b W H
  | 31, _ => exact sg_1216 tA b W H
  | 32, _ => exact sg_1217 tA b W H
  | 33, _ => exact sg_1218 tA b W H
  | 34, _ => exact sg_1219 tA b W H
  | 35, _ => exact sg_1220 tA b W H
  | 36, _ => exact sg_1221 tA b W H
  | 37, _ => exact sg_1222 tA b W H
  | 38, _ => exact sg_1223 tA b W H
  | 39, _ => exact sg_1224 tA b W H
  | 40, _ => exact sg_1225 tA b W H
  | 41, _ => exact sg_1226 tA b W H
  | 42, _ => exact sg_1227 tA b W H
  | 43, _ => exact sg_1228 tA b W H
  | 44, _ => exact sg_1229 tA b W H
  | 45, _ => exact sg_1230 tA b W H
  | 46, _ => exact sg_1231 tA b W H
  | 47, _ => exact sg_1232 tA b W H
  | 48, _ => exact sg_1233 tA b W H
  | 49, _ => exact sg_1234 tA b W H
  | 50, _ => exact sg_1235 tA b W H
  | 51, _ => exact sg_1236 tA b W H
  | 52, _ => exact sg_1237 tA b W H
  | 53, _ => exact sg_1238 tA b W H
  | 54, _ => exact sg_1239 tA b W H
  | 55, _ => exact sg_1240 tA b W H
  | 56, _ => exact sg_1241 tA b W H
  | 57, _ => exact sg_1242 tA b W H
  | 58, _ => exact sg_1243 tA b W H
  | 59, _ => exact sg_1244 tA b W H
  | j + 60, h => exact absurd h (by omega)
end ZST0
