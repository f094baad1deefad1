section ZST0
variable (tA : Nat → ClassId) (b W H : Nat)
set_option maxRecDepth 100000 in
theorem sg_1245 : lawW tA b W H 1245 = zW tA b (sh0 W H) (m0 W H) 1245 := Eq.trans (b := some _) rfl rfl
set_option maxRecDepth 100000 in
theorem sg_1246 : lawW tA b W H 1246 = zW tA b (sh0 W H) (m0 W H) 1246 := Eq.trans (b := some _) rfl rfl
set_option maxRecDepth 100000 in
theorem sg_1247 : lawW tA b W H 1247 = zW tA b (sh0 W H) (m0 W H) 1247 := Eq.trans (b := some _) rfl rfl
set_option maxRecDepth 100000 in
theorem sg_1248 : lawW tA b W H 1248 = zW tA b (sh0 W H) (m0 W H) 1248 := Eq.trans (b := some _) rfl rfl
set_option maxRecDepth 100000 in
theorem sg_1249 : lawW tA b W H 1249 = zW tA b (sh0 W H) (m0 W H) 1249 := Eq.trans (b := some _) rfl rfl
set_option maxRecDepth 100000 in
theorem sg_1250 : lawW tA b W H 1250 = zW tA b (sh0 W H) (m0 W H) 1250 := Eq.trans (b := some _) rfl rfl
set_option maxRecDepth 100000 in
theorem sg_1251 : lawW tA b W H 1251 = zW tA b (sh0 W H) (m0 W H) 1251 := Eq.trans (b := some _) rfl rfl
set_option maxRecDepth 100000 in
theorem sg_1252 : lawW tA b W H 1252 = zW tA b (sh0 W H) (m0 W H) 1252 := Eq.trans (b := some _) rfl rfl
set_option maxRecDepth 100000 in
theorem sg_1253 : lawW tA b W H 1253 = zW tA b (sh0 W H) (m0 W H) 1253 := Eq.trans (b := some _) rfl rfl
set_option maxRecDepth 100000 in
theorem sg_1254 : lawW tA b W H 1254 = zW tA b (sh0 W H) (m0 W H) 1254 := Eq.trans (b := some _) rfl rfl
set_option maxRecDepth 100000 in
theorem sg_1255 : lawW tA b W H 1255 = zW tA b (sh0 W H) (m0 W H) 1255 := Eq.trans (b := some _) rfl rfl
set_option maxRecDepth 100000 in
theorem sg_1256 : lawW tA b W H 1256 = zW tA b (sh0 W H) (m0 W H) 1256 := Eq.trans (b := some _) rfl rfl
set_option maxRecDepth 100000 in
theorem sg_1257 : lawW tA b W H 1257 = zW tA b (sh0 W H) (m0 W H) 1257 := Eq.trans (b := some _) rfl rfl
set_option maxRecDepth 100000 in
theorem sg_1258 : lawW tA b W H 1258 = zW tA b (sh0 W H) (m0 W H) 1258 := Eq.trans (b := some _) rfl rfl
set_option maxRecDepth 100000 in
theorem sg_1259 : lawW tA b W H 1259 = zW tA b (sh0 W H) (m0 W H) 1259 := Eq.trans (b := some _) rfl rfl
set_option maxRecDepth 100000 in
theorem sg_1260 : lawW tA b W H 1260 = zW tA b (sh0 W H) (m0 W H) 1260 := Eq.trans (b := some _) rfl rfl
set_option maxRecDepth 100000 in
theorem sg_1261 : lawW tA b W H 1261 = zW tA b (sh0 W H) (m0 W H) 1261 := Eq.trans (b := some _) rfl rfl
set_option maxRecDepth 100000 in
theorem sg_1262 : lawW tA b W H 1262 = zW tA b (sh0 W H) (m0 W H) 1262 := Eq.trans (b := some _) rfl rfl
set_option maxRecDepth 100000 in
theorem sg_1263 : lawW tA b W H 1263 = zW tA b (sh0 W H) (m0 W H) 1263 := Eq.trans (b := some _) rfl rfl
set_option maxRecDepth 100000 in
theorem sg_1264 : lawW tA b W H 1264 = zW tA b (sh0 W H) (m0 W H) 1264 := Eq.trans (b := some _) rfl rfl
set_option maxRecDepth 100000 in
theorem sg_1265 : lawW tA b W H 1265 = zW tA b (sh0 W H) (m0 W H) 1265 := Eq.trans (b := some _) rfl rfl
set_option maxRecDepth 100000 in
theorem sg_1266 : lawW tA b W H 1266 = zW tA b (sh0 W H) (m0 W H) 1266 := Eq.trans (b := some _) rfl rfl
set_option maxRecDepth 100000 in
theorem sg_1267 : lawW tA b W H 1267 = zW tA b (sh0 W H) (m0 W H) 1267 := Eq.trans (b := some _) rfl rfl
set_option maxRecDepth 100000 in
theorem sg_1268 : lawW tA b W H 1268 = zW tA b (sh0 W H) (m0 W H) 1268 := Eq.trans (b := some _) rfl rfl
set_option maxRecDepth 100000 in
theorem sg_1269 : lawW tA b W H 1269 = zW tA b (sh0 W H) (m0 W H) 1269 := Eq.trans (b := some _) rfl rfl
set_option maxRecDepth 100000 in
theorem sg_1270 : lawW tA b W H 1270 = zW tA b (sh0 W H) (m0 W H) 1270 := Eq.trans (b := some _) rfl rfl
set_option maxRecDepth 100000 in
theorem sg_1271 : lawW tA b W H 1271 = zW tA b (sh0 W H) (m0 W H) 1271 := Eq.trans (b := some _) rfl rfl
set_option maxRecDepth 100000 in
theorem sg_1272 : lawW tA b W H 1272 = zW tA b (sh0 W H) (m0 W H) 1272 := Eq.trans (b := some _) rfl rfl
set_option maxRecDepth 100000 in
theorem sg_1273 : lawW tA b W H 1273 = zW tA b (sh0 W H) (m0 W H) 1273 := Eq.trans (b := some _) rfl rfl
set_option maxRecDepth 100000 in
theorem sg_1274 : lawW tA b W H 1274 = zW tA b (sh0 W H) (m0 W H) 1274 := Eq.trans (b := some _) rfl rfl
set_option maxRecDepth 100000 in
theorem sg_1275 : lawW tA b W H 1275 = zW tA b (sh0 W H) (m0 W H) 1275 := Eq.trans (b := some _) rfl rfl
set_option maxRecDepth 100000 in
theorem sg_1276 : lawW tA b W H 1276 = zW tA b (sh0 W H) (m0 W H) 1276 := Eq.trans (b := some _) rfl rfl
set_option maxRecDepth 100000 in
theorem sg_1277 : lawW tA b W H 1277 = zW tA b (sh0 W H) (m0 W H) 1277 := Eq.trans (b := some _) rfl rfl
set_option maxRecDepth 100000 in
theorem sg_1278 : lawW tA b W H 1278 = zW tA b (sh0 W H) (m0 W H) 1278 := Eq.trans (b := some _) rfl rfl
set_option maxRecDepth 100000 in
theorem sg_1279 : lawW tA b W H 1279 = zW tA b (sh0 W H) (m0 W H) 1279 := Eq.trans (b := some _) rfl rfl
set_option maxRecDepth 100000 in
theorem sg_1280 : lawW tA b W H 1280 = zW tA b (sh0 W H) (m0 W H) 1280 := Eq.trans (b := some _) rfl rfl
set_option maxRecDepth 100000 in
theorem sg_1281 : lawW tA b W H 1281 = zW tA b (sh0 W H) (m0 W H) 1281 := Eq.trans (b := some _) rfl rfl
set_option maxRecDepth 100000 in
theorem sg_1282 : lawW tA b W H 1282 = zW tA b (sh0 W H) (m0 W H) 1282 := Eq.trans (b := some _) rfl rfl
set_option maxRecDepth 100000 in
theorem sg_1283 : lawW tA b W H 1283 = zW tA b (sh0 W H) (m0 W H) 1283 := Eq.trans (b := some _) rfl rfl
set_option maxRecDepth 100000 in
theorem sg_1284 : lawW tA b W H 1284 = zW tA b (sh0 W H) (m0 W H) 1284 := Eq.trans (b := some _) rfl rfl
set_option maxRecDepth 100000 in
theorem sg_1285 : lawW tA b W H 1285 = zW tA b (sh0 W H) (m0 W H) 1285 := Eq.trans (b := some _) rfl rfl
set_option maxRecDepth 100000 in
theorem sg_1286 : lawW tA b W H 1286 = zW tA b (sh0 W H) (m0 W H) 1286 := Eq.trans (b := some _) rfl rfl
set_option maxRecDepth 100000 in
theorem sg_1287 : lawW tA b W H 1287 = zW tA b (sh0 W H) (m0 W H) 1287 := Eq.trans (b := some _) rfl rfl
set_option maxRecDepth 100000 in
theorem sg_1288 : lawW tA b W H 1288 = zW tA b (sh0 W H) (m0 W H) 1288 := Eq.trans (b := some _) rfl rfl
set_option maxRecDepth 100000 in
theorem sg_1289 : lawW tA b W H 1289 = zW tA b (sh0 W H) (m0 W H) 1289 := Eq.trans (b := some _) rfl rfl
set_option maxRecDepth 100000 in
theorem sg_1290 : lawW tA b W H 1290 = zW tA b (sh0 W H) (m0 W H) 1290 := Eq.trans (b := some _) rfl rfl
set_option maxRecDepth 100000 in
theorem sg_1291 : lawW tA b W H 1291 = zW tA b (sh0 W H) (m0 W H) 1291 := Eq.trans (b := some _) rfl rfl
set_option maxRecDepth 100000 in
theorem sg_1292 : lawW tA b W H 1292 = zW tA b (sh0 W H) (m0 W H) 1292 := Eq.trans (b := some _) rfl rfl
set_option maxRecDepth 100000 in
theorem sg_1293 : lawW tA b W H 1293 = zW tA b (sh0 W H) (m0 W H) 1293 := Eq.trans (b := some _) rfl rfl
set_option maxRecDepth 100000 in
theorem sg_1294 : lawW tA b W H 1294 = zW tA b (sh0 W H) (m0 W H) 1294 := Eq.trans (b := some _) rfl rfl
set_option maxRecDepth 100000 in
theorem sg_1295 : lawW tA b W H 1295 = zW tA b (sh0 W H) (m0 W H) 1295 := Eq.trans (b := some _) rfl rfl
set_option maxRecDepth 100000 in
theorem sg_1296 : lawW tA b W H 1296 = zW tA b (sh0 W H) (m0 W H) 1296 := Eq.trans (b := some _) rfl rfl
set_option maxRecDepth 100000 in
theorem sg_1297 : lawW tA b W H 1297 = zW tA b (sh0 W H) (m0 W H) 1297 := Eq.trans (b := some _) rfl rfl
set_option maxRecDepth 100000 in
theorem sg_1298 : lawW tA b W H 1298 = zW tA b (sh0 W H) (m0 W H) 1298 := Eq.trans (b := some _) rfl rfl
set_option maxRecDepth 100000 in
theorem sg_1299 : lawW tA b W H 1299 = zW tA b (sh0 W H) (m0 W H) 1299 := Eq.trans (b := some _) rfl rfl
set_option maxRecDepth 100000 in
theorem sg_1300 : lawW tA b W H 1300 = zW tA b (sh0 W H) (m0 W H) 1300 := Eq.trans (b := some _) rfl rfl
set_option maxRecDepth 100000 in
theorem sg_1301 : lawW tA b W H 1301 = zW tA b (sh0 W H) (m0 W H) 1301 := Eq.trans (b := some _) rfl rfl
set_option maxRecDepth 100000 in
theorem sg_1302 : lawW tA b W H 1302 = zW tA b (sh0 W H) (m0 W H) 1302 := Eq.trans (b := some _) rfl rfl
theorem sgs_g : ∀ j, j < 58 → lawW tA b W H (1245 + j) = zW tA b (sh0 W H) (m0 W H) (1245 + j) := by
  intro j hj
  match j, hj with
  | 0, _ => exact sg_1245 tA b W H
  | 1, _ => exact sg_1246 tA b W H
  | 2, _ => exact sg_1247 tA b W H
  | 3, _ => exact sg_1248 tA b W H
  | 4, _ => exact sg_1249 tA b W H
  | 5, _ => exact sg_1250 tA b W H
  | 6, _ => exact sg_1251 tA b W H
  | 7, _ => exact sg_1252 tA b W H
  | 8, _ => exact sg_1253 tA b W H
  | 9, _ => exact sg_1254 tA b W H
  | 10, _ => exact sg_1255 tA b W H
  | 11, _ => exact sg_1256 tA b W H
  | 12, _ => exact sg_1257 tA b W H
  | 13, _ => exact sg_1258 tA b W H
  | 14, _ => exact sg_1259 tA b W H
  | 15, _ => exact sg_1260 tA b W H
  | 16, _ => exact sg_1261 tA b W H
  | 17, _ => exact sg_1262 tA b W H
  | 18, _ => exact sg_1263 tA b W H
  | 19, _ => exact sg_1264 tA b W H
  | 20, _ => exact sg_1265 tA b W H
  | 21, _ => exact sg_1266 tA b W H
  | 22, _ => exact sg_1267 tA b W H
  | 23, _ => exact sg_1268 tA b W H
  | 24, _ => exact sg_1269 tA b W H
  | 25, _ => exact sg_1270 tA b W H
  | 26, _ => exact sg_1271 tA b W H
  | 27, _ => exact sg_1272 tA b W H
  | 28, _ => exact sg_1273 tA b W H
  | 29, _ => exact sg_1274 tA b W H
  | 30, _ => exact sg_1275 tA b W H
  | 31, _ => exact sg_1276 tA b W H
  | 32, _ => exact sg_1277 tA b W H
  | 33, _ => exact sg_1278 tA b W H
  | 34, _ => exact sg_1279 tA b W H
  | 35, _ => exact sg_1280 tA b W H
  | 36, _ => exact sg_1281 tA b W H
  | 37, _ => exact sg_1282 tA b W H
  | 38, _ => exact sg_1283 tA b W H
  | 39, _ => exact sg_1284 tA b W H
  | 40, _ => exact sg_1285 tA b W H
  | 41, _ => exact sg_1286 tA b W H
  | 42, _ => exact sg_1287 tA b W H
  | 43, _ => exact sg_1288 tA b W H
  | 44, _ => exact sg_1289 tA b W H
  | 45, _ => exact sg_1290 tA b W H
  | 46, _ => exact sg_1291 tA b W H
  | 47, _ => exact sg_1292 tA b W H
  | 48, _ => exact sg_1293 tA b W H
  | 49, _ => exact sg_1294 tA b W H
  | 50, _ => exact sg_1295 tA b W H
  | 51, _ => exact sg_1296 tA b W H
  | 52, _ => exact sg_1297 tA b W H
  | 53, _ => exact sg_1298 tA b W H
  | 54, _ => exact sg_1299 tA b W H
  | 55, _ => exact sg_1300 tA b W H
  | 56, _ => exact sg_1301 tA b W H
  | 57, _ => exact sg_1302 tA b W H
  | j + 58, h => exact absurd h (by omega)
end ZST0
