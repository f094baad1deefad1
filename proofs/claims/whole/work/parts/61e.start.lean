section ZST0
variable (tA : Nat → ClassId) (b W H : Nat)
set_option maxRecDepth 100000 in
theorem sg_1121 : lawW tA b W H 1121 = zW tA b (sh0 W H) (m0 W H) 1121 := (lw_ob tA b W H (k := 1121) (by decide)).trans (Eq.trans (b := some _) rfl rfl)
set_option maxRecDepth 100000 in
theorem sg_1122 : lawW tA b W H 1122 = zW tA b (sh0 W H) (m0 W H) 1122 := (lw_ob tA b W H (k := 1122) (by decide)).trans (Eq.trans (b := some _) rfl rfl)
set_option maxRecDepth 100000 in
theorem sg_1123 : lawW tA b W H 1123 = zW tA b (sh0 W H) (m0 W H) 1123 := (lw_ob tA b W H (k := 1123) (by decide)).trans (Eq.trans (b := some _) rfl rfl)
set_option maxRecDepth 100000 in
theorem sg_1124 : lawW tA b W H 1124 = zW tA b (sh0 W H) (m0 W H) 1124 := (lw_ob tA b W H (k := 1124) (by decide)).trans (Eq.trans (b := some _) rfl rfl)
set_option maxRecDepth 100000 in
theorem sg_1125 : lawW tA b W H 1125 = zW tA b (sh0 W H) (m0 W H) 1125 := (lw_ob tA b W H (k := 1125) (by decide)).trans (Eq.trans (b := some _) rfl rfl)
set_option maxRecDepth 100000 in
theorem sg_1127 : lawW tA b W H 1127 = zW tA b (sh0 W H) (m0 W H) 1127 := (lw_ob tA b W H (k := 1127) (by decide)).trans (Eq.trans (b := some _) rfl rfl)
set_option maxRecDepth 100000 in
theorem sg_1128 : lawW tA b W H 1128 = zW tA b (sh0 W H) (m0 W H) 1128 := (lw_ob tA b W H (k := 1128) (by decide)).trans (Eq.trans (b := some _) rfl rfl)
set_option maxRecDepth 100000 in
theorem sg_1129 : lawW tA b W H 1129 = zW tA b (sh0 W H) (m0 W H) 1129 := (lw_ob tA b W H (k := 1129) (by decide)).trans (Eq.trans (b := some _) rfl rfl)
set_option maxRecDepth 100000 in
theorem sg_1130 : lawW tA b W H 1130 = zW tA b (sh0 W H) (m0 W H) 1130 := (lw_ob tA b W H (k := 1130) (by decide)).trans (Eq.trans (b := some _) rfl rfl)
set_option maxRecDepth 100000 in
theorem sg_1131 : lawW tA b W H 1131 = zW tA b (sh0 W H) (m0 W H) 1131 := (lw_ob tA b W H (k := 1131) (by decide)).trans (Eq.trans (b := some _) rfl rfl)
set_option maxRecDepth 100000 in
theorem sg_1132 : lawW tA b W H 1132 = zW tA b (sh0 W H) (m0 W H) 1132 := (lw_ob tA b W H (k := 1132) (by decide)).trans (Eq.trans (b := some _) rfl rfl)
set_option maxRecDepth 100000 in
theorem sg_1133 : lawW tA b W H 1133 = zW tA b (sh0 W H) (m0 W H) 1133 := (lw_ob tA b W H (k := 1133) (by decide)).trans (Eq.trans (b := some _) rfl rfl)
set_option maxRecDepth 100000 in
theorem sg_1134 : lawW tA b W H 1134 = zW tA b (sh0 W H) (m0 W H) 1134 := (lw_ob tA b W H (k := 1134) (by decide)).trans (Eq.trans (b := some _) rfl rfl)
set_option maxRecDepth 100000 in
theorem sg_1135 : lawW tA b W H 1135 = zW tA b (sh0 W H) (m0 W H) 1135 := (lw_ob tA b W H (k := 1135) (by decide)).trans (Eq.trans (b := some _) rfl rfl)
set_option maxRecDepth 100000 in
theorem sg_1136 : lawW tA b W H 1136 = zW tA b (sh0 W H) (m0 W H) 1136 := (lw_ob tA b W H (k := 1136) (by decide)).trans (Eq.trans (b := some _) rfl rfl)
set_option maxRecDepth 100000 in
theorem sg_1137 : lawW tA b W H 1137 = zW tA b (sh0 W H) (m0 W H) 1137 := (lw_ob tA b W H (k := 1137) (by decide)).trans (Eq.trans (b := some _) rfl rfl)
set_option maxRecDepth 100000 in
theorem sg_1138 : lawW tA b W H 1138 = zW tA b (sh0 W H) (m0 W H) 1138 := (lw_ob tA b W H (k := 1138) (by decide)).trans (Eq.trans (b := some _) rfl rfl)
set_option maxRecDepth 100000 in
theorem sg_1139 : lawW tA b W H 1139 = zW tA b (sh0 W H) (m0 W H) 1139 := (lw_ob tA b W H (k := 1139) (by decide)).trans (Eq.trans (b := some _) rfl rfl)
set_option maxRecDepth 100000 in
theorem sg_1140 : lawW tA b W H 1140 = zW tA b (sh0 W H) (m0 W H) 1140 := (lw_ob tA b W H (k := 1140) (by decide)).trans (Eq.trans (b := some _) rfl rfl)
set_option maxRecDepth 100000 in
theorem sg_1141 : lawW tA b W H 1141 = zW tA b (sh0 W H) (m0 W H) 1141 := (lw_ob tA b W H (k := 1141) (by decide)).trans (Eq.trans (b := some _) rfl rfl)
set_option maxRecDepth 100000 in
theorem sg_1142 : lawW tA b W H 1142 = zW tA b (sh0 W H) (m0 W H) 1142 := (lw_ob tA b W H (k := 1142) (by decide)).trans (Eq.trans (b := some _) rfl rfl)
set_option maxRecDepth 100000 in
theorem sg_1143 : lawW tA b W H 1143 = zW tA b (sh0 W H) (m0 W H) 1143 := (lw_ob tA b W H (k := 1143) (by decide)).trans (Eq.trans (b := some _) rfl rfl)
set_option maxRecDepth 100000 in
theorem sg_1144 : lawW tA b W H 1144 = zW tA b (sh0 W H) (m0 W H) 1144 := (lw_ob tA b W H (k := 1144) (by decide)).trans (Eq.trans (b := some _) rfl rfl)
set_option maxRecDepth 100000 in
theorem sg_1145 : lawW tA b W H 1145 = zW tA b (sh0 W H) (m0 W H) 1145 := (lw_ob tA b W H (k := 1145) (by decide)).trans (Eq.trans (b := some _) rfl rfl)
set_option maxRecDepth 100000 in
theorem sg_1146 : lawW tA b W H 1146 = zW tA b (sh0 W H) (m0 W H) 1146 := (lw_ob tA b W H (k := 1146) (by decide)).trans (Eq.trans (b := some _) rfl rfl)
set_option maxRecDepth 100000 in
theorem sg_1147 : lawW tA b W H 1147 = zW tA b (sh0 W H) (m0 W H) 1147 := (lw_ob tA b W H (k := 1147) (by decide)).trans (Eq.trans (b := some _) rfl rfl)
set_option maxRecDepth 100000 in
theorem sg_1148 : lawW tA b W H 1148 = zW tA b (sh0 W H) (m0 W H) 1148 := (lw_ob tA b W H (k := 1148) (by decide)).trans (Eq.trans (b := some _) rfl rfl)
set_option maxRecDepth 100000 in
theorem sg_1149 : lawW tA b W H 1149 = zW tA b (sh0 W H) (m0 W H) 1149 := (lw_ob tA b W H (k := 1149) (by decide)).trans (Eq.trans (b := some _) rfl rfl)
set_option maxRecDepth 100000 in
theorem sg_1150 : lawW tA b W H 1150 = zW tA b (sh0 W H) (m0 W H) 1150 := (lw_ob tA b W H (k := 1150) (by decide)).trans (Eq.trans (b := some _) rfl rfl)
set_option maxRecDepth 100000 in
theorem sg_1151 : lawW tA b W H 1151 = zW tA b (sh0 W H) (m0 W H) 1151 := (lw_ob tA b W H (k := 1151) (by decide)).trans (Eq.trans (b := some _) rfl rfl)
set_option maxRecDepth 100000 in
theorem sg_1152 : lawW tA b W H 1152 = zW tA b (sh0 W H) (m0 W H) 1152 := (lw_ob tA b W H (k := 1152) (by decide)).trans (Eq.trans (b := some _) rfl rfl)
set_option maxRecDepth 100000 in
theorem sg_1153 : lawW tA b W H 1153 = zW tA b (sh0 W H) (m0 W H) 1153 := (lw_ob tA b W H (k := 1153) (by decide)).trans (Eq.trans (b := some _) rfl rfl)
set_option maxRecDepth 100000 in
theorem sg_1154 : lawW tA b W H 1154 = zW tA b (sh0 W H) (m0 W H) 1154 := (lw_ob tA b W H (k := 1154) (by decide)).trans (Eq.trans (b := some _) rfl rfl)
set_option maxRecDepth 100000 in
theorem sg_1155 : lawW tA b W H 1155 = zW tA b (sh0 W H) (m0 W H) 1155 := (lw_ob tA b W H (k := 1155) (by decide)).trans (Eq.trans (b := some _) rfl rfl)
set_option maxRecDepth 100000 in
theorem sg_1156 : lawW tA b W H 1156 = zW tA b (sh0 W H) (m0 W H) 1156 := (lw_ob tA b W H (k := 1156) (by decide)).trans (Eq.trans (b := some _) rfl rfl)
set_option maxRecDepth 100000 in
theorem sg_1157 : lawW tA b W H 1157 = zW tA b (sh0 W H) (m0 W H) 1157 := (lw_ob tA b W H (k := 1157) (by decide)).trans (Eq.trans (b := some _) rfl rfl)
set_option maxRecDepth 100000 in
theorem sg_1158 : lawW tA b W H 1158 = zW tA b (sh0 W H) (m0 W H) 1158 := (lw_ob tA b W H (k := 1158) (by decide)).trans (Eq.trans (b := some _) rfl rfl)
set_option maxRecDepth 100000 in
theorem sg_1159 : lawW tA b W H 1159 = zW tA b (sh0 W H) (m0 W H) 1159 := (lw_ob tA b W H (k := 1159) (by decide)).trans (Eq.trans (b := some _) rfl rfl)
set_option maxRecDepth 100000 in
theorem sg_1160 : lawW tA b W H 1160 = zW tA b (sh0 W H) (m0 W H) 1160 := (lw_ob tA b W H (k := 1160) (by decide)).trans (Eq.trans (b := some _) rfl rfl)
set_option maxRecDepth 100000 in
theorem sg_1161 : lawW tA b W H 1161 = zW tA b (sh0 W H) (m0 W H) 1161 := (lw_ob tA b W H (k := 1161) (by decide)).trans (Eq.trans (b := some _) rfl rfl)
set_option maxRecDepth 100000 in
theorem sg_1162 : lawW tA b W H 1162 = zW tA b (sh0 W H) (m0 W H) 1162 := (lw_ob tA b W H (k := 1162) (by decide)).trans (Eq.trans (b := some _) rfl rfl)
set_option maxRecDepth 100000 in
theorem sg_1163 : lawW tA b W H 1163 = zW tA b (sh0 W H) (m0 W H) 1163 := (lw_ob tA b W H (k := 1163) (by decide)).trans (Eq.trans (b := some _) rfl rfl)
set_option maxRecDepth 100000 in
theorem sg_1164 : lawW tA b W H 1164 = zW tA b (sh0 W H) (m0 W H) 1164 := (lw_ob tA b W H (k := 1164) (by decide)).trans (Eq.trans (b := some _) rfl rfl)
set_option maxRecDepth 100000 in
theorem sg_1165 : lawW tA b W H 1165 = zW tA b (sh0 W H) (m0 W H) 1165 := (lw_ob tA b W H (k := 1165) (by decide)).trans (Eq.trans (b := some _) rfl rfl)
set_option maxRecDepth 100000 in
theorem sg_1166 : lawW tA b W H 1166 = zW tA b (sh0 W H) (m0 W H) 1166 := (lw_ob tA b W H (k := 1166) (by decide)).trans (Eq.trans (b := some _) rfl rfl)
set_option maxRecDepth 100000 in
theorem sg_1167 : lawW tA b W H 1167 = zW tA b (sh0 W H) (m0 W H) 1167 := (lw_ob tA b W H (k := 1167) (by decide)).trans (Eq.trans (b := some _) rfl rfl)
set_option maxRecDepth 100000 in
theorem sg_1168 : lawW tA b W H 1168 = zW tA b (sh0 W H) (m0 W H) 1168 := (lw_ob tA b W H (k := 1168) (by decide)).trans (Eq.trans (b := some _) rfl rfl)
set_option maxRecDepth 100000 in
theorem sg_1169 : lawW tA b W H 1169 = zW tA b (sh0 W H) (m0 W H) 1169 := (lw_ob tA b W H (k := 1169) (by decide)).trans (Eq.trans (b := some _) rfl rfl)
set_option maxRecDepth 100000 in
theorem sg_1170 : lawW tA b W H 1170 = zW tA b (sh0 W H) (m0 W H) 1170 := (lw_ob tA b W H (k := 1170) (by decide)).trans (Eq.trans (b := some _) rfl rfl)
set_option maxRecDepth 100000 in
theorem sg_1171 : lawW tA b W H 1171 = zW tA b (sh0 W H) (m0 W H) 1171 := (lw_ob tA b W H (k := 1171) (by decide)).trans (Eq.trans (b := some _) rfl rfl)
set_option maxRecDepth 100000 in
theorem sg_1172 : lawW tA b W H 1172 = zW tA b (sh0 W H) (m0 W H) 1172 := (lw_ob tA b W H (k := 1172) (by decide)).trans (Eq.trans (b := some _) rfl rfl)
set_option maxRecDepth 100000 in
theorem sg_1173 : lawW tA b W H 1173 = zW tA b (sh0 W H) (m0 W H) 1173 := (lw_ob tA b W H (k := 1173) (by decide)).trans (Eq.trans (b := some _) rfl rfl)
set_option maxRecDepth 100000 in
theorem sg_1174 : lawW tA b W H 1174 = zW tA b (sh0 W H) (m0 W H) 1174 := (lw_ob tA b W H (k := 1174) (by decide)).trans (Eq.trans (b := some _) rfl rfl)
set_option maxRecDepth 100000 in
theorem sg_1175 : lawW tA b W H 1175 = zW tA b (sh0 W H) (m0 W H) 1175 := (lw_ob tA b W H (k := 1175) (by decide)).trans (Eq.trans (b := some _) rfl rfl)
set_option maxRecDepth 100000 in
theorem sg_1176 : lawW tA b W H 1176 = zW tA b (sh0 W H) (m0 W H) 1176 := (lw_ob tA b W H (k := 1176) (by decide)).trans (Eq.trans (b := some _) rfl rfl)
set_option maxRecDepth 100000 in
theorem sg_1177 : lawW tA b W H 1177 = zW tA b (sh0 W H) (m0 W H) 1177 := (lw_ob tA b W H (k := 1177) (by decide)).trans (Eq.trans (b := some _) rfl rfl)
set_option maxRecDepth 100000 in
theorem sg_1178 : lawW tA b W H 1178 = zW tA b (sh0 W H) (m0 W H) 1178 := (lw_ob tA b W H (k := 1178) (by decide)).trans (Eq.trans (b := some _) rfl rfl)
set_option maxRecDepth 100000 in
theorem sg_1179 : lawW tA b W H 1179 = zW tA b (sh0 W H) (m0 W H) 1179 := (lw_ob tA b W H (k := 1179) (by decide)).trans (Eq.trans (b := some _) rfl rfl)
set_option maxRecDepth 100000 in
theorem sg_1180 : lawW tA b W H 1180 = zW tA b (sh0 W H) (m0 W H) 1180 := (lw_ob tA b W H (k := 1180) (by decide)).trans (Eq.trans (b := some _) rfl rfl)
set_option maxRecDepth 100000 in
theorem sg_1181 : lawW tA b W H 1181 = zW tA b (sh0 W H) (m0 W H) 1181 := (lw_ob tA b W H (k := 1181) (by decide)).trans (Eq.trans (b := some _) rfl rfl)
set_option maxRecDepth 100000 in
theorem sg_1182 : lawW tA b W H 1182 = zW tA b (sh0 W H) (m0 W H) 1182 := (lw_ob tA b W H (k := 1182) (by decide)).trans (Eq.trans (b := some _) rfl rfl)
set_option maxRecDepth 100000 in
theorem sg_1183 : lawW tA b W H 1183 = zW tA b (sh0 W H) (m0 W H) 1183 := (lw_ob tA b W H (k := 1183) (by decide)).trans (Eq.trans (b := some _) rfl rfl)
set_option maxRecDepth 100000 in
theorem sg_1184 : lawW tA b W H 1184 = zW tA b (sh0 W H) (m0 W H) 1184 := (lw_ob tA b W H (k := 1184) (by decide)).trans (Eq.trans (b := some _) rfl rfl)
theorem sgs_e : ∀ j, j < 64 → lawW tA b W H (1121 + j) = zW tA b (sh0 W H) (m0 W H) (1121 + j) := by
  intro j hj
  match j, hj with
  | 0, _ => exact sg_1121 tA b W H
  | 1, _ => exact sg_1122 tA b W H
  | 2, _ => exact sg_1123 tA b W H
  | 3, _ => exact sg_1124 tA b W H
  | 4, _ => exact sg_1125 tA b W H
  | 5, _ => exact st_1126 tA b W H
  | 6, _ => exact sg_1127 tA b W H
  | 7, _ => exact sg_1128 tA b W H
  | 8, _ => exact sg_1129 tA b W H
  | 9, _ => exact sg_1130 tA b W H
  | 10, _ => exact sg_1131 tA b W H
  | 11, _ => exact sg_1132 tA b W H
  | 12, _ => exact sg_1133 tA b W H
  | 13, _ => exact sg_1134 tA b W H
  | 14, _ => exact sg_1135 tA b W H
  | 15, _ => exact sg_1136 tA b W H
  | 16, _ => exact sg_1137 tA b W H
  | 17, _ => exact sg_1138 tA b W H
  | 18, _ => exact sg_1139 tA b W H
  | 19, _ => exact sg_1140 tA b W H
  | 20, _ => exact sg_1141 tA b W H
  | 21, _ => exact sg_1142 tA b W H
  | 22, _ => exact sg_1143 tA b W H
  | 23, _ => exact sg_1144 tA b W H
  | 24, _ => exact sg_1145 tA b W H
  | 25, _ => exact sg_1146 tA b W H
  | 26, _ => exact sg_1147 tA b W H
  | 27, _ => exact sg_1148 tA b W H
  | 28, _ => exact sg_1149 tA b W H
  | 29, _ => exact sg_1150 tA b W H
  | 30, _ => exact sg_1151 tA b W H
  | 31, _ => exact sg_1152 tA b W H
  | 32, _ => exact sg_1153 tA b W H
  | 33, _ => exact sg_1154 tA b W H
  | 34, _ => exact sg_1155 tA b W H
  | 35, _ => exact sg_1156 tA b W H
  | 36, _ => exact sg_1157 tA b W H
  | 37, _ => exact sg_1158 tA b W H
  | 38, _ => exact sg_1159 tA b W H
  | 39, _ => exact sg_1160 tA b W H
  | 40, _ => exact sg_1161 tA b W H
  | 41, _ => exact sg_1162 tA b W H
  | 42, _ => exact sg_1163 tA b W H
  | 43, _ => exact sg_1164 tA b W H
  | 44, _ => exact sg_1165 tA b W H
  | 45, _ => exact sg_1166 tA b W H
  | 46, _ => exact sg_1167 tA b W H
  | 47, _ => exact sg_1168 tA b W H
  | 48, _ => exact sg_1169 tA b W H
  | 49, _ => exact sg_1170 tA b W H
  | 50, _ => exact sg_1171 tA b W H
  | 51, _ => exact sg_1172 tA b W H
  | 52, _ => exact sg_1173 tA b W H
  | 53, _ => exact sg_1174 tA b W H
  | 54, _ => exact sg_1175 tA b W H
  | 55, _ => exact sg_1176 tA b W H
  | 56, _ => exact sg_1177 tA b W H
  | 57, _ => exact sg_1178 tA b W H
  | 58, _ => exact sg_1179 tA b W H
  | 59, _ => exact sg_1180 tA b W H
  | 60, _ => exact sg_1181 tA b W H
  | 61, _ => exact sg_1182 tA b W H
  | 62, _ => exact sg_1183 tA b W H
  | 63, _ => exact sg_1184 tA b W H
  | j + 64, h => exact absurd h (by omega)
end ZST0
