/-! LEVEL 3: more cases of the law -/
theorem lc_odd {X : lwX} {k : Nat} {A : ruA} (hK : lwK X) (hk : k + 6 ≤ lwL X) (hI : Inv wyW A) (next : ∀ A2, Inv wyW A2 → lwJ X 1745 (iN k) [] A2) : lwJ X 1002 (iN k) [] A := by
  obtain ⟨r, A1, A2, h1, h2, h3⟩ := op_odd hI (lwx X (k + 1)) (lwx X (k + 2)) (lwx X (k + 3)) (lwx X (k + 4))
  refine lj_obj1 hK dL_1002 ?_
  refine lj_arg (j := 1) hK hk (by decide) rfl dL_1003 dL_1004 dL_1005 dL_1006 dL_1007 ?_
  refine lj_arg (j := 2) hK hk (by decide) rfl dL_1008 dL_1009 dL_1010 dL_1011 dL_1012 ?_
  refine lj_arg (j := 3) hK hk (by decide) rfl dL_1013 dL_1014 dL_1015 dL_1016 dL_1017 ?_
  refine lj_arg (j := 4) hK hk (by decide) rfl dL_1018 dL_1019 dL_1020 dL_1021 dL_1022 ?_
  refine lj_call (M2 := mmX10_odd) (as := [.int (lwx X (k + 1)), .int (lwx X (k + 2)), .int (lwx X (k + 3)), .int (lwx X (k + 4))]) (st := []) (k := 0) hK dL_1023 rfl cvL_107 rfl (show 200 ≤ 1000 by decide) (Nat.le_of_ble_eq_true rfl) (wX10_odd 200 (by decide) (lwx X (k + 1)) (lwx X (k + 2)) (lwx X (k + 3)) (lwx X (k + 4)) A h1) ?_
  intro rr AA hq
  rw [hq.1, hq.2]
  refine lj_obj2 hK dL_1026 ?_
  refine lj_arg (j := 1) hK hk (by decide) rfl dL_1027 dL_1028 dL_1029 dL_1030 dL_1031 ?_
  refine lj_arg (j := 2) hK hk (by decide) rfl dL_1032 dL_1033 dL_1034 dL_1035 dL_1036 ?_
  refine lj_arg (j := 3) hK hk (by decide) rfl dL_1037 dL_1038 dL_1039 dL_1040 dL_1041 ?_
  refine lj_arg (j := 4) hK hk (by decide) rfl dL_1042 dL_1043 dL_1044 dL_1045 dL_1046 ?_
  refine lj_call (M2 := mmX11_odd) (as := [.int (lwx X (k + 1)), .int (lwx X (k + 2)), .int (lwx X (k + 3)), .int (lwx X (k + 4))]) (st := [.int r]) (k := 83) hK dL_1047 rfl cvL_110 rfl (show 200 ≤ 1000 by decide) (Nat.le_of_ble_eq_true rfl) (wX11_odd 200 (by decide) (lwx X (k + 1)) (lwx X (k + 2)) (lwx X (k + 3)) (lwx X (k + 4)) A1 h2) ?_
  intro rr AA hq
  rw [hq.1, hq.2]
  exact lj_cmp hK dL_1050 (by decide) (next _ h3)
theorem lc_feed {X : lwX} {k : Nat} {A : ruA} (hK : lwK X) (hk : k + 6 ≤ lwL X) (hI : Inv wyW A) (next : ∀ A2, Inv wyW A2 → lwJ X 1745 (iN k) [] A2) : lwJ X 1055 (iN k) [] A := by
  obtain ⟨r, A1, A2, h1, h2, h3⟩ := op_feed hI (lwx X (k + 1)) (lwx X (k + 2))
  refine lj_obj1 hK dL_1055 ?_
  refine lj_arg (j := 1) hK hk (by decide) rfl dL_1056 dL_1057 dL_1058 dL_1059 dL_1060 ?_
  refine lj_arg (j := 2) hK hk (by decide) rfl dL_1061 dL_1062 dL_1063 dL_1064 dL_1065 ?_
  refine lj_call (M2 := mmX10_feed) (as := [.int (lwx X (k + 1)), .int (lwx X (k + 2))]) (st := []) (k := 0) hK dL_1066 rfl cvL_111 rfl (show 200 ≤ 1000 by decide) (Nat.le_of_ble_eq_true rfl) (wX10_feed 200 (by decide) (lwx X (k + 1)) (lwx X (k + 2)) A h1) ?_
  intro rr AA hq
  rw [hq.1, hq.2]
  refine lj_obj2 hK dL_1069 ?_
  refine lj_arg (j := 1) hK hk (by decide) rfl dL_1070 dL_1071 dL_1072 dL_1073 dL_1074 ?_
  refine lj_arg (j := 2) hK hk (by decide) rfl dL_1075 dL_1076 dL_1077 dL_1078 dL_1079 ?_
  refine lj_call (M2 := mmX11_feed) (as := [.int (lwx X (k + 1)), .int (lwx X (k + 2))]) (st := [.int r]) (k := 83) hK dL_1080 rfl cvL_114 rfl (show 200 ≤ 1000 by decide) (Nat.le_of_ble_eq_true rfl) (wX11_feed 200 (by decide) (lwx X (k + 1)) (lwx X (k + 2)) A1 h2) ?_
  intro rr AA hq
  rw [hq.1, hq.2]
  exact lj_cmp hK dL_1083 (by decide) (next _ h3)
theorem lc_wipe {X : lwX} {k : Nat} {A : ruA} (hK : lwK X) (hk : k + 6 ≤ lwL X) (hI : Inv wyW A) (next : ∀ A2, Inv wyW A2 → lwJ X 1745 (iN k) [] A2) : lwJ X 1088 (iN k) [] A := by
  obtain ⟨r, A1, A2, h1, h2, h3⟩ := op_wipe hI 
  refine lj_obj1 hK dL_1088 ?_
  refine lj_call (M2 := mmX10_wipe) (as := []) (st := []) (k := 0) hK dL_1089 rfl cvL_115 rfl (show 200 ≤ 1000 by decide) (Nat.le_of_ble_eq_true rfl) (wX10_wipe 200 (by decide) A h1) ?_
  intro rr AA hq
  rw [hq.1, hq.2]
  refine lj_obj2 hK dL_1092 ?_
  refine lj_call (M2 := mmX11_wipe) (as := []) (st := [.int r]) (k := 83) hK dL_1093 rfl cvL_118 rfl (show 200 ≤ 1000 by decide) (Nat.le_of_ble_eq_true rfl) (wX11_wipe 200 (by decide) A1 h2) ?_
  intro rr AA hq
  rw [hq.1, hq.2]
  exact lj_cmp hK dL_1096 (by decide) (next _ h3)
theorem lc_way {X : lwX} {k : Nat} {A : ruA} (hK : lwK X) (hk : k + 6 ≤ lwL X) (hI : Inv wyW A) (next : ∀ A2, Inv wyW A2 → lwJ X 1745 (iN k) [] A2) : lwJ X 1101 (iN k) [] A := by
  obtain ⟨r, A1, A2, h1, h2, h3⟩ := op_way hI 
  refine lj_obj1 hK dL_1101 ?_
  refine lj_call (M2 := mmX10_way) (as := []) (st := []) (k := 0) hK dL_1102 rfl cvL_119 rfl (show 200 ≤ 1000 by decide) (Nat.le_of_ble_eq_true rfl) (wX10_way 200 (by decide) A h1) ?_
  intro rr AA hq
  rw [hq.1, hq.2]
  refine lj_obj2 hK dL_1105 ?_
  refine lj_call (M2 := mmX11_way) (as := []) (st := [.int r]) (k := 83) hK dL_1106 rfl cvL_122 rfl (show 200 ≤ 1000 by decide) (Nat.le_of_ble_eq_true rfl) (wX11_way 200 (by decide) A1 h2) ?_
  intro rr AA hq
  rw [hq.1, hq.2]
  exact lj_cmp hK dL_1109 (by decide) (next _ h3)
theorem lc_says {X : lwX} {k : Nat} {A : ruA} (hK : lwK X) (hk : k + 6 ≤ lwL X) (hI : Inv wyW A) (next : ∀ A2, Inv wyW A2 → lwJ X 1745 (iN k) [] A2) : lwJ X 1114 (iN k) [] A := by
  obtain ⟨r, A1, A2, h1, h2, h3⟩ := op_says hI (lwx X (k + 1)) (lwx X (k + 2)) (lwx X (k + 3))
  refine lj_obj1 hK dL_1114 ?_
  refine lj_arg (j := 1) hK hk (by decide) rfl dL_1115 dL_1116 dL_1117 dL_1118 dL_1119 ?_
  refine lj_arg (j := 2) hK hk (by decide) rfl dL_1120 dL_1121 dL_1122 dL_1123 dL_1124 ?_
  refine lj_arg (j := 3) hK hk (by decide) rfl dL_1125 dL_1126 dL_1127 dL_1128 dL_1129 ?_
  refine lj_call (M2 := mmX10_says) (as := [.int (lwx X (k + 1)), .int (lwx X (k + 2)), .int (lwx X (k + 3))]) (st := []) (k := 0) hK dL_1130 rfl cvL_123 rfl (show 200 ≤ 1000 by decide) (Nat.le_of_ble_eq_true rfl) (wX10_says 200 (by decide) (lwx X (k + 1)) (lwx X (k + 2)) (lwx X (k + 3)) A h1) ?_
  intro rr AA hq
  rw [hq.1, hq.2]
  refine lj_obj2 hK dL_1133 ?_
  refine lj_arg (j := 1) hK hk (by decide) rfl dL_1134 dL_1135 dL_1136 dL_1137 dL_1138 ?_
  refine lj_arg (j := 2) hK hk (by decide) rfl dL_1139 dL_1140 dL_1141 dL_1142 dL_1143 ?_
  refine lj_arg (j := 3) hK hk (by decide) rfl dL_1144 dL_1145 dL_1146 dL_1147 dL_1148 ?_
  refine lj_call (M2 := mmX11_says) (as := [.int (lwx X (k + 1)), .int (lwx X (k + 2)), .int (lwx X (k + 3))]) (st := [.int r]) (k := 83) hK dL_1149 rfl cvL_126 rfl (show 200 ≤ 1000 by decide) (Nat.le_of_ble_eq_true rfl) (wX11_says 200 (by decide) (lwx X (k + 1)) (lwx X (k + 2)) (lwx X (k + 3)) A1 h2) ?_
  intro rr AA hq
  rw [hq.1, hq.2]
  exact lj_cmp hK dL_1152 (by decide) (next _ h3)
theorem lc_judges {X : lwX} {k : Nat} {A : ruA} (hK : lwK X) (hk : k + 6 ≤ lwL X) (hI : Inv wyW A) (next : ∀ A2, Inv wyW A2 → lwJ X 1745 (iN k) [] A2) : lwJ X 1157 (iN k) [] A := by
  obtain ⟨r, A1, A2, h1, h2, h3⟩ := op_judges hI (lwx X (k + 1)) (lwx X (k + 2)) (lwx X (k + 3))
  refine lj_obj1 hK dL_1157 ?_
  refine lj_arg (j := 1) hK hk (by decide) rfl dL_1158 dL_1159 dL_1160 dL_1161 dL_1162 ?_
  refine lj_arg (j := 2) hK hk (by decide) rfl dL_1163 dL_1164 dL_1165 dL_1166 dL_1167 ?_
  refine lj_arg (j := 3) hK hk (by decide) rfl dL_1168 dL_1169 dL_1170 dL_1171 dL_1172 ?_
  refine lj_call (M2 := mmX10_judges) (as := [.int (lwx X (k + 1)), .int (lwx X (k + 2)), .int (lwx X (k + 3))]) (st := []) (k := 0) hK dL_1173 rfl cvL_127 rfl (show 200 ≤ 1000 by decide) (Nat.le_of_ble_eq_true rfl) (wX10_judges 200 (by decide) (lwx X (k + 1)) (lwx X (k + 2)) (lwx X (k + 3)) A h1) ?_
  intro rr AA hq
  rw [hq.1, hq.2]
  refine lj_obj2 hK dL_1176 ?_
  refine lj_arg (j := 1) hK hk (by decide) rfl dL_1177 dL_1178 dL_1179 dL_1180 dL_1181 ?_
  refine lj_arg (j := 2) hK hk (by decide) rfl dL_1182 dL_1183 dL_1184 dL_1185 dL_1186 ?_
  refine lj_arg (j := 3) hK hk (by decide) rfl dL_1187 dL_1188 dL_1189 dL_1190 dL_1191 ?_
  refine lj_call (M2 := mmX11_judges) (as := [.int (lwx X (k + 1)), .int (lwx X (k + 2)), .int (lwx X (k + 3))]) (st := [.int r]) (k := 83) hK dL_1192 rfl cvL_130 rfl (show 200 ≤ 1000 by decide) (Nat.le_of_ble_eq_true rfl) (wX11_judges 200 (by decide) (lwx X (k + 1)) (lwx X (k + 2)) (lwx X (k + 3)) A1 h2) ?_
  intro rr AA hq
  rw [hq.1, hq.2]
  exact lj_cmp hK dL_1195 (by decide) (next _ h3)
theorem lc_line {X : lwX} {k : Nat} {A : ruA} (hK : lwK X) (hk : k + 6 ≤ lwL X) (hI : Inv wyW A) (next : ∀ A2, Inv wyW A2 → lwJ X 1745 (iN k) [] A2) : lwJ X 1200 (iN k) [] A := by
  obtain ⟨r, A1, A2, h1, h2, h3⟩ := op_line hI (lwx X (k + 1)) (lwx X (k + 2)) (lwx X (k + 3))
  refine lj_obj1 hK dL_1200 ?_
  refine lj_arg (j := 1) hK hk (by decide) rfl dL_1201 dL_1202 dL_1203 dL_1204 dL_1205 ?_
  refine lj_arg (j := 2) hK hk (by decide) rfl dL_1206 dL_1207 dL_1208 dL_1209 dL_1210 ?_
  refine lj_arg (j := 3) hK hk (by decide) rfl dL_1211 dL_1212 dL_1213 dL_1214 dL_1215 ?_
  refine lj_call (M2 := mmX10_line) (as := [.int (lwx X (k + 1)), .int (lwx X (k + 2)), .int (lwx X (k + 3))]) (st := []) (k := 0) hK dL_1216 rfl cvL_131 rfl (show 200 ≤ 1000 by decide) (Nat.le_of_ble_eq_true rfl) (wX10_line 200 (by decide) (lwx X (k + 1)) (lwx X (k + 2)) (lwx X (k + 3)) A h1) ?_
  intro rr AA hq
  rw [hq.1, hq.2]
  refine lj_obj2 hK dL_1219 ?_
  refine lj_arg (j := 1) hK hk (by decide) rfl dL_1220 dL_1221 dL_1222 dL_1223 dL_1224 ?_
  refine lj_arg (j := 2) hK hk (by decide) rfl dL_1225 dL_1226 dL_1227 dL_1228 dL_1229 ?_
  refine lj_arg (j := 3) hK hk (by decide) rfl dL_1230 dL_1231 dL_1232 dL_1233 dL_1234 ?_
  refine lj_call (M2 := mmX11_line) (as := [.int (lwx X (k + 1)), .int (lwx X (k + 2)), .int (lwx X (k + 3))]) (st := [.int r]) (k := 83) hK dL_1235 rfl cvL_134 rfl (show 200 ≤ 1000 by decide) (Nat.le_of_ble_eq_true rfl) (wX11_line 200 (by decide) (lwx X (k + 1)) (lwx X (k + 2)) (lwx X (k + 3)) A1 h2) ?_
  intro rr AA hq
  rw [hq.1, hq.2]
  exact lj_cmp hK dL_1238 (by decide) (next _ h3)
theorem lc_holds {X : lwX} {k : Nat} {A : ruA} (hK : lwK X) (hk : k + 6 ≤ lwL X) (hI : Inv wyW A) (next : ∀ A2, Inv wyW A2 → lwJ X 1745 (iN k) [] A2) : lwJ X 1243 (iN k) [] A := by
  obtain ⟨r, A1, A2, h1, h2, h3⟩ := op_holds hI (lwx X (k + 1)) (lwx X (k + 2)) (lwx X (k + 3)) (lwx X (k + 4))
  refine lj_obj1 hK dL_1243 ?_
  refine lj_arg (j := 1) hK hk (by decide) rfl dL_1244 dL_1245 dL_1246 dL_1247 dL_1248 ?_
  refine lj_arg (j := 2) hK hk (by decide) rfl dL_1249 dL_1250 dL_1251 dL_1252 dL_1253 ?_
  refine lj_arg (j := 3) hK hk (by decide) rfl dL_1254 dL_1255 dL_1256 dL_1257 dL_1258 ?_
  refine lj_arg (j := 4) hK hk (by decide) rfl dL_1259 dL_1260 dL_1261 dL_1262 dL_1263 ?_
  refine lj_call (M2 := mmX10_holds) (as := [.int (lwx X (k + 1)), .int (lwx X (k + 2)), .int (lwx X (k + 3)), .int (lwx X (k + 4))]) (st := []) (k := 0) hK dL_1264 rfl cvL_135 rfl (show 200 ≤ 1000 by decide) (Nat.le_of_ble_eq_true rfl) (wX10_holds 200 (by decide) (lwx X (k + 1)) (lwx X (k + 2)) (lwx X (k + 3)) (lwx X (k + 4)) A h1) ?_
  intro rr AA hq
  rw [hq.1, hq.2]
  refine lj_obj2 hK dL_1267 ?_
  refine lj_arg (j := 1) hK hk (by decide) rfl dL_1268 dL_1269 dL_1270 dL_1271 dL_1272 ?_
  refine lj_arg (j := 2) hK hk (by decide) rfl dL_1273 dL_1274 dL_1275 dL_1276 dL_1277 ?_
  refine lj_arg (j := 3) hK hk (by decide) rfl dL_1278 dL_1279 dL_1280 dL_1281 dL_1282 ?_
  refine lj_arg (j := 4) hK hk (by decide) rfl dL_1283 dL_1284 dL_1285 dL_1286 dL_1287 ?_
  refine lj_call (M2 := mmX11_holds) (as := [.int (lwx X (k + 1)), .int (lwx X (k + 2)), .int (lwx X (k + 3)), .int (lwx X (k + 4))]) (st := [.int r]) (k := 83) hK dL_1288 rfl cvL_138 rfl (show 200 ≤ 1000 by decide) (Nat.le_of_ble_eq_true rfl) (wX11_holds 200 (by decide) (lwx X (k + 1)) (lwx X (k + 2)) (lwx X (k + 3)) (lwx X (k + 4)) A1 h2) ?_
  intro rr AA hq
  rw [hq.1, hq.2]
  exact lj_cmp hK dL_1291 (by decide) (next _ h3)
theorem lc_gaps {X : lwX} {k : Nat} {A : ruA} (hK : lwK X) (hk : k + 6 ≤ lwL X) (hI : Inv wyW A) (next : ∀ A2, Inv wyW A2 → lwJ X 1745 (iN k) [] A2) : lwJ X 1296 (iN k) [] A := by
  obtain ⟨r, A1, A2, h1, h2, h3⟩ := op_gaps hI (lwx X (k + 1)) (lwx X (k + 2)) (lwx X (k + 3)) (lwx X (k + 4))
  refine lj_obj1 hK dL_1296 ?_
  refine lj_arg (j := 1) hK hk (by decide) rfl dL_1297 dL_1298 dL_1299 dL_1300 dL_1301 ?_
  refine lj_arg (j := 2) hK hk (by decide) rfl dL_1302 dL_1303 dL_1304 dL_1305 dL_1306 ?_
  refine lj_arg (j := 3) hK hk (by decide) rfl dL_1307 dL_1308 dL_1309 dL_1310 dL_1311 ?_
  refine lj_arg (j := 4) hK hk (by decide) rfl dL_1312 dL_1313 dL_1314 dL_1315 dL_1316 ?_
  refine lj_call (M2 := mmX10_gaps) (as := [.int (lwx X (k + 1)), .int (lwx X (k + 2)), .int (lwx X (k + 3)), .int (lwx X (k + 4))]) (st := []) (k := 0) hK dL_1317 rfl cvL_139 rfl (show 200 ≤ 1000 by decide) (Nat.le_of_ble_eq_true rfl) (wX10_gaps 200 (by decide) (lwx X (k + 1)) (lwx X (k + 2)) (lwx X (k + 3)) (lwx X (k + 4)) A h1) ?_
  intro rr AA hq
  rw [hq.1, hq.2]
  refine lj_obj2 hK dL_1320 ?_
  refine lj_arg (j := 1) hK hk (by decide) rfl dL_1321 dL_1322 dL_1323 dL_1324 dL_1325 ?_
  refine lj_arg (j := 2) hK hk (by decide) rfl dL_1326 dL_1327 dL_1328 dL_1329 dL_1330 ?_
  refine lj_arg (j := 3) hK hk (by decide) rfl dL_1331 dL_1332 dL_1333 dL_1334 dL_1335 ?_
  refine lj_arg (j := 4) hK hk (by decide) rfl dL_1336 dL_1337 dL_1338 dL_1339 dL_1340 ?_
  refine lj_call (M2 := mmX11_gaps) (as := [.int (lwx X (k + 1)), .int (lwx X (k + 2)), .int (lwx X (k + 3)), .int (lwx X (k + 4))]) (st := [.int r]) (k := 83) hK dL_1341 rfl cvL_142 rfl (show 200 ≤ 1000 by decide) (Nat.le_of_ble_eq_true rfl) (wX11_gaps 200 (by decide) (lwx X (k + 1)) (lwx X (k + 2)) (lwx X (k + 3)) (lwx X (k + 4)) A1 h2) ?_
  intro rr AA hq
  rw [hq.1, hq.2]
  exact lj_cmp hK dL_1344 (by decide) (next _ h3)
theorem lc_could {X : lwX} {k : Nat} {A : ruA} (hK : lwK X) (hk : k + 6 ≤ lwL X) (hI : Inv wyW A) (next : ∀ A2, Inv wyW A2 → lwJ X 1745 (iN k) [] A2) : lwJ X 1349 (iN k) [] A := by
  obtain ⟨r, A1, A2, h1, h2, h3⟩ := op_could hI (lwx X (k + 1)) (lwx X (k + 2)) (lwx X (k + 3)) (lwx X (k + 4))
  refine lj_obj1 hK dL_1349 ?_
  refine lj_arg (j := 1) hK hk (by decide) rfl dL_1350 dL_1351 dL_1352 dL_1353 dL_1354 ?_
  refine lj_arg (j := 2) hK hk (by decide) rfl dL_1355 dL_1356 dL_1357 dL_1358 dL_1359 ?_
  refine lj_arg (j := 3) hK hk (by decide) rfl dL_1360 dL_1361 dL_1362 dL_1363 dL_1364 ?_
  refine lj_arg (j := 4) hK hk (by decide) rfl dL_1365 dL_1366 dL_1367 dL_1368 dL_1369 ?_
  refine lj_call (M2 := mmX10_could) (as := [.int (lwx X (k + 1)), .int (lwx X (k + 2)), .int (lwx X (k + 3)), .int (lwx X (k + 4))]) (st := []) (k := 0) hK dL_1370 rfl cvL_143 rfl (show 200 ≤ 1000 by decide) (Nat.le_of_ble_eq_true rfl) (wX10_could 200 (by decide) (lwx X (k + 1)) (lwx X (k + 2)) (lwx X (k + 3)) (lwx X (k + 4)) A h1) ?_
  intro rr AA hq
  rw [hq.1, hq.2]
  refine lj_obj2 hK dL_1373 ?_
  refine lj_arg (j := 1) hK hk (by decide) rfl dL_1374 dL_1375 dL_1376 dL_1377 dL_1378 ?_
  refine lj_arg (j := 2) hK hk (by decide) rfl dL_1379 dL_1380 dL_1381 dL_1382 dL_1383 ?_
  refine lj_arg (j := 3) hK hk (by decide) rfl dL_1384 dL_1385 dL_1386 dL_1387 dL_1388 ?_
  refine lj_arg (j := 4) hK hk (by decide) rfl dL_1389 dL_1390 dL_1391 dL_1392 dL_1393 ?_
  refine lj_call (M2 := mmX11_could) (as := [.int (lwx X (k + 1)), .int (lwx X (k + 2)), .int (lwx X (k + 3)), .int (lwx X (k + 4))]) (st := [.int r]) (k := 83) hK dL_1394 rfl cvL_146 rfl (show 200 ≤ 1000 by decide) (Nat.le_of_ble_eq_true rfl) (wX11_could 200 (by decide) (lwx X (k + 1)) (lwx X (k + 2)) (lwx X (k + 3)) (lwx X (k + 4)) A1 h2) ?_
  intro rr AA hq
  rw [hq.1, hq.2]
  exact lj_cmp hK dL_1397 (by decide) (next _ h3)
theorem lc_form {X : lwX} {k : Nat} {A : ruA} (hK : lwK X) (hk : k + 6 ≤ lwL X) (hI : Inv wyW A) (next : ∀ A2, Inv wyW A2 → lwJ X 1745 (iN k) [] A2) : lwJ X 1402 (iN k) [] A := by
  obtain ⟨r, A1, A2, h1, h2, h3⟩ := op_form hI (lwx X (k + 1)) (lwx X (k + 2))
  refine lj_obj1 hK dL_1402 ?_
  refine lj_arg (j := 1) hK hk (by decide) rfl dL_1403 dL_1404 dL_1405 dL_1406 dL_1407 ?_
  refine lj_arg (j := 2) hK hk (by decide) rfl dL_1408 dL_1409 dL_1410 dL_1411 dL_1412 ?_
  refine lj_call (M2 := mmX10_form) (as := [.int (lwx X (k + 1)), .int (lwx X (k + 2))]) (st := []) (k := 0) hK dL_1413 rfl cvL_147 rfl (show 200 ≤ 1000 by decide) (Nat.le_of_ble_eq_true rfl) (wX10_form 200 (by decide) (lwx X (k + 1)) (lwx X (k + 2)) A h1) ?_
  intro rr AA hq
  rw [hq.1, hq.2]
  refine lj_obj2 hK dL_1416 ?_
  refine lj_arg (j := 1) hK hk (by decide) rfl dL_1417 dL_1418 dL_1419 dL_1420 dL_1421 ?_
  refine lj_arg (j := 2) hK hk (by decide) rfl dL_1422 dL_1423 dL_1424 dL_1425 dL_1426 ?_
  refine lj_call (M2 := mmX11_form) (as := [.int (lwx X (k + 1)), .int (lwx X (k + 2))]) (st := [.int r]) (k := 83) hK dL_1427 rfl cvL_150 rfl (show 200 ≤ 1000 by decide) (Nat.le_of_ble_eq_true rfl) (wX11_form 200 (by decide) (lwx X (k + 1)) (lwx X (k + 2)) A1 h2) ?_
  intro rr AA hq
  rw [hq.1, hq.2]
  exact lj_cmp hK dL_1430 (by decide) (next _ h3)
