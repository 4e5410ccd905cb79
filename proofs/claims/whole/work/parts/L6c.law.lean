/-! the law's cases -/
section LCS
variable {X : EN} {D : va_G} {dT : Nat → ClassId} {ad : Nat → Nat} {b m0 o o2 L : Nat} {xs : Nat → Int32} {Z : ZT} {I M : Nat → Nat → Int32} {S : SZ} {g : Nat → Int64} {g2 : Nat → UInt64} {ad8 : Nat → Nat}
set_option maxRecDepth 100000 in
set_option maxHeartbeats 4000000 in
theorem lc_isMusic (hX : CX X D (tyL dT) cL_law RL wsL_law room_1 9) (hL : XLX X Z) (hs : XSX X b L xs) {i : Nat} (hi : i + 5 ≤ L) (hL2 : L ≤ 2560) {ce sl : Nat} (hce : ce + 862 ≤ 603072) (hsl : sl + 5100 ≤ 7198825) (hN : NX X D dT Z ad b m0 o o2 (nI i) 2327 (ce + 862) (sl + 5100)) (hr : REL I M S) (h8 : ad8 0 = m0) (h9 : ad8 99999 = Z.1) : GW X D (LW dT ad I o g o2 g2 ad8 M S) (lvW b (ad 0) m0 o o2 (nI i)) ce sl 1073 [] := by
  obtain ⟨fa, la, pa, hn, ha⟩ := hr.2.2.1
  refine g_aload_n hX 4 rfl dL_law_1073 rfl ?_
  refine l_arg (k := 1) hX hs 5 0 (by omega) hL2 rfl rfl rfl dL_law_1074 dL_law_1075 dL_law_1077 dL_law_1078 dL_law_1079 ?_
  refine g_aload_n hX 2 rfl dL_law_1080 rfl ?_
  refine gw_w LW_J ?_
  refine l_callS hX hL [.ref (ad 0), .int (xs (i + 1)), .ref o] (k_L_isMusic I S.2.1 hn.1 hn.2.1 fa (fun n q => ⟨(hn.2.2.1 n q).1.1, by have := hn.2.2.1 n q; omega⟩) (xs (i + 1))) gL_law_L_isMusic rfl rfl rfl hd_L_isMusic ⟨Nat.le_of_ble_eq_true rfl, Nat.le_of_ble_eq_true rfl⟩ ⟨by show _ ≤ 603072; omega, by show _ ≤ 7198825; omega⟩ rfl (Nat.le_of_ble_eq_true rfl) dL_law_1081 (fun r w hw => ?_)
  obtain ⟨J, g9, rfl, rfl, hR, hJ⟩ := hw
  refine gw_w LW_J.symm ?_
  refine g_istore hX ((6, .int (nI (kr1 I (xs (i + 1))))) :: lvW b (ad 0) m0 o o2 (nI i)) rfl dL_law_1084 (Nat.le_of_ble_eq_true rfl) ?_
  refine g_aload_n hX 4 rfl dL_law_1086 rfl ?_
  refine l_arg (k := 1) hX hs 6 1 (by omega) hL2 rfl rfl rfl dL_law_1087 dL_law_1088 dL_law_1090 dL_law_1091 dL_law_1092 ?_
  refine l_callMI hX hL h8 [.int (xs (i + 1))] (k_X8_isMusic M S hr.1.1 hr.1.2.1 hr.1.2.2.1 hr.1.2.2.2 h9 (xs (i + 1))) gL_law_X8_isMusic rfl rfl rfl hd_X8_isMusic ⟨Nat.le_of_ble_eq_true rfl, Nat.le_of_ble_eq_true rfl⟩ ⟨by show _ ≤ 603072; omega, by show _ ≤ 7198825; omega⟩ rfl (Nat.le_of_ble_eq_true rfl) dL_law_1093 (fun r u hu => ?_)
  obtain ⟨⟨ad2, hA, rfl⟩, rfl⟩ := hu
  refine ⟨_, _, _, rfl, ?_⟩
  exact l_tailB hX hL hN (by omega) (by omega) hce hsl ((hA 0 (Or.inl (m_lo (by decide))) (by decide) (Or.inl (by decide))).trans h8) (AGm_z hA h9) (n0 (by unfold kr1; (repeat' split) <;> decide)) (st_isMusic hr hn (xs (i + 1)) ⟨hR, hJ⟩) dL_law_1096 dL_law_1098 dL_law_1099 dL_law_1102 dL_law_1104 dL_law_1109 dL_law_1111 dL_law_1114 dL_law_1115 dL_law_1116 dL_law_1117 dL_law_1119 dL_law_1122 dL_law_1123 dL_law_1126 dL_law_1127 dL_law_1128 dL_law_1133 (by decide)
set_option maxRecDepth 100000 in
set_option maxHeartbeats 4000000 in
theorem lc_valve (hX : CX X D (tyL dT) cL_law RL wsL_law room_1 9) (hL : XLX X Z) (hs : XSX X b L xs) {i : Nat} (hi : i + 5 ≤ L) (hL2 : L ≤ 2560) {ce sl : Nat} (hce : ce + 862 ≤ 603072) (hsl : sl + 5100 ≤ 7198825) (hN : NX X D dT Z ad b m0 o o2 (nI i) 2327 (ce + 862) (sl + 5100)) (hr : REL I M S) (h8 : ad8 0 = m0) (h9 : ad8 99999 = Z.1) : GW X D (LW dT ad I o g o2 g2 ad8 M S) (lvW b (ad 0) m0 o o2 (nI i)) ce sl 1136 [] := by
  refine g_aload_n hX 4 rfl dL_law_1136 rfl ?_
  refine l_arg (k := 1) hX hs 5 0 (by omega) hL2 rfl rfl rfl dL_law_1137 dL_law_1138 dL_law_1140 dL_law_1141 dL_law_1142 ?_
  refine l_arg (k := 2) hX hs 5 0 (by omega) hL2 rfl rfl rfl dL_law_1143 dL_law_1144 dL_law_1146 dL_law_1147 dL_law_1148 ?_
  refine l_arg (k := 3) hX hs 5 0 (by omega) hL2 rfl rfl rfl dL_law_1149 dL_law_1150 dL_law_1152 dL_law_1153 dL_law_1154 ?_
  refine g_aload_n hX 2 rfl dL_law_1155 rfl ?_
  refine gw_w LW_J ?_
  refine l_callS hX hL [.ref (ad 0), .int (xs (i + 1)), .int (xs (i + 2)), .int (xs (i + 3)), .ref o] (k_L_valve I (xs (i + 1)) (xs (i + 2)) (xs (i + 3))) gL_law_L_valve rfl rfl rfl hd_L_valve ⟨Nat.le_of_ble_eq_true rfl, Nat.le_of_ble_eq_true rfl⟩ ⟨by show _ ≤ 603072; omega, by show _ ≤ 7198825; omega⟩ rfl (Nat.le_of_ble_eq_true rfl) dL_law_1156 (fun r w hw => ?_)
  obtain ⟨J, g9, rfl, rfl, hR, hJ⟩ := hw
  refine gw_w LW_J.symm ?_
  refine g_istore hX ((6, .int (nI (kva (xs (i + 1)) (xs (i + 2)) (xs (i + 3))))) :: lvW b (ad 0) m0 o o2 (nI i)) rfl dL_law_1159 (Nat.le_of_ble_eq_true rfl) ?_
  refine g_aload_n hX 4 rfl dL_law_1161 rfl ?_
  refine l_arg (k := 1) hX hs 6 1 (by omega) hL2 rfl rfl rfl dL_law_1162 dL_law_1163 dL_law_1165 dL_law_1166 dL_law_1167 ?_
  refine l_arg (k := 2) hX hs 6 1 (by omega) hL2 rfl rfl rfl dL_law_1168 dL_law_1169 dL_law_1171 dL_law_1172 dL_law_1173 ?_
  refine l_arg (k := 3) hX hs 6 1 (by omega) hL2 rfl rfl rfl dL_law_1174 dL_law_1175 dL_law_1177 dL_law_1178 dL_law_1179 ?_
  refine l_callMI hX hL h8 [.int (xs (i + 1)), .int (xs (i + 2)), .int (xs (i + 3))] (k_X8_valve M S hr.1.1 hr.1.2.1 hr.1.2.2.1 hr.1.2.2.2 (xs (i + 1)) (xs (i + 2)) (xs (i + 3))) gL_law_X8_valve rfl rfl rfl hd_X8_valve ⟨Nat.le_of_ble_eq_true rfl, Nat.le_of_ble_eq_true rfl⟩ ⟨by show _ ≤ 603072; omega, by show _ ≤ 7198825; omega⟩ rfl (Nat.le_of_ble_eq_true rfl) dL_law_1180 (fun r u hu => ?_)
  obtain ⟨rfl, rfl⟩ := hu
  refine ⟨_, _, _, rfl, ?_⟩
  exact l_tailI hX hL hN (by omega) (by omega) hce hsl h8 h9 (n0 (by unfold kva; (repeat' split) <;> decide)) (st_valve hr (xs (i + 1)) (xs (i + 2)) (xs (i + 3)) ⟨hR, hJ⟩) dL_law_1183 dL_law_1185 dL_law_1186 dL_law_1189 dL_law_1191 dL_law_1196 dL_law_1198 dL_law_1201 dL_law_1202 dL_law_1203 dL_law_1204 dL_law_1206 dL_law_1207 dL_law_1208 dL_law_1213 (by decide)
set_option maxRecDepth 100000 in
set_option maxHeartbeats 4000000 in
theorem lc_use (hX : CX X D (tyL dT) cL_law RL wsL_law room_1 9) (hL : XLX X Z) (hs : XSX X b L xs) {i : Nat} (hi : i + 5 ≤ L) (hL2 : L ≤ 2560) {ce sl : Nat} (hce : ce + 862 ≤ 603072) (hsl : sl + 5100 ≤ 7198825) (hN : NX X D dT Z ad b m0 o o2 (nI i) 2327 (ce + 862) (sl + 5100)) (hr : REL I M S) (h8 : ad8 0 = m0) (h9 : ad8 99999 = Z.1) : GW X D (LW dT ad I o g o2 g2 ad8 M S) (lvW b (ad 0) m0 o o2 (nI i)) ce sl 1216 [] := by
  refine g_aload_n hX 4 rfl dL_law_1216 rfl ?_
  refine l_arg (k := 1) hX hs 5 0 (by omega) hL2 rfl rfl rfl dL_law_1217 dL_law_1218 dL_law_1220 dL_law_1221 dL_law_1222 ?_
  refine l_arg (k := 2) hX hs 5 0 (by omega) hL2 rfl rfl rfl dL_law_1223 dL_law_1224 dL_law_1226 dL_law_1227 dL_law_1228 ?_
  refine g_aload_n hX 2 rfl dL_law_1229 rfl ?_
  refine gw_w LW_J ?_
  refine l_callS hX hL [.ref (ad 0), .int (xs (i + 1)), .int (xs (i + 2)), .ref o] (k_L_use I (xs (i + 1)) (xs (i + 2))) gL_law_L_use rfl rfl rfl hd_L_use ⟨Nat.le_of_ble_eq_true rfl, Nat.le_of_ble_eq_true rfl⟩ ⟨by show _ ≤ 603072; omega, by show _ ≤ 7198825; omega⟩ rfl (Nat.le_of_ble_eq_true rfl) dL_law_1230 (fun r w hw => ?_)
  obtain ⟨J, g9, rfl, rfl, hR, hJ⟩ := hw
  refine gw_w LW_J.symm ?_
  refine g_istore hX ((6, .int (nI (kus (xs (i + 1)) (xs (i + 2))))) :: lvW b (ad 0) m0 o o2 (nI i)) rfl dL_law_1233 (Nat.le_of_ble_eq_true rfl) ?_
  refine g_aload_n hX 4 rfl dL_law_1235 rfl ?_
  refine l_arg (k := 1) hX hs 6 1 (by omega) hL2 rfl rfl rfl dL_law_1236 dL_law_1237 dL_law_1239 dL_law_1240 dL_law_1241 ?_
  refine l_arg (k := 2) hX hs 6 1 (by omega) hL2 rfl rfl rfl dL_law_1242 dL_law_1243 dL_law_1245 dL_law_1246 dL_law_1247 ?_
  refine l_callMI hX hL h8 [.int (xs (i + 1)), .int (xs (i + 2))] (k_X8_use M S hr.1.1 hr.1.2.1 hr.1.2.2.1 hr.1.2.2.2 (xs (i + 1)) (xs (i + 2))) gL_law_X8_use rfl rfl rfl hd_X8_use ⟨Nat.le_of_ble_eq_true rfl, Nat.le_of_ble_eq_true rfl⟩ ⟨by show _ ≤ 603072; omega, by show _ ≤ 7198825; omega⟩ rfl (Nat.le_of_ble_eq_true rfl) dL_law_1248 (fun r u hu => ?_)
  obtain ⟨rfl, rfl⟩ := hu
  refine ⟨_, _, _, rfl, ?_⟩
  exact l_tailI hX hL hN (by omega) (by omega) hce hsl h8 h9 (n0 (by unfold kus; (repeat' split) <;> decide)) (st_use hr (xs (i + 1)) (xs (i + 2)) ⟨hR, hJ⟩) dL_law_1251 dL_law_1253 dL_law_1254 dL_law_1257 dL_law_1259 dL_law_1264 dL_law_1266 dL_law_1269 dL_law_1270 dL_law_1271 dL_law_1272 dL_law_1274 dL_law_1275 dL_law_1276 dL_law_1281 (by decide)
set_option maxRecDepth 100000 in
set_option maxHeartbeats 4000000 in
theorem lc_borrow (hX : CX X D (tyL dT) cL_law RL wsL_law room_1 9) (hL : XLX X Z) (hs : XSX X b L xs) {i : Nat} (hi : i + 5 ≤ L) (hL2 : L ≤ 2560) {ce sl : Nat} (hce : ce + 862 ≤ 603072) (hsl : sl + 5100 ≤ 7198825) (hN : NX X D dT Z ad b m0 o o2 (nI i) 2327 (ce + 862) (sl + 5100)) (hr : REL I M S) (h8 : ad8 0 = m0) (h9 : ad8 99999 = Z.1) : GW X D (LW dT ad I o g o2 g2 ad8 M S) (lvW b (ad 0) m0 o o2 (nI i)) ce sl 1284 [] := by
  refine g_aload_n hX 4 rfl dL_law_1284 rfl ?_
  refine l_arg (k := 1) hX hs 5 0 (by omega) hL2 rfl rfl rfl dL_law_1285 dL_law_1286 dL_law_1288 dL_law_1289 dL_law_1290 ?_
  refine l_arg (k := 2) hX hs 5 0 (by omega) hL2 rfl rfl rfl dL_law_1291 dL_law_1292 dL_law_1294 dL_law_1295 dL_law_1296 ?_
  refine g_aload_n hX 2 rfl dL_law_1297 rfl ?_
  refine gw_w LW_J ?_
  refine l_callS hX hL [.ref (ad 0), .int (xs (i + 1)), .int (xs (i + 2)), .ref o] (k_L_borrow I (xs (i + 1)) (xs (i + 2))) gL_law_L_borrow rfl rfl rfl hd_L_borrow ⟨Nat.le_of_ble_eq_true rfl, Nat.le_of_ble_eq_true rfl⟩ ⟨by show _ ≤ 603072; omega, by show _ ≤ 7198825; omega⟩ rfl (Nat.le_of_ble_eq_true rfl) dL_law_1298 (fun r w hw => ?_)
  obtain ⟨J, g9, rfl, rfl, hR, hJ⟩ := hw
  refine gw_w LW_J.symm ?_
  refine g_istore hX ((6, .int (nI (kbo I (xs (i + 1)) (xs (i + 2))))) :: lvW b (ad 0) m0 o o2 (nI i)) rfl dL_law_1301 (Nat.le_of_ble_eq_true rfl) ?_
  refine g_aload_n hX 4 rfl dL_law_1303 rfl ?_
  refine l_arg (k := 1) hX hs 6 1 (by omega) hL2 rfl rfl rfl dL_law_1304 dL_law_1305 dL_law_1307 dL_law_1308 dL_law_1309 ?_
  refine l_arg (k := 2) hX hs 6 1 (by omega) hL2 rfl rfl rfl dL_law_1310 dL_law_1311 dL_law_1313 dL_law_1314 dL_law_1315 ?_
  refine l_callMI hX hL h8 [.int (xs (i + 1)), .int (xs (i + 2))] (k_X8_borrow M S hr.1.1 hr.1.2.1 hr.1.2.2.1 hr.1.2.2.2 (xs (i + 1)) (xs (i + 2))) gL_law_X8_borrow rfl rfl rfl hd_X8_borrow ⟨Nat.le_of_ble_eq_true rfl, Nat.le_of_ble_eq_true rfl⟩ ⟨by show _ ≤ 603072; omega, by show _ ≤ 7198825; omega⟩ rfl (Nat.le_of_ble_eq_true rfl) dL_law_1316 (fun r u hu => ?_)
  obtain ⟨rfl, rfl⟩ := hu
  refine ⟨_, _, _, rfl, ?_⟩
  exact l_tailI hX hL hN (by omega) (by omega) hce hsl h8 h9 (n0 (by unfold kbo; (repeat' split) <;> decide)) (st_borrow hr (xs (i + 1)) (xs (i + 2)) ⟨hR, hJ⟩) dL_law_1319 dL_law_1321 dL_law_1322 dL_law_1325 dL_law_1327 dL_law_1332 dL_law_1334 dL_law_1337 dL_law_1338 dL_law_1339 dL_law_1340 dL_law_1342 dL_law_1343 dL_law_1344 dL_law_1349 (by decide)
set_option maxRecDepth 100000 in
set_option maxHeartbeats 4000000 in
theorem lc_set (hX : CX X D (tyL dT) cL_law RL wsL_law room_1 9) (hL : XLX X Z) (hs : XSX X b L xs) {i : Nat} (hi : i + 5 ≤ L) (hL2 : L ≤ 2560) {ce sl : Nat} (hce : ce + 862 ≤ 603072) (hsl : sl + 5100 ≤ 7198825) (hN : NX X D dT Z ad b m0 o o2 (nI i) 2327 (ce + 862) (sl + 5100)) (hr : REL I M S) (h8 : ad8 0 = m0) (h9 : ad8 99999 = Z.1) : GW X D (LW dT ad I o g o2 g2 ad8 M S) (lvW b (ad 0) m0 o o2 (nI i)) ce sl 1352 [] := by
  refine g_aload_n hX 4 rfl dL_law_1352 rfl ?_
  refine l_arg (k := 1) hX hs 5 0 (by omega) hL2 rfl rfl rfl dL_law_1353 dL_law_1354 dL_law_1356 dL_law_1357 dL_law_1358 ?_
  refine g_i2c hX dL_law_1359 ?_
  refine l_arg (k := 2) hX hs 5 0 (by omega) hL2 rfl rfl rfl dL_law_1360 dL_law_1361 dL_law_1363 dL_law_1364 dL_law_1365 ?_
  refine g_aload_n hX 2 rfl dL_law_1366 rfl ?_
  refine gw_w LW_J ?_
  refine l_callS hX hL [.ref (ad 0), .int (ch (xs (i + 1))), .int (xs (i + 2)), .ref o] (k_L_set I (ch (xs (i + 1))) (xs (i + 2))) gL_law_L_set rfl rfl rfl hd_L_set ⟨Nat.le_of_ble_eq_true rfl, Nat.le_of_ble_eq_true rfl⟩ ⟨by show _ ≤ 603072; omega, by show _ ≤ 7198825; omega⟩ rfl (Nat.le_of_ble_eq_true rfl) dL_law_1367 (fun r w hw => ?_)
  obtain ⟨J, g9, rfl, rfl, hR, hJ⟩ := hw
  refine gw_w LW_J.symm ?_
  refine g_istore hX ((6, .int (nI (kse (ch (xs (i + 1))) (xs (i + 2))))) :: lvW b (ad 0) m0 o o2 (nI i)) rfl dL_law_1370 (Nat.le_of_ble_eq_true rfl) ?_
  refine g_aload_n hX 4 rfl dL_law_1372 rfl ?_
  refine l_arg (k := 1) hX hs 6 1 (by omega) hL2 rfl rfl rfl dL_law_1373 dL_law_1374 dL_law_1376 dL_law_1377 dL_law_1378 ?_
  refine g_i2c hX dL_law_1379 ?_
  refine l_arg (k := 2) hX hs 6 1 (by omega) hL2 rfl rfl rfl dL_law_1380 dL_law_1381 dL_law_1383 dL_law_1384 dL_law_1385 ?_
  refine l_callMI hX hL h8 [.int (ch (xs (i + 1))), .int (xs (i + 2))] (k_X8_set M S hr.1.1 hr.1.2.1 hr.1.2.2.1 hr.1.2.2.2 (ch (xs (i + 1))) (xs (i + 2))) gL_law_X8_set rfl rfl rfl hd_X8_set ⟨Nat.le_of_ble_eq_true rfl, Nat.le_of_ble_eq_true rfl⟩ ⟨by show _ ≤ 603072; omega, by show _ ≤ 7198825; omega⟩ rfl (Nat.le_of_ble_eq_true rfl) dL_law_1386 (fun r u hu => ?_)
  obtain ⟨⟨ad2, hA, rfl⟩, rfl⟩ := hu
  refine ⟨_, _, _, rfl, ?_⟩
  exact l_tailI hX hL hN (by omega) (by omega) hce hsl ((hA 0 (Or.inl (m_lo (by decide))) (by decide) (Or.inl (by decide))).trans h8) (AGm_z hA h9) (n0 (by unfold kse; (repeat' split) <;> decide)) (st_set hr (ch (xs (i + 1))) (xs (i + 2)) ⟨hR, hJ⟩) dL_law_1389 dL_law_1391 dL_law_1392 dL_law_1395 dL_law_1397 dL_law_1402 dL_law_1404 dL_law_1407 dL_law_1408 dL_law_1409 dL_law_1410 dL_law_1412 dL_law_1413 dL_law_1414 dL_law_1419 (by decide)
set_option maxRecDepth 100000 in
set_option maxHeartbeats 4000000 in
theorem lc_maker (hX : CX X D (tyL dT) cL_law RL wsL_law room_1 9) (hL : XLX X Z) (hs : XSX X b L xs) {i : Nat} (hi : i + 5 ≤ L) (hL2 : L ≤ 2560) {ce sl : Nat} (hce : ce + 862 ≤ 603072) (hsl : sl + 5100 ≤ 7198825) (hN : NX X D dT Z ad b m0 o o2 (nI i) 2327 (ce + 862) (sl + 5100)) (hr : REL I M S) (h8 : ad8 0 = m0) (h9 : ad8 99999 = Z.1) : GW X D (LW dT ad I o g o2 g2 ad8 M S) (lvW b (ad 0) m0 o o2 (nI i)) ce sl 1422 [] := by
  refine g_aload_n hX 4 rfl dL_law_1422 rfl ?_
  refine l_arg (k := 1) hX hs 5 0 (by omega) hL2 rfl rfl rfl dL_law_1423 dL_law_1424 dL_law_1426 dL_law_1427 dL_law_1428 ?_
  refine g_i2c hX dL_law_1429 ?_
  refine g_aload_n hX 2 rfl dL_law_1430 rfl ?_
  refine gw_w LW_J ?_
  refine l_callS hX hL [.ref (ad 0), .int (ch (xs (i + 1))), .ref o] (k_L_maker I (hr.2.2.2.1.2.2.1.symm ▸ hr.2.2.2.1.2.2.2.1) (ch (xs (i + 1)))) gL_law_L_maker rfl rfl rfl hd_L_maker ⟨Nat.le_of_ble_eq_true rfl, Nat.le_of_ble_eq_true rfl⟩ ⟨by show _ ≤ 603072; omega, by show _ ≤ 7198825; omega⟩ rfl (Nat.le_of_ble_eq_true rfl) dL_law_1431 (fun r w hw => ?_)
  obtain ⟨J, g9, rfl, rfl, hR, hJ⟩ := hw
  refine gw_w LW_J.symm ?_
  refine g_istore hX ((6, .int (nI (kmk (ch (xs (i + 1)))))) :: lvW b (ad 0) m0 o o2 (nI i)) rfl dL_law_1434 (Nat.le_of_ble_eq_true rfl) ?_
  refine g_aload_n hX 4 rfl dL_law_1436 rfl ?_
  refine l_arg (k := 1) hX hs 6 1 (by omega) hL2 rfl rfl rfl dL_law_1437 dL_law_1438 dL_law_1440 dL_law_1441 dL_law_1442 ?_
  refine g_i2c hX dL_law_1443 ?_
  refine l_callMI hX hL h8 [.int (ch (xs (i + 1)))] (k_X8_maker M S hr.1.1 hr.1.2.1 hr.1.2.2.1 hr.1.2.2.2 hr.2.2.2.1.2.2.2.1 (ch (xs (i + 1)))) gL_law_X8_maker rfl rfl rfl hd_X8_maker ⟨Nat.le_of_ble_eq_true rfl, Nat.le_of_ble_eq_true rfl⟩ ⟨by show _ ≤ 603072; omega, by show _ ≤ 7198825; omega⟩ rfl (Nat.le_of_ble_eq_true rfl) dL_law_1444 (fun r u hu => ?_)
  obtain ⟨rfl, rfl⟩ := hu
  refine ⟨_, _, _, rfl, ?_⟩
  exact l_tailI hX hL hN (by omega) (by omega) hce hsl h8 h9 (n0 (by unfold kmk; (repeat' split) <;> decide)) (st_maker hr (ch (xs (i + 1))) ⟨hR, hJ⟩) dL_law_1447 dL_law_1449 dL_law_1450 dL_law_1453 dL_law_1455 dL_law_1460 dL_law_1462 dL_law_1465 dL_law_1466 dL_law_1467 dL_law_1468 dL_law_1470 dL_law_1471 dL_law_1472 dL_law_1477 (by decide)
set_option maxRecDepth 100000 in
set_option maxHeartbeats 4000000 in
theorem lc_load (hX : CX X D (tyL dT) cL_law RL wsL_law room_1 9) (hL : XLX X Z) (hs : XSX X b L xs) {i : Nat} (hi : i + 5 ≤ L) (hL2 : L ≤ 2560) {ce sl : Nat} (hce : ce + 862 ≤ 603072) (hsl : sl + 5100 ≤ 7198825) (hN : NX X D dT Z ad b m0 o o2 (nI i) 2327 (ce + 862) (sl + 5100)) (hr : REL I M S) (h8 : ad8 0 = m0) (h9 : ad8 99999 = Z.1) : GW X D (LW dT ad I o g o2 g2 ad8 M S) (lvW b (ad 0) m0 o o2 (nI i)) ce sl 1480 [] := by
  refine g_aload_n hX 4 rfl dL_law_1480 rfl ?_
  refine l_arg (k := 1) hX hs 5 0 (by omega) hL2 rfl rfl rfl dL_law_1481 dL_law_1482 dL_law_1484 dL_law_1485 dL_law_1486 ?_
  refine g_aload_n hX 2 rfl dL_law_1487 rfl ?_
  refine gw_w LW_J ?_
  refine l_callS hX hL [.ref (ad 0), .int (xs (i + 1)), .ref o] (k_L_load I (xs (i + 1))) gL_law_L_load rfl rfl rfl hd_L_load ⟨Nat.le_of_ble_eq_true rfl, Nat.le_of_ble_eq_true rfl⟩ ⟨by show _ ≤ 603072; omega, by show _ ≤ 7198825; omega⟩ rfl (Nat.le_of_ble_eq_true rfl) dL_law_1488 (fun r w hw => ?_)
  obtain ⟨J, g9, rfl, rfl, hR, hJ⟩ := hw
  refine gw_w LW_J.symm ?_
  refine g_istore hX ((6, .int (nI (kr1 I (xs (i + 1))))) :: lvW b (ad 0) m0 o o2 (nI i)) rfl dL_law_1491 (Nat.le_of_ble_eq_true rfl) ?_
  refine g_aload_n hX 4 rfl dL_law_1493 rfl ?_
  refine l_arg (k := 1) hX hs 6 1 (by omega) hL2 rfl rfl rfl dL_law_1494 dL_law_1495 dL_law_1497 dL_law_1498 dL_law_1499 ?_
  refine l_callMI hX hL h8 [.int (xs (i + 1))] (k_X8_load M S hr.1.1 hr.1.2.1 hr.1.2.2.1 hr.1.2.2.2 h9 (xs (i + 1))) gL_law_X8_load rfl rfl rfl hd_X8_load ⟨Nat.le_of_ble_eq_true rfl, Nat.le_of_ble_eq_true rfl⟩ ⟨by show _ ≤ 603072; omega, by show _ ≤ 7198825; omega⟩ rfl (Nat.le_of_ble_eq_true rfl) dL_law_1500 (fun r u hu => ?_)
  obtain ⟨ad2, hA, (⟨c0, rfl, rfl⟩ | ⟨c0, rfl⟩)⟩ := hu
  · refine ⟨_, _, _, rfl, ?_⟩
    exact l_tailI hX hL hN (by omega) (by omega) hce hsl ((hA 0 (Or.inl (m_lo (by decide))) (by decide) (Or.inl (by decide))).trans h8) (AGm_z hA h9) (n0 (by unfold kr1; (repeat' split) <;> decide)) (st_load9 hr (xs (i + 1)) c0 ⟨hR, hJ⟩) dL_law_1503 dL_law_1505 dL_law_1506 dL_law_1509 dL_law_1511 dL_law_1516 dL_law_1518 dL_law_1521 dL_law_1522 dL_law_1523 dL_law_1524 dL_law_1526 dL_law_1527 dL_law_1528 dL_law_1533 (by decide)
  · refine ⟨_, _, _, rfl, ?_⟩
    exact l_tailI hX hL hN (by omega) (by omega) hce hsl ((hA 0 (Or.inl (m_lo (by decide))) (by decide) (Or.inl (by decide))).trans h8) (AGm_z hA h9) (n0 (by unfold kr1; (repeat' split) <;> decide)) (st_fl9 hr (c_r1 hr.2.1.1 hr.2.1.2.1 (xs (i + 1))) c0 hJ) dL_law_1503 dL_law_1505 dL_law_1506 dL_law_1509 dL_law_1511 dL_law_1516 dL_law_1518 dL_law_1521 dL_law_1522 dL_law_1523 dL_law_1524 dL_law_1526 dL_law_1527 dL_law_1528 dL_law_1533 (by decide)
set_option maxRecDepth 100000 in
set_option maxHeartbeats 4000000 in
theorem lc_aside (hX : CX X D (tyL dT) cL_law RL wsL_law room_1 9) (hL : XLX X Z) (hs : XSX X b L xs) {i : Nat} (hi : i + 5 ≤ L) (hL2 : L ≤ 2560) {ce sl : Nat} (hce : ce + 862 ≤ 603072) (hsl : sl + 5100 ≤ 7198825) (hN : NX X D dT Z ad b m0 o o2 (nI i) 2327 (ce + 862) (sl + 5100)) (hr : REL I M S) (h8 : ad8 0 = m0) (h9 : ad8 99999 = Z.1) : GW X D (LW dT ad I o g o2 g2 ad8 M S) (lvW b (ad 0) m0 o o2 (nI i)) ce sl 1536 [] := by
  refine g_aload_n hX 4 rfl dL_law_1536 rfl ?_
  refine l_arg (k := 1) hX hs 5 0 (by omega) hL2 rfl rfl rfl dL_law_1537 dL_law_1538 dL_law_1540 dL_law_1541 dL_law_1542 ?_
  refine g_aload_n hX 2 rfl dL_law_1543 rfl ?_
  refine gw_w LW_J ?_
  refine l_callS hX hL [.ref (ad 0), .int (xs (i + 1)), .ref o] (k_L_aside I (xs (i + 1))) gL_law_L_aside rfl rfl rfl hd_L_aside ⟨Nat.le_of_ble_eq_true rfl, Nat.le_of_ble_eq_true rfl⟩ ⟨by show _ ≤ 603072; omega, by show _ ≤ 7198825; omega⟩ rfl (Nat.le_of_ble_eq_true rfl) dL_law_1544 (fun r w hw => ?_)
  obtain ⟨J, g9, rfl, rfl, hR, hJ⟩ := hw
  refine gw_w LW_J.symm ?_
  refine g_istore hX ((6, .int (nI (kas I (xs (i + 1))))) :: lvW b (ad 0) m0 o o2 (nI i)) rfl dL_law_1547 (Nat.le_of_ble_eq_true rfl) ?_
  refine g_aload_n hX 4 rfl dL_law_1549 rfl ?_
  refine l_arg (k := 1) hX hs 6 1 (by omega) hL2 rfl rfl rfl dL_law_1550 dL_law_1551 dL_law_1553 dL_law_1554 dL_law_1555 ?_
  refine l_callMI hX hL h8 [.int (xs (i + 1))] (k_X8_aside M S hr.1.1 hr.1.2.1 hr.1.2.2.1 hr.1.2.2.2 (xs (i + 1))) gL_law_X8_aside rfl rfl rfl hd_X8_aside ⟨Nat.le_of_ble_eq_true rfl, Nat.le_of_ble_eq_true rfl⟩ ⟨by show _ ≤ 603072; omega, by show _ ≤ 7198825; omega⟩ rfl (Nat.le_of_ble_eq_true rfl) dL_law_1556 (fun r u hu => ?_)
  obtain ⟨rfl, rfl⟩ := hu
  refine ⟨_, _, _, rfl, ?_⟩
  exact l_tailI hX hL hN (by omega) (by omega) hce hsl h8 h9 (n0 (by unfold kas; (repeat' split) <;> decide)) (st_aside hr (xs (i + 1)) ⟨hR, hJ⟩) dL_law_1559 dL_law_1561 dL_law_1562 dL_law_1565 dL_law_1567 dL_law_1572 dL_law_1574 dL_law_1577 dL_law_1578 dL_law_1579 dL_law_1580 dL_law_1582 dL_law_1583 dL_law_1584 dL_law_1589 (by decide)
set_option maxRecDepth 100000 in
set_option maxHeartbeats 4000000 in
theorem lc_tick (hX : CX X D (tyL dT) cL_law RL wsL_law room_1 9) (hL : XLX X Z) (hs : XSX X b L xs) {i : Nat} (hi : i + 5 ≤ L) (hL2 : L ≤ 2560) {ce sl : Nat} (hce : ce + 862 ≤ 603072) (hsl : sl + 5100 ≤ 7198825) (hN : NX X D dT Z ad b m0 o o2 (nI i) 2327 (ce + 862) (sl + 5100)) (hr : REL I M S) (h8 : ad8 0 = m0) (h9 : ad8 99999 = Z.1) : GW X D (LW dT ad I o g o2 g2 ad8 M S) (lvW b (ad 0) m0 o o2 (nI i)) ce sl 1592 [] := by
  obtain ⟨⟨a, ha1, ha2⟩, hb, ⟨r0, hr01, hr02⟩, hla, -, hix, hLI⟩ := hr.any
  refine g_aload_n hX 4 rfl dL_law_1592 rfl ?_
  refine l_arg (k := 1) hX hs 5 0 (by omega) hL2 rfl rfl rfl dL_law_1593 dL_law_1594 dL_law_1596 dL_law_1597 dL_law_1598 ?_
  refine g_aload_n hX 2 rfl dL_law_1599 rfl ?_
  refine gw_w LW_J ?_
  refine l_callS hX hL [.ref (ad 0), .int (xs (i + 1)), .ref o] (k_L_tick I (rel_cp hr) a ha2 ha1 hLI hb (xs (i + 1))) gL_law_L_tick rfl rfl rfl hd_L_tick ⟨Nat.le_of_ble_eq_true rfl, Nat.le_of_ble_eq_true rfl⟩ ⟨by show _ ≤ 603072; omega, by show _ ≤ 7198825; omega⟩ rfl (Nat.le_of_ble_eq_true rfl) dL_law_1600 (fun r w hw => ?_)
  obtain ⟨J, g9, rfl, rfl, hR, hJ⟩ := hw
  refine gw_w LW_J.symm ?_
  refine g_istore hX ((6, .int (nI (kti I (xs (i + 1))))) :: lvW b (ad 0) m0 o o2 (nI i)) rfl dL_law_1603 (Nat.le_of_ble_eq_true rfl) ?_
  refine g_aload_n hX 4 rfl dL_law_1605 rfl ?_
  refine l_arg (k := 1) hX hs 6 1 (by omega) hL2 rfl rfl rfl dL_law_1606 dL_law_1607 dL_law_1609 dL_law_1610 dL_law_1611 ?_
  refine l_callMI hX hL h8 [.int (xs (i + 1))] (k_X8_tick M S hr.1.1 hr.1.2.1 hr.1.2.2.1 hr.1.2.2.2 h9 hix hla (rel_mp hr) r0 hr01 hr02 (xs (i + 1))) gL_law_X8_tick rfl rfl rfl hd_X8_tick ⟨Nat.le_of_ble_eq_true rfl, Nat.le_of_ble_eq_true rfl⟩ ⟨by show _ ≤ 603072; omega, by show _ ≤ 7198825; omega⟩ rfl (Nat.le_of_ble_eq_true rfl) dL_law_1612 (fun r u hu => ?_)
  obtain ⟨ad2, hA, (⟨c0, j, hj, hM, rfl, rfl⟩ | ⟨c0, rfl⟩)⟩ := hu
  · refine ⟨_, _, _, rfl, ?_⟩
    exact l_tailI hX hL hN (by omega) (by omega) hce hsl ((hA 0 (Or.inl (m_lo (by decide))) (by decide) (Or.inl (by decide))).trans h8) (AGm_z hA h9) (n0 (by unfold kti; (repeat' split) <;> decide)) (st_tick hr ha2 ha1 hr02 hr01 hj hM (xs (i + 1)) c0 ⟨hR, hJ⟩) dL_law_1615 dL_law_1617 dL_law_1618 dL_law_1621 dL_law_1623 dL_law_1628 dL_law_1630 dL_law_1633 dL_law_1634 dL_law_1635 dL_law_1636 dL_law_1638 dL_law_1639 dL_law_1640 dL_law_1645 (by decide)
  · refine ⟨_, _, _, rfl, ?_⟩
    exact l_tailI hX hL hN (by omega) (by omega) hce hsl ((hA 0 (Or.inl (m_lo (by decide))) (by decide) (Or.inl (by decide))).trans h8) (AGm_z hA h9) (n0 (by unfold kti; (repeat' split) <;> decide)) (st_fl9 hr (c_ti hr.b99 (xs (i + 1))) c0 hJ) dL_law_1615 dL_law_1617 dL_law_1618 dL_law_1621 dL_law_1623 dL_law_1628 dL_law_1630 dL_law_1633 dL_law_1634 dL_law_1635 dL_law_1636 dL_law_1638 dL_law_1639 dL_law_1640 dL_law_1645 (by decide)
set_option maxRecDepth 100000 in
set_option maxHeartbeats 4000000 in
theorem lc_isPlaying (hX : CX X D (tyL dT) cL_law RL wsL_law room_1 9) (hL : XLX X Z) (hs : XSX X b L xs) {i : Nat} (hi : i + 5 ≤ L) (hL2 : L ≤ 2560) {ce sl : Nat} (hce : ce + 862 ≤ 603072) (hsl : sl + 5100 ≤ 7198825) (hN : NX X D dT Z ad b m0 o o2 (nI i) 2327 (ce + 862) (sl + 5100)) (hr : REL I M S) (h8 : ad8 0 = m0) (h9 : ad8 99999 = Z.1) : GW X D (LW dT ad I o g o2 g2 ad8 M S) (lvW b (ad 0) m0 o o2 (nI i)) ce sl 1648 [] := by
  refine g_aload_n hX 4 rfl dL_law_1648 rfl ?_
  refine l_callCI hX (k_X6_isPlaying I) gL_law_X6_isPlaying rfl rfl rfl hd_X6_isPlaying ⟨Nat.le_of_ble_eq_true rfl, Nat.le_of_ble_eq_true rfl⟩ ⟨by show _ ≤ 603072; omega, by show _ ≤ 7198825; omega⟩ rfl (Nat.le_of_ble_eq_true rfl) dL_law_1649 (fun r J hJ => ?_)
  refine g_aload_n hX 3 rfl dL_law_1652 rfl ?_
  refine l_callMI hX hL h8 [] (k_X8_isPlaying (K := mK) (N := mN) (I := M) (Rr := mR S) (L := mL S) (m_lo (by decide)) rfl) gL_law_X8_isPlaying rfl rfl rfl hd_X8_isPlaying ⟨Nat.le_of_ble_eq_true rfl, Nat.le_of_ble_eq_true rfl⟩ ⟨by show _ ≤ 603072; omega, by show _ ≤ 7198825; omega⟩ rfl (Nat.le_of_ble_eq_true rfl) dL_law_1653 (fun r u hu => ?_)
  obtain ⟨rfl, rfl⟩ := hu
  obtain ⟨rfl, hv⟩ := hJ
  refine ⟨_, _, _, rfl, ?_⟩
  exact g_icmp_eq (tgt := 2327) hX dL_law_1656 (by decide) (fun _ => g_widen (by omega) (by omega) (hN _ _ _ _ _ _ hr h8 h9)) (fun c => absurd (hv.symm.trans (st_ip hr)) c)
set_option maxRecDepth 100000 in
set_option maxHeartbeats 4000000 in
theorem lc_row (hX : CX X D (tyL dT) cL_law RL wsL_law room_1 9) (hL : XLX X Z) (hs : XSX X b L xs) {i : Nat} (hi : i + 5 ≤ L) (hL2 : L ≤ 2560) {ce sl : Nat} (hce : ce + 862 ≤ 603072) (hsl : sl + 5100 ≤ 7198825) (hN : NX X D dT Z ad b m0 o o2 (nI i) 2327 (ce + 862) (sl + 5100)) (hr : REL I M S) (h8 : ad8 0 = m0) (h9 : ad8 99999 = Z.1) : GW X D (LW dT ad I o g o2 g2 ad8 M S) (lvW b (ad 0) m0 o o2 (nI i)) ce sl 1661 [] := by
  refine g_aload_n hX 4 rfl dL_law_1661 rfl ?_
  refine g_aload_n hX 2 rfl dL_law_1662 rfl ?_
  refine gw_w LW_J ?_
  refine l_callS hX hL [.ref (ad 0), .ref o] (k_L_row I) gL_law_L_row rfl rfl rfl hd_L_row ⟨Nat.le_of_ble_eq_true rfl, Nat.le_of_ble_eq_true rfl⟩ ⟨by show _ ≤ 603072; omega, by show _ ≤ 7198825; omega⟩ rfl (Nat.le_of_ble_eq_true rfl) dL_law_1663 (fun r w hw => ?_)
  obtain ⟨J, g9, rfl, rfl, hR, hJ⟩ := hw
  refine gw_w LW_J.symm ?_
  refine g_istore hX ((6, .int (nI (kpl I))) :: lvW b (ad 0) m0 o o2 (nI i)) rfl dL_law_1666 (Nat.le_of_ble_eq_true rfl) ?_
  refine g_aload_n hX 4 rfl dL_law_1668 rfl ?_
  refine l_callMI hX hL h8 [] (k_X8_row M S hr.1.1 hr.1.2.1 hr.1.2.2.1 hr.1.2.2.2) gL_law_X8_row rfl rfl rfl hd_X8_row ⟨Nat.le_of_ble_eq_true rfl, Nat.le_of_ble_eq_true rfl⟩ ⟨by show _ ≤ 603072; omega, by show _ ≤ 7198825; omega⟩ rfl (Nat.le_of_ble_eq_true rfl) dL_law_1669 (fun r u hu => ?_)
  obtain ⟨rfl, rfl⟩ := hu
  refine ⟨_, _, _, rfl, ?_⟩
  exact l_tailI hX hL hN (by omega) (by omega) hce hsl h8 h9 (n0 (by unfold kpl; (repeat' split) <;> decide)) (st_row9 hr ⟨hR, hJ⟩) dL_law_1672 dL_law_1674 dL_law_1675 dL_law_1678 dL_law_1680 dL_law_1685 dL_law_1687 dL_law_1690 dL_law_1691 dL_law_1692 dL_law_1693 dL_law_1695 dL_law_1696 dL_law_1697 dL_law_1702 (by decide)
set_option maxRecDepth 100000 in
set_option maxHeartbeats 4000000 in
theorem lc_suction (hX : CX X D (tyL dT) cL_law RL wsL_law room_1 9) (hL : XLX X Z) (hs : XSX X b L xs) {i : Nat} (hi : i + 5 ≤ L) (hL2 : L ≤ 2560) {ce sl : Nat} (hce : ce + 862 ≤ 603072) (hsl : sl + 5100 ≤ 7198825) (hN : NX X D dT Z ad b m0 o o2 (nI i) 2327 (ce + 862) (sl + 5100)) (hr : REL I M S) (h8 : ad8 0 = m0) (h9 : ad8 99999 = Z.1) : GW X D (LW dT ad I o g o2 g2 ad8 M S) (lvW b (ad 0) m0 o o2 (nI i)) ce sl 1705 [] := by
  refine g_aload_n hX 4 rfl dL_law_1705 rfl ?_
  refine g_aload_n hX 2 rfl dL_law_1706 rfl ?_
  refine gw_w LW_J ?_
  refine l_callS hX hL [.ref (ad 0), .ref o] (k_L_suction I) gL_law_L_suction rfl rfl rfl hd_L_suction ⟨Nat.le_of_ble_eq_true rfl, Nat.le_of_ble_eq_true rfl⟩ ⟨by show _ ≤ 603072; omega, by show _ ≤ 7198825; omega⟩ rfl (Nat.le_of_ble_eq_true rfl) dL_law_1707 (fun r w hw => ?_)
  obtain ⟨J, g9, rfl, rfl, hR, hJ⟩ := hw
  refine gw_w LW_J.symm ?_
  refine g_istore hX ((6, .int (nI (kpl I))) :: lvW b (ad 0) m0 o o2 (nI i)) rfl dL_law_1710 (Nat.le_of_ble_eq_true rfl) ?_
  refine g_aload_n hX 4 rfl dL_law_1712 rfl ?_
  refine l_callMI hX hL h8 [] (k_X8_suction M S hr.1.1 hr.1.2.1 hr.1.2.2.1 hr.1.2.2.2) gL_law_X8_suction rfl rfl rfl hd_X8_suction ⟨Nat.le_of_ble_eq_true rfl, Nat.le_of_ble_eq_true rfl⟩ ⟨by show _ ≤ 603072; omega, by show _ ≤ 7198825; omega⟩ rfl (Nat.le_of_ble_eq_true rfl) dL_law_1713 (fun r u hu => ?_)
  obtain ⟨rfl, rfl⟩ := hu
  refine ⟨_, _, _, rfl, ?_⟩
  exact l_tailI hX hL hN (by omega) (by omega) hce hsl h8 h9 (n0 (by unfold kpl; (repeat' split) <;> decide)) (st_suction hr ⟨hR, hJ⟩) dL_law_1716 dL_law_1718 dL_law_1719 dL_law_1722 dL_law_1724 dL_law_1729 dL_law_1731 dL_law_1734 dL_law_1735 dL_law_1736 dL_law_1737 dL_law_1739 dL_law_1740 dL_law_1741 dL_law_1746 (by decide)
end LCS
