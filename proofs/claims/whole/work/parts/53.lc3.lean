theorem dL_law_1135 : decode cL_law 1135 = .ok (.aload_n 1, 1) := by decide +kernel
theorem dL_law_1136 : decode cL_law 1136 = .ok (.aload_n 0, 1) := by decide +kernel
theorem dL_law_1137 : decode cL_law 1137 = .ok (.iload 5, 2) := by decide +kernel
theorem dL_law_1139 : decode cL_law 1139 = .ok (.iconst 1, 1) := by decide +kernel
theorem dL_law_1140 : decode cL_law 1140 = .ok (.iadd, 1) := by decide +kernel
theorem dL_law_1141 : decode cL_law 1141 = .ok (.iaload, 1) := by decide +kernel
theorem dL_law_1142 : decode cL_law 1142 = .ok (.aload_n 0, 1) := by decide +kernel
theorem dL_law_1143 : decode cL_law 1143 = .ok (.iload 5, 2) := by decide +kernel
theorem dL_law_1145 : decode cL_law 1145 = .ok (.iconst 2, 1) := by decide +kernel
theorem dL_law_1146 : decode cL_law 1146 = .ok (.iadd, 1) := by decide +kernel
theorem dL_law_1147 : decode cL_law 1147 = .ok (.iaload, 1) := by decide +kernel
theorem dL_law_1148 : decode cL_law 1148 = .ok (.aload_n 0, 1) := by decide +kernel
theorem dL_law_1149 : decode cL_law 1149 = .ok (.iload 5, 2) := by decide +kernel
theorem dL_law_1151 : decode cL_law 1151 = .ok (.iconst 3, 1) := by decide +kernel
theorem dL_law_1152 : decode cL_law 1152 = .ok (.iadd, 1) := by decide +kernel
theorem dL_law_1153 : decode cL_law 1153 = .ok (.iaload, 1) := by decide +kernel
theorem dL_law_1154 : decode cL_law 1154 = .ok (.aload_n 0, 1) := by decide +kernel
theorem dL_law_1155 : decode cL_law 1155 = .ok (.iload 5, 2) := by decide +kernel
theorem dL_law_1157 : decode cL_law 1157 = .ok (.iconst 4, 1) := by decide +kernel
theorem dL_law_1158 : decode cL_law 1158 = .ok (.iadd, 1) := by decide +kernel
theorem dL_law_1159 : decode cL_law 1159 = .ok (.iaload, 1) := by decide +kernel
theorem dL_law_1160 : decode cL_law 1160 = .ok (.aload_n 3, 1) := by decide +kernel
theorem dL_law_1161 : decode cL_law 1161 = .ok (.invokestatic 173, 3) := by decide +kernel
theorem dL_law_1164 : decode cL_law 1164 = .ok (.istore 6, 2) := by decide +kernel
theorem dL_law_1166 : decode cL_law 1166 = .ok (.aload_n 2, 1) := by decide +kernel
theorem dL_law_1167 : decode cL_law 1167 = .ok (.aload_n 0, 1) := by decide +kernel
theorem dL_law_1168 : decode cL_law 1168 = .ok (.iload 5, 2) := by decide +kernel
theorem dL_law_1170 : decode cL_law 1170 = .ok (.iconst 1, 1) := by decide +kernel
theorem dL_law_1171 : decode cL_law 1171 = .ok (.iadd, 1) := by decide +kernel
theorem dL_law_1172 : decode cL_law 1172 = .ok (.iaload, 1) := by decide +kernel
theorem dL_law_1173 : decode cL_law 1173 = .ok (.aload_n 0, 1) := by decide +kernel
theorem dL_law_1174 : decode cL_law 1174 = .ok (.iload 5, 2) := by decide +kernel
theorem dL_law_1176 : decode cL_law 1176 = .ok (.iconst 2, 1) := by decide +kernel
theorem dL_law_1177 : decode cL_law 1177 = .ok (.iadd, 1) := by decide +kernel
theorem dL_law_1178 : decode cL_law 1178 = .ok (.iaload, 1) := by decide +kernel
theorem dL_law_1179 : decode cL_law 1179 = .ok (.aload_n 0, 1) := by decide +kernel
theorem dL_law_1180 : decode cL_law 1180 = .ok (.iload 5, 2) := by decide +kernel
theorem dL_law_1182 : decode cL_law 1182 = .ok (.iconst 3, 1) := by decide +kernel
theorem dL_law_1183 : decode cL_law 1183 = .ok (.iadd, 1) := by decide +kernel
theorem dL_law_1184 : decode cL_law 1184 = .ok (.iaload, 1) := by decide +kernel
theorem dL_law_1185 : decode cL_law 1185 = .ok (.aload_n 0, 1) := by decide +kernel
theorem dL_law_1186 : decode cL_law 1186 = .ok (.iload 5, 2) := by decide +kernel
theorem dL_law_1188 : decode cL_law 1188 = .ok (.iconst 4, 1) := by decide +kernel
theorem dL_law_1189 : decode cL_law 1189 = .ok (.iadd, 1) := by decide +kernel
theorem dL_law_1190 : decode cL_law 1190 = .ok (.iaload, 1) := by decide +kernel
theorem dL_law_1191 : decode cL_law 1191 = .ok (.invokevirtual 176, 3) := by decide +kernel
theorem dL_law_1194 : decode cL_law 1194 = .ok (.istore 7, 2) := by decide +kernel
theorem dL_law_1196 : decode cL_law 1196 = .ok (.aload_n 2, 1) := by decide +kernel
theorem dL_law_1197 : decode cL_law 1197 = .ok (.invokevirtual 128, 3) := by decide +kernel
theorem dL_law_1200 : decode cL_law 1200 = .ok (.iload 6, 2) := by decide +kernel
theorem dL_law_1202 : decode cL_law 1202 = .ok (.if_icmp .eq 5, 3) := by decide +kernel
theorem dL_law_1207 : decode cL_law 1207 = .ok (.iload 6, 2) := by decide +kernel
theorem dL_law_1209 : decode cL_law 1209 = .ok (.ifCond .ne 15, 3) := by decide +kernel
theorem dL_law_1212 : decode cL_law 1212 = .ok (.aload_n 3, 1) := by decide +kernel
theorem dL_law_1213 : decode cL_law 1213 = .ok (.iconst 0, 1) := by decide +kernel
theorem dL_law_1214 : decode cL_law 1214 = .ok (.laload, 1) := by decide +kernel
theorem dL_law_1215 : decode cL_law 1215 = .ok (.iload 7, 2) := by decide +kernel
theorem dL_law_1217 : decode cL_law 1217 = .ok (.i2l, 1) := by decide +kernel
theorem dL_law_1218 : decode cL_law 1218 = .ok (.lcmp, 1) := by decide +kernel
theorem dL_law_1219 : decode cL_law 1219 = .ok (.ifCond .eq 5, 3) := by decide +kernel
theorem dL_law_1224 : decode cL_law 1224 = .ok (.goto 1061, 3) := by decide +kernel
theorem dL_law_1227 : decode cL_law 1227 = .ok (.aload_n 1, 1) := by decide +kernel
theorem dL_law_1228 : decode cL_law 1228 = .ok (.aload_n 0, 1) := by decide +kernel
theorem dL_law_1229 : decode cL_law 1229 = .ok (.iload 5, 2) := by decide +kernel
theorem dL_law_1231 : decode cL_law 1231 = .ok (.iconst 1, 1) := by decide +kernel
theorem dL_law_1232 : decode cL_law 1232 = .ok (.iadd, 1) := by decide +kernel
theorem dL_law_1233 : decode cL_law 1233 = .ok (.iaload, 1) := by decide +kernel
theorem dL_law_1234 : decode cL_law 1234 = .ok (.aload_n 0, 1) := by decide +kernel
theorem dL_law_1235 : decode cL_law 1235 = .ok (.iload 5, 2) := by decide +kernel
theorem dL_law_1237 : decode cL_law 1237 = .ok (.iconst 2, 1) := by decide +kernel
theorem dL_law_1238 : decode cL_law 1238 = .ok (.iadd, 1) := by decide +kernel
theorem dL_law_1239 : decode cL_law 1239 = .ok (.iaload, 1) := by decide +kernel
theorem dL_law_1240 : decode cL_law 1240 = .ok (.aload_n 0, 1) := by decide +kernel
theorem dL_law_1241 : decode cL_law 1241 = .ok (.iload 5, 2) := by decide +kernel
theorem dL_law_1243 : decode cL_law 1243 = .ok (.iconst 3, 1) := by decide +kernel
theorem dL_law_1244 : decode cL_law 1244 = .ok (.iadd, 1) := by decide +kernel
theorem dL_law_1245 : decode cL_law 1245 = .ok (.iaload, 1) := by decide +kernel
theorem dL_law_1246 : decode cL_law 1246 = .ok (.aload_n 3, 1) := by decide +kernel
theorem dL_law_1247 : decode cL_law 1247 = .ok (.invokestatic 177, 3) := by decide +kernel
theorem dL_law_1250 : decode cL_law 1250 = .ok (.istore 6, 2) := by decide +kernel
theorem dL_law_1252 : decode cL_law 1252 = .ok (.aload_n 2, 1) := by decide +kernel
theorem dL_law_1253 : decode cL_law 1253 = .ok (.aload_n 0, 1) := by decide +kernel
theorem dL_law_1254 : decode cL_law 1254 = .ok (.iload 5, 2) := by decide +kernel
theorem dL_law_1256 : decode cL_law 1256 = .ok (.iconst 1, 1) := by decide +kernel
theorem dL_law_1257 : decode cL_law 1257 = .ok (.iadd, 1) := by decide +kernel
theorem dL_law_1258 : decode cL_law 1258 = .ok (.iaload, 1) := by decide +kernel
theorem dL_law_1259 : decode cL_law 1259 = .ok (.aload_n 0, 1) := by decide +kernel
theorem dL_law_1260 : decode cL_law 1260 = .ok (.iload 5, 2) := by decide +kernel
theorem dL_law_1262 : decode cL_law 1262 = .ok (.iconst 2, 1) := by decide +kernel
theorem dL_law_1263 : decode cL_law 1263 = .ok (.iadd, 1) := by decide +kernel
theorem dL_law_1264 : decode cL_law 1264 = .ok (.iaload, 1) := by decide +kernel
theorem dL_law_1265 : decode cL_law 1265 = .ok (.aload_n 0, 1) := by decide +kernel
theorem dL_law_1266 : decode cL_law 1266 = .ok (.iload 5, 2) := by decide +kernel
theorem dL_law_1268 : decode cL_law 1268 = .ok (.iconst 3, 1) := by decide +kernel
theorem dL_law_1269 : decode cL_law 1269 = .ok (.iadd, 1) := by decide +kernel
theorem dL_law_1270 : decode cL_law 1270 = .ok (.iaload, 1) := by decide +kernel
theorem dL_law_1271 : decode cL_law 1271 = .ok (.invokevirtual 179, 3) := by decide +kernel
theorem dL_law_1274 : decode cL_law 1274 = .ok (.istore 7, 2) := by decide +kernel
theorem dL_law_1276 : decode cL_law 1276 = .ok (.aload_n 2, 1) := by decide +kernel
theorem dL_law_1277 : decode cL_law 1277 = .ok (.invokevirtual 128, 3) := by decide +kernel
theorem dL_law_1280 : decode cL_law 1280 = .ok (.iload 6, 2) := by decide +kernel
theorem dL_law_1282 : decode cL_law 1282 = .ok (.if_icmp .eq 5, 3) := by decide +kernel
theorem dL_law_1287 : decode cL_law 1287 = .ok (.iload 6, 2) := by decide +kernel
theorem dL_law_1289 : decode cL_law 1289 = .ok (.ifCond .ne 15, 3) := by decide +kernel
theorem dL_law_1292 : decode cL_law 1292 = .ok (.aload_n 3, 1) := by decide +kernel
theorem dL_law_1293 : decode cL_law 1293 = .ok (.iconst 0, 1) := by decide +kernel
theorem dL_law_1294 : decode cL_law 1294 = .ok (.laload, 1) := by decide +kernel
theorem dL_law_1295 : decode cL_law 1295 = .ok (.iload 7, 2) := by decide +kernel
theorem dL_law_1297 : decode cL_law 1297 = .ok (.i2l, 1) := by decide +kernel
theorem dL_law_1298 : decode cL_law 1298 = .ok (.lcmp, 1) := by decide +kernel
theorem dL_law_1299 : decode cL_law 1299 = .ok (.ifCond .eq 5, 3) := by decide +kernel
theorem dL_law_1304 : decode cL_law 1304 = .ok (.goto 981, 3) := by decide +kernel
theorem dL_law_1307 : decode cL_law 1307 = .ok (.aload_n 1, 1) := by decide +kernel
theorem dL_law_1308 : decode cL_law 1308 = .ok (.aload_n 0, 1) := by decide +kernel
theorem dL_law_1309 : decode cL_law 1309 = .ok (.iload 5, 2) := by decide +kernel
theorem dL_law_1311 : decode cL_law 1311 = .ok (.iconst 1, 1) := by decide +kernel
theorem dL_law_1312 : decode cL_law 1312 = .ok (.iadd, 1) := by decide +kernel
theorem dL_law_1313 : decode cL_law 1313 = .ok (.iaload, 1) := by decide +kernel
theorem dL_law_1314 : decode cL_law 1314 = .ok (.aload_n 0, 1) := by decide +kernel
theorem dL_law_1315 : decode cL_law 1315 = .ok (.iload 5, 2) := by decide +kernel
theorem dL_law_1317 : decode cL_law 1317 = .ok (.iconst 2, 1) := by decide +kernel
theorem dL_law_1318 : decode cL_law 1318 = .ok (.iadd, 1) := by decide +kernel
theorem dL_law_1319 : decode cL_law 1319 = .ok (.iaload, 1) := by decide +kernel
theorem dL_law_1320 : decode cL_law 1320 = .ok (.aload_n 3, 1) := by decide +kernel
theorem dL_law_1321 : decode cL_law 1321 = .ok (.invokestatic 180, 3) := by decide +kernel
theorem dL_law_1324 : decode cL_law 1324 = .ok (.istore 6, 2) := by decide +kernel
theorem dL_law_1326 : decode cL_law 1326 = .ok (.aload_n 2, 1) := by decide +kernel
theorem dL_law_1327 : decode cL_law 1327 = .ok (.aload_n 0, 1) := by decide +kernel
theorem dL_law_1328 : decode cL_law 1328 = .ok (.iload 5, 2) := by decide +kernel
theorem dL_law_1330 : decode cL_law 1330 = .ok (.iconst 1, 1) := by decide +kernel
theorem dL_law_1331 : decode cL_law 1331 = .ok (.iadd, 1) := by decide +kernel
theorem dL_law_1332 : decode cL_law 1332 = .ok (.iaload, 1) := by decide +kernel
theorem dL_law_1333 : decode cL_law 1333 = .ok (.aload_n 0, 1) := by decide +kernel
theorem dL_law_1334 : decode cL_law 1334 = .ok (.iload 5, 2) := by decide +kernel
theorem dL_law_1336 : decode cL_law 1336 = .ok (.iconst 2, 1) := by decide +kernel
theorem dL_law_1337 : decode cL_law 1337 = .ok (.iadd, 1) := by decide +kernel
theorem dL_law_1338 : decode cL_law 1338 = .ok (.iaload, 1) := by decide +kernel
theorem dL_law_1339 : decode cL_law 1339 = .ok (.invokevirtual 182, 3) := by decide +kernel
theorem dL_law_1342 : decode cL_law 1342 = .ok (.istore 7, 2) := by decide +kernel
theorem dL_law_1344 : decode cL_law 1344 = .ok (.aload_n 2, 1) := by decide +kernel
theorem dL_law_1345 : decode cL_law 1345 = .ok (.invokevirtual 128, 3) := by decide +kernel
theorem dL_law_1348 : decode cL_law 1348 = .ok (.iload 6, 2) := by decide +kernel
theorem dL_law_1350 : decode cL_law 1350 = .ok (.if_icmp .eq 5, 3) := by decide +kernel
theorem dL_law_1355 : decode cL_law 1355 = .ok (.iload 6, 2) := by decide +kernel
theorem dL_law_1357 : decode cL_law 1357 = .ok (.ifCond .ne 15, 3) := by decide +kernel
theorem dL_law_1360 : decode cL_law 1360 = .ok (.aload_n 3, 1) := by decide +kernel
theorem dL_law_1361 : decode cL_law 1361 = .ok (.iconst 0, 1) := by decide +kernel
theorem dL_law_1362 : decode cL_law 1362 = .ok (.laload, 1) := by decide +kernel
theorem dL_law_1363 : decode cL_law 1363 = .ok (.iload 7, 2) := by decide +kernel
theorem dL_law_1365 : decode cL_law 1365 = .ok (.i2l, 1) := by decide +kernel
theorem dL_law_1366 : decode cL_law 1366 = .ok (.lcmp, 1) := by decide +kernel
theorem dL_law_1367 : decode cL_law 1367 = .ok (.ifCond .eq 5, 3) := by decide +kernel
theorem dL_law_1372 : decode cL_law 1372 = .ok (.goto 913, 3) := by decide +kernel
theorem dL_law_1375 : decode cL_law 1375 = .ok (.aload_n 1, 1) := by decide +kernel
theorem dL_law_1376 : decode cL_law 1376 = .ok (.aload_n 0, 1) := by decide +kernel
theorem dL_law_1377 : decode cL_law 1377 = .ok (.iload 5, 2) := by decide +kernel
theorem dL_law_1379 : decode cL_law 1379 = .ok (.iconst 1, 1) := by decide +kernel
theorem dL_law_1380 : decode cL_law 1380 = .ok (.iadd, 1) := by decide +kernel
theorem dL_law_1381 : decode cL_law 1381 = .ok (.iaload, 1) := by decide +kernel
theorem dL_law_1382 : decode cL_law 1382 = .ok (.aload_n 0, 1) := by decide +kernel
theorem dL_law_1383 : decode cL_law 1383 = .ok (.iload 5, 2) := by decide +kernel
theorem dL_law_1385 : decode cL_law 1385 = .ok (.iconst 2, 1) := by decide +kernel
theorem dL_law_1386 : decode cL_law 1386 = .ok (.iadd, 1) := by decide +kernel
theorem dL_law_1387 : decode cL_law 1387 = .ok (.iaload, 1) := by decide +kernel
theorem dL_law_1388 : decode cL_law 1388 = .ok (.aload_n 0, 1) := by decide +kernel
theorem dL_law_1389 : decode cL_law 1389 = .ok (.iload 5, 2) := by decide +kernel
theorem dL_law_1391 : decode cL_law 1391 = .ok (.iconst 3, 1) := by decide +kernel
theorem dL_law_1392 : decode cL_law 1392 = .ok (.iadd, 1) := by decide +kernel
theorem dL_law_1393 : decode cL_law 1393 = .ok (.iaload, 1) := by decide +kernel
theorem dL_law_1394 : decode cL_law 1394 = .ok (.aload_n 0, 1) := by decide +kernel
theorem dL_law_1395 : decode cL_law 1395 = .ok (.iload 5, 2) := by decide +kernel
theorem dL_law_1397 : decode cL_law 1397 = .ok (.iconst 4, 1) := by decide +kernel
theorem dL_law_1398 : decode cL_law 1398 = .ok (.iadd, 1) := by decide +kernel
theorem dL_law_1399 : decode cL_law 1399 = .ok (.iaload, 1) := by decide +kernel
theorem dL_law_1400 : decode cL_law 1400 = .ok (.aload_n 3, 1) := by decide +kernel
theorem dL_law_1401 : decode cL_law 1401 = .ok (.invokestatic 183, 3) := by decide +kernel
theorem dL_law_1404 : decode cL_law 1404 = .ok (.istore 6, 2) := by decide +kernel
theorem dL_law_1406 : decode cL_law 1406 = .ok (.aload_n 2, 1) := by decide +kernel
theorem dL_law_1407 : decode cL_law 1407 = .ok (.aload_n 0, 1) := by decide +kernel
theorem dL_law_1408 : decode cL_law 1408 = .ok (.iload 5, 2) := by decide +kernel
theorem dL_law_1410 : decode cL_law 1410 = .ok (.iconst 1, 1) := by decide +kernel
theorem dL_law_1411 : decode cL_law 1411 = .ok (.iadd, 1) := by decide +kernel
theorem dL_law_1412 : decode cL_law 1412 = .ok (.iaload, 1) := by decide +kernel
theorem dL_law_1413 : decode cL_law 1413 = .ok (.aload_n 0, 1) := by decide +kernel
theorem dL_law_1414 : decode cL_law 1414 = .ok (.iload 5, 2) := by decide +kernel
theorem dL_law_1416 : decode cL_law 1416 = .ok (.iconst 2, 1) := by decide +kernel
theorem dL_law_1417 : decode cL_law 1417 = .ok (.iadd, 1) := by decide +kernel
theorem dL_law_1418 : decode cL_law 1418 = .ok (.iaload, 1) := by decide +kernel
theorem dL_law_1419 : decode cL_law 1419 = .ok (.aload_n 0, 1) := by decide +kernel
theorem dL_law_1420 : decode cL_law 1420 = .ok (.iload 5, 2) := by decide +kernel
theorem dL_law_1422 : decode cL_law 1422 = .ok (.iconst 3, 1) := by decide +kernel
theorem dL_law_1423 : decode cL_law 1423 = .ok (.iadd, 1) := by decide +kernel
theorem dL_law_1424 : decode cL_law 1424 = .ok (.iaload, 1) := by decide +kernel
theorem dL_law_1425 : decode cL_law 1425 = .ok (.aload_n 0, 1) := by decide +kernel
theorem dL_law_1426 : decode cL_law 1426 = .ok (.iload 5, 2) := by decide +kernel
theorem dL_law_1428 : decode cL_law 1428 = .ok (.iconst 4, 1) := by decide +kernel
theorem dL_law_1429 : decode cL_law 1429 = .ok (.iadd, 1) := by decide +kernel
theorem dL_law_1430 : decode cL_law 1430 = .ok (.iaload, 1) := by decide +kernel
theorem dL_law_1431 : decode cL_law 1431 = .ok (.invokevirtual 185, 3) := by decide +kernel
theorem dL_law_1434 : decode cL_law 1434 = .ok (.istore 7, 2) := by decide +kernel
theorem dL_law_1436 : decode cL_law 1436 = .ok (.aload_n 2, 1) := by decide +kernel
theorem dL_law_1437 : decode cL_law 1437 = .ok (.invokevirtual 128, 3) := by decide +kernel
theorem dL_law_1440 : decode cL_law 1440 = .ok (.iload 6, 2) := by decide +kernel
theorem dL_law_1442 : decode cL_law 1442 = .ok (.if_icmp .eq 5, 3) := by decide +kernel
theorem dL_law_1447 : decode cL_law 1447 = .ok (.iload 6, 2) := by decide +kernel
theorem dL_law_1449 : decode cL_law 1449 = .ok (.ifCond .ne 15, 3) := by decide +kernel
theorem dL_law_1452 : decode cL_law 1452 = .ok (.aload_n 3, 1) := by decide +kernel
theorem dL_law_1453 : decode cL_law 1453 = .ok (.iconst 0, 1) := by decide +kernel
theorem dL_law_1454 : decode cL_law 1454 = .ok (.laload, 1) := by decide +kernel
theorem dL_law_1455 : decode cL_law 1455 = .ok (.iload 7, 2) := by decide +kernel
theorem dL_law_1457 : decode cL_law 1457 = .ok (.i2l, 1) := by decide +kernel
theorem dL_law_1458 : decode cL_law 1458 = .ok (.lcmp, 1) := by decide +kernel
theorem dL_law_1459 : decode cL_law 1459 = .ok (.ifCond .eq 5, 3) := by decide +kernel
theorem dL_law_1464 : decode cL_law 1464 = .ok (.goto 821, 3) := by decide +kernel
section LC3
variable {G : hk_G} {l : Launch} {x m o od c nc nb t k n : Nat} {S : hs_S} {h : hk_H}
theorem lc_hand {w1 w2 w3 w4 u1 u2 u3 u4 : Int32} (hfl : l.stackTraces = false) (hj : hJ S c nc nb t) (ht : t < 512) (hL : 5 * t + 5 ≤ hk_K G 1101) (hw0 : hl_I G x m o od S c nc nb h) (hk : 220 ≤ k) (hn : 8000 ≤ n) (e1 : nI (hk_K G (4000 + (5 * t + 1))) = w1) (e2 : nI (hk_K G (4000 + (5 * t + 2))) = w2) (e3 : nI (hk_K G (4000 + (5 * t + 3))) = w3) (e4 : nI (hk_K G (4000 + (5 * t + 4))) = w4) (f1 : (w1.toUInt32 % 65536).toInt32 = u1) (f2 : (w2.toUInt32 % 65536).toInt32 = u2) (f3 : (w3.toUInt32 % 65536).toInt32 = u3) (f4 : (w4.toUInt32 % 65536).toInt32 = u4) (KK : hl_KK G l x m o od t (k - 220) (n - 8000)) : hk_W G l 12 yL_law cL_law 9 (some .boolean) [] hl_Qe hk_no k n h 1135 (hl_lv G x m o od t) [] := by
  obtain ⟨A, g, hm, thr, f, fd, hA, rfl, hw, hd, ho, hod, rfl⟩ := hw0
  unfold hl_lv
  obtain ⟨ho1, hoA⟩ := hl_oA hw hd ho
  refine hk_aload_n dL_law_1135 rfl rfl rfl ?_
  refine hk_aload_n dL_law_1136 rfl rfl rfl ?_
  refine hk_iload dL_law_1137 rfl rfl ?_
  refine hk_iconst (v := nI 1) dL_law_1139 rfl (by decide) ?_
  refine hk_iadd dL_law_1140 rfl ?_
  refine cx_top (nI_add _ _) ?_
  refine hl_sld rfl (by omega) dL_law_1141 rfl (by omega) ?_
  refine cx_top e1 ?_
  refine hk_aload_n dL_law_1142 rfl rfl rfl ?_
  refine hk_iload dL_law_1143 rfl rfl ?_
  refine hk_iconst (v := nI 2) dL_law_1145 rfl (by decide) ?_
  refine hk_iadd dL_law_1146 rfl ?_
  refine cx_top (nI_add _ _) ?_
  refine hl_sld rfl (by omega) dL_law_1147 rfl (by omega) ?_
  refine cx_top e2 ?_
  refine hk_aload_n dL_law_1148 rfl rfl rfl ?_
  refine hk_iload dL_law_1149 rfl rfl ?_
  refine hk_iconst (v := nI 3) dL_law_1151 rfl (by decide) ?_
  refine hk_iadd dL_law_1152 rfl ?_
  refine cx_top (nI_add _ _) ?_
  refine hl_sld rfl (by omega) dL_law_1153 rfl (by omega) ?_
  refine cx_top e3 ?_
  refine hk_aload_n dL_law_1154 rfl rfl rfl ?_
  refine hk_iload dL_law_1155 rfl rfl ?_
  refine hk_iconst (v := nI 4) dL_law_1157 rfl (by decide) ?_
  refine hk_iadd dL_law_1158 rfl ?_
  refine cx_top (nI_add _ _) ?_
  refine hl_sld rfl (by omega) dL_law_1159 rfl (by omega) ?_
  refine cx_top e4 ?_
  refine hk_aload_n dL_law_1160 rfl rfl rfl ?_
  refine hl_callS dL_law_1161 rfl ls_L_173 (cl_hand (h := hm) hfl hA hj.I ho1 hoA) rfl rfl (by decide) ⟨by omega, by omega⟩ (Nat.le_of_ble_eq_true rfl) (hk_ki fun v1 h1 q1 => ?_) hk_nx
  refine hk_istore dL_law_1164 rfl (by decide) rfl ?_
  rcases q1 with ⟨z, rfl, f9, hf9, rfl⟩ | ⟨z, rfl, rfl⟩
  · skip
    have hR := hl_R1 (f1 := f9) (S' := cs_hand S w1 w2 w3 w4) hA hw hd ho hod
    obtain ⟨A9, thr9, -, -, hw1, -, -, -⟩ := id hR
    obtain ⟨fs1, hat1⟩ := hm_Wd_at hw1
    refine hk_aload_n dL_law_1166 rfl rfl rfl ?_
    refine hk_aload_n dL_law_1167 rfl rfl rfl ?_
    refine hk_iload dL_law_1168 rfl rfl ?_
    refine hk_iconst (v := nI 1) dL_law_1170 rfl (by decide) ?_
    refine hk_iadd dL_law_1171 rfl ?_
    refine cx_top (nI_add _ _) ?_
    refine hl_sld rfl (by omega) dL_law_1172 rfl (by omega) ?_
    refine cx_top e1 ?_
    refine hk_aload_n dL_law_1173 rfl rfl rfl ?_
    refine hk_iload dL_law_1174 rfl rfl ?_
    refine hk_iconst (v := nI 2) dL_law_1176 rfl (by decide) ?_
    refine hk_iadd dL_law_1177 rfl ?_
    refine cx_top (nI_add _ _) ?_
    refine hl_sld rfl (by omega) dL_law_1178 rfl (by omega) ?_
    refine cx_top e2 ?_
    refine hk_aload_n dL_law_1179 rfl rfl rfl ?_
    refine hk_iload dL_law_1180 rfl rfl ?_
    refine hk_iconst (v := nI 3) dL_law_1182 rfl (by decide) ?_
    refine hk_iadd dL_law_1183 rfl ?_
    refine cx_top (nI_add _ _) ?_
    refine hl_sld rfl (by omega) dL_law_1184 rfl (by omega) ?_
    refine cx_top e3 ?_
    refine hk_aload_n dL_law_1185 rfl rfl rfl ?_
    refine hk_iload dL_law_1186 rfl rfl ?_
    refine hk_iconst (v := nI 4) dL_law_1188 rfl (by decide) ?_
    refine hk_iadd dL_law_1189 rfl ?_
    refine cx_top (nI_add _ _) ?_
    refine hl_sld rfl (by omega) dL_law_1190 rfl (by omega) ?_
    refine cx_top e4 ?_
    refine hk_callV dL_law_1191 rfl mv_L_176 (cm_hand hfl hw1) rfl rfl hat1 rfl rfl (by decide) ⟨by omega, by omega⟩ (Nat.le_of_ble_eq_true rfl) (hk_ki fun v2 h2 q2 => ?_) hk_nx
    refine hk_istore dL_law_1194 rfl (by decide) rfl ?_
    obtain ⟨g2, hx2, q2⟩ := q2
    rcases q2 with ⟨z2, rfl, hw2⟩ | ⟨z2, hw2⟩
    · skip
      obtain ⟨hq2, hj2, hr2⟩ := st_hand hj ht z
      obtain ⟨hI2, ho3, hod3⟩ := hl_fin hR hx2 hw2 hq2
      obtain ⟨fs2, hat2⟩ := hm_Wd_at hw2
      refine hk_aload_n dL_law_1196 rfl rfl rfl ?_
      refine hk_callV dL_law_1197 rfl mv_L_128 (cm_thrown hfl hw2) rfl rfl hat2 rfl rfl (by decide) ⟨Nat.zero_le _, Nat.zero_le _⟩ (Nat.le_of_ble_eq_true rfl) (hk_ki fun v3 h3 q3 => ?_) hk_nx
      obtain ⟨rfl, rfl⟩ := q3
      refine hk_iload dL_law_1200 rfl rfl ?_
      refine hk_icmp_eq (tgt := 1207) dL_law_1202 (by decide) rfl (fun _ => ?_) (fun zz => absurd rfl zz)
      refine hk_iload dL_law_1207 rfl rfl ?_
      refine hk_if_ne (tgt := 1224) dL_law_1209 (by decide) rfl (fun zz => absurd rfl zz) (fun _ => ?_)
      refine hk_aload_n dL_law_1212 rfl rfl rfl ?_
      refine hk_iconst (v := nI 0) dL_law_1213 rfl (by decide) ?_
      refine hk_lald dL_law_1214 rfl ho3 (vp_in_nI (by decide) (by decide)) ?_
      refine cx_topl (show f9 (nI 0).toNatClampNeg = _ from hf9) ?_
      refine hk_iload dL_law_1215 rfl rfl ?_
      refine hk_i2l dL_law_1217 rfl ?_
      refine hk_lcmp dL_law_1218 rfl ?_
      refine hk_if_eq (tgt := 1224) dL_law_1219 (by decide) rfl (fun _ => ?_) (fun zz => absurd (lg_cmp_0.mpr (congrArg Int32.toInt64 hr2)) zz)
      refine hk_goto (tgt := 2285) dL_law_1224 (by decide) ?_
      exact hl_go KK (by omega) (by omega) hj2 hI2 (hl_lvle _ _ _)
    · exact absurd (ml_tr_z z) z2
  · skip
    have hR := hl_R0 (S' := S) hA hw hd ho hod
    obtain ⟨A9, thr9, -, -, hw1, -, -, -⟩ := id hR
    obtain ⟨fs1, hat1⟩ := hm_Wd_at hw1
    refine hk_aload_n dL_law_1166 rfl rfl rfl ?_
    refine hk_aload_n dL_law_1167 rfl rfl rfl ?_
    refine hk_iload dL_law_1168 rfl rfl ?_
    refine hk_iconst (v := nI 1) dL_law_1170 rfl (by decide) ?_
    refine hk_iadd dL_law_1171 rfl ?_
    refine cx_top (nI_add _ _) ?_
    refine hl_sld rfl (by omega) dL_law_1172 rfl (by omega) ?_
    refine cx_top e1 ?_
    refine hk_aload_n dL_law_1173 rfl rfl rfl ?_
    refine hk_iload dL_law_1174 rfl rfl ?_
    refine hk_iconst (v := nI 2) dL_law_1176 rfl (by decide) ?_
    refine hk_iadd dL_law_1177 rfl ?_
    refine cx_top (nI_add _ _) ?_
    refine hl_sld rfl (by omega) dL_law_1178 rfl (by omega) ?_
    refine cx_top e2 ?_
    refine hk_aload_n dL_law_1179 rfl rfl rfl ?_
    refine hk_iload dL_law_1180 rfl rfl ?_
    refine hk_iconst (v := nI 3) dL_law_1182 rfl (by decide) ?_
    refine hk_iadd dL_law_1183 rfl ?_
    refine cx_top (nI_add _ _) ?_
    refine hl_sld rfl (by omega) dL_law_1184 rfl (by omega) ?_
    refine cx_top e3 ?_
    refine hk_aload_n dL_law_1185 rfl rfl rfl ?_
    refine hk_iload dL_law_1186 rfl rfl ?_
    refine hk_iconst (v := nI 4) dL_law_1188 rfl (by decide) ?_
    refine hk_iadd dL_law_1189 rfl ?_
    refine cx_top (nI_add _ _) ?_
    refine hl_sld rfl (by omega) dL_law_1190 rfl (by omega) ?_
    refine cx_top e4 ?_
    refine hk_callV dL_law_1191 rfl mv_L_176 (cm_hand hfl hw1) rfl rfl hat1 rfl rfl (by decide) ⟨by omega, by omega⟩ (Nat.le_of_ble_eq_true rfl) (hk_ki fun v2 h2 q2 => ?_) hk_nx
    refine hk_istore dL_law_1194 rfl (by decide) rfl ?_
    obtain ⟨g2, hx2, q2⟩ := q2
    rcases q2 with ⟨z2, rfl, hw2⟩ | ⟨z2, hw2⟩
    · exact absurd z2 (ml_tr_p z (by decide)).1
    · skip
      obtain ⟨hI2, ho3, hod3⟩ := hl_fin hR hx2 hw2 hm_q.rf
      obtain ⟨fs2, hat2⟩ := hm_Wd_at hw2
      refine hk_aload_n dL_law_1196 rfl rfl rfl ?_
      refine hk_callV dL_law_1197 rfl mv_L_128 (cm_thrown hfl hw2) rfl rfl hat2 rfl rfl (by decide) ⟨Nat.zero_le _, Nat.zero_le _⟩ (Nat.le_of_ble_eq_true rfl) (hk_ki fun v3 h3 q3 => ?_) hk_nx
      obtain ⟨rfl, rfl⟩ := q3
      refine hk_iload dL_law_1200 rfl rfl ?_
      refine hk_icmp_eq (tgt := 1207) dL_law_1202 (by decide) rfl (fun _ => ?_) (fun zz => absurd rfl zz)
      refine hk_iload dL_law_1207 rfl rfl ?_
      refine hk_if_ne (tgt := 1224) dL_law_1209 (by decide) rfl (fun _ => ?_) (fun zz => absurd zz (nI_ne0 (Nat.pos_of_ne_zero (ml_tr_p z (by decide)).1) (ml_tr_p z (by decide)).2))
      refine hk_goto (tgt := 2285) dL_law_1224 (by decide) ?_
      exact hl_go KK (by omega) (by omega) (hj.up (Nat.le_succ t)) hI2 (hl_lvle _ _ _)
theorem lc_forgive {w1 w2 w3 w4 u1 u2 u3 u4 : Int32} (hfl : l.stackTraces = false) (hj : hJ S c nc nb t) (ht : t < 512) (hL : 5 * t + 5 ≤ hk_K G 1101) (hw0 : hl_I G x m o od S c nc nb h) (hk : 220 ≤ k) (hn : 8000 ≤ n) (e1 : nI (hk_K G (4000 + (5 * t + 1))) = w1) (e2 : nI (hk_K G (4000 + (5 * t + 2))) = w2) (e3 : nI (hk_K G (4000 + (5 * t + 3))) = w3) (e4 : nI (hk_K G (4000 + (5 * t + 4))) = w4) (f1 : (w1.toUInt32 % 65536).toInt32 = u1) (f2 : (w2.toUInt32 % 65536).toInt32 = u2) (f3 : (w3.toUInt32 % 65536).toInt32 = u3) (f4 : (w4.toUInt32 % 65536).toInt32 = u4) (KK : hl_KK G l x m o od t (k - 220) (n - 8000)) : hk_W G l 12 yL_law cL_law 9 (some .boolean) [] hl_Qe hk_no k n h 1227 (hl_lv G x m o od t) [] := by
  obtain ⟨A, g, hm, thr, f, fd, hA, rfl, hw, hd, ho, hod, rfl⟩ := hw0
  unfold hl_lv
  obtain ⟨ho1, hoA⟩ := hl_oA hw hd ho
  refine hk_aload_n dL_law_1227 rfl rfl rfl ?_
  refine hk_aload_n dL_law_1228 rfl rfl rfl ?_
  refine hk_iload dL_law_1229 rfl rfl ?_
  refine hk_iconst (v := nI 1) dL_law_1231 rfl (by decide) ?_
  refine hk_iadd dL_law_1232 rfl ?_
  refine cx_top (nI_add _ _) ?_
  refine hl_sld rfl (by omega) dL_law_1233 rfl (by omega) ?_
  refine cx_top e1 ?_
  refine hk_aload_n dL_law_1234 rfl rfl rfl ?_
  refine hk_iload dL_law_1235 rfl rfl ?_
  refine hk_iconst (v := nI 2) dL_law_1237 rfl (by decide) ?_
  refine hk_iadd dL_law_1238 rfl ?_
  refine cx_top (nI_add _ _) ?_
  refine hl_sld rfl (by omega) dL_law_1239 rfl (by omega) ?_
  refine cx_top e2 ?_
  refine hk_aload_n dL_law_1240 rfl rfl rfl ?_
  refine hk_iload dL_law_1241 rfl rfl ?_
  refine hk_iconst (v := nI 3) dL_law_1243 rfl (by decide) ?_
  refine hk_iadd dL_law_1244 rfl ?_
  refine cx_top (nI_add _ _) ?_
  refine hl_sld rfl (by omega) dL_law_1245 rfl (by omega) ?_
  refine cx_top e3 ?_
  refine hk_aload_n dL_law_1246 rfl rfl rfl ?_
  refine hl_callS dL_law_1247 rfl ls_L_177 (cl_forgive (h := hm) hfl hA hj.I ho1 hoA) rfl rfl (by decide) ⟨by omega, by omega⟩ (Nat.le_of_ble_eq_true rfl) (hk_ki fun v1 h1 q1 => ?_) hk_nx
  refine hk_istore dL_law_1250 rfl (by decide) rfl ?_
  rcases q1 with ⟨z, rfl, f9, hf9, rfl⟩ | ⟨z, rfl, rfl⟩
  · skip
    have hR := hl_R1 (f1 := f9) (S' := cs_cadd S (vN w1) (vN w2) (-w3)) hA hw hd ho hod
    obtain ⟨A9, thr9, -, -, hw1, -, -, -⟩ := id hR
    obtain ⟨fs1, hat1⟩ := hm_Wd_at hw1
    refine hk_aload_n dL_law_1252 rfl rfl rfl ?_
    refine hk_aload_n dL_law_1253 rfl rfl rfl ?_
    refine hk_iload dL_law_1254 rfl rfl ?_
    refine hk_iconst (v := nI 1) dL_law_1256 rfl (by decide) ?_
    refine hk_iadd dL_law_1257 rfl ?_
    refine cx_top (nI_add _ _) ?_
    refine hl_sld rfl (by omega) dL_law_1258 rfl (by omega) ?_
    refine cx_top e1 ?_
    refine hk_aload_n dL_law_1259 rfl rfl rfl ?_
    refine hk_iload dL_law_1260 rfl rfl ?_
    refine hk_iconst (v := nI 2) dL_law_1262 rfl (by decide) ?_
    refine hk_iadd dL_law_1263 rfl ?_
    refine cx_top (nI_add _ _) ?_
    refine hl_sld rfl (by omega) dL_law_1264 rfl (by omega) ?_
    refine cx_top e2 ?_
    refine hk_aload_n dL_law_1265 rfl rfl rfl ?_
    refine hk_iload dL_law_1266 rfl rfl ?_
    refine hk_iconst (v := nI 3) dL_law_1268 rfl (by decide) ?_
    refine hk_iadd dL_law_1269 rfl ?_
    refine cx_top (nI_add _ _) ?_
    refine hl_sld rfl (by omega) dL_law_1270 rfl (by omega) ?_
    refine cx_top e3 ?_
    refine hk_callV dL_law_1271 rfl mv_L_179 (cm_forgive hfl hw1) rfl rfl hat1 rfl rfl (by decide) ⟨by omega, by omega⟩ (Nat.le_of_ble_eq_true rfl) (hk_ki fun v2 h2 q2 => ?_) hk_nx
    refine hk_istore dL_law_1274 rfl (by decide) rfl ?_
    obtain ⟨g2, hx2, q2⟩ := q2
    rcases q2 with ⟨z2, rfl, hw2⟩ | ⟨z2, hw2⟩
    · skip
      obtain ⟨hq2, hj2, hr2⟩ := st_forgive hj ht z
      obtain ⟨hI2, ho3, hod3⟩ := hl_fin hR hx2 hw2 hq2
      obtain ⟨fs2, hat2⟩ := hm_Wd_at hw2
      refine hk_aload_n dL_law_1276 rfl rfl rfl ?_
      refine hk_callV dL_law_1277 rfl mv_L_128 (cm_thrown hfl hw2) rfl rfl hat2 rfl rfl (by decide) ⟨Nat.zero_le _, Nat.zero_le _⟩ (Nat.le_of_ble_eq_true rfl) (hk_ki fun v3 h3 q3 => ?_) hk_nx
      obtain ⟨rfl, rfl⟩ := q3
      refine hk_iload dL_law_1280 rfl rfl ?_
      refine hk_icmp_eq (tgt := 1287) dL_law_1282 (by decide) rfl (fun _ => ?_) (fun zz => absurd rfl zz)
      refine hk_iload dL_law_1287 rfl rfl ?_
      refine hk_if_ne (tgt := 1304) dL_law_1289 (by decide) rfl (fun zz => absurd rfl zz) (fun _ => ?_)
      refine hk_aload_n dL_law_1292 rfl rfl rfl ?_
      refine hk_iconst (v := nI 0) dL_law_1293 rfl (by decide) ?_
      refine hk_lald dL_law_1294 rfl ho3 (vp_in_nI (by decide) (by decide)) ?_
      refine cx_topl (show f9 (nI 0).toNatClampNeg = _ from hf9) ?_
      refine hk_iload dL_law_1295 rfl rfl ?_
      refine hk_i2l dL_law_1297 rfl ?_
      refine hk_lcmp dL_law_1298 rfl ?_
      refine hk_if_eq (tgt := 1304) dL_law_1299 (by decide) rfl (fun _ => ?_) (fun zz => absurd (lg_cmp_0.mpr (congrArg Int32.toInt64 hr2)) zz)
      refine hk_goto (tgt := 2285) dL_law_1304 (by decide) ?_
      exact hl_go KK (by omega) (by omega) hj2 hI2 (hl_lvle _ _ _)
    · exact absurd (ml_tr_z z) z2
  · skip
    have hR := hl_R0 (S' := S) hA hw hd ho hod
    obtain ⟨A9, thr9, -, -, hw1, -, -, -⟩ := id hR
    obtain ⟨fs1, hat1⟩ := hm_Wd_at hw1
    refine hk_aload_n dL_law_1252 rfl rfl rfl ?_
    refine hk_aload_n dL_law_1253 rfl rfl rfl ?_
    refine hk_iload dL_law_1254 rfl rfl ?_
    refine hk_iconst (v := nI 1) dL_law_1256 rfl (by decide) ?_
    refine hk_iadd dL_law_1257 rfl ?_
    refine cx_top (nI_add _ _) ?_
    refine hl_sld rfl (by omega) dL_law_1258 rfl (by omega) ?_
    refine cx_top e1 ?_
    refine hk_aload_n dL_law_1259 rfl rfl rfl ?_
    refine hk_iload dL_law_1260 rfl rfl ?_
    refine hk_iconst (v := nI 2) dL_law_1262 rfl (by decide) ?_
    refine hk_iadd dL_law_1263 rfl ?_
    refine cx_top (nI_add _ _) ?_
    refine hl_sld rfl (by omega) dL_law_1264 rfl (by omega) ?_
    refine cx_top e2 ?_
    refine hk_aload_n dL_law_1265 rfl rfl rfl ?_
    refine hk_iload dL_law_1266 rfl rfl ?_
    refine hk_iconst (v := nI 3) dL_law_1268 rfl (by decide) ?_
    refine hk_iadd dL_law_1269 rfl ?_
    refine cx_top (nI_add _ _) ?_
    refine hl_sld rfl (by omega) dL_law_1270 rfl (by omega) ?_
    refine cx_top e3 ?_
    refine hk_callV dL_law_1271 rfl mv_L_179 (cm_forgive hfl hw1) rfl rfl hat1 rfl rfl (by decide) ⟨by omega, by omega⟩ (Nat.le_of_ble_eq_true rfl) (hk_ki fun v2 h2 q2 => ?_) hk_nx
    refine hk_istore dL_law_1274 rfl (by decide) rfl ?_
    obtain ⟨g2, hx2, q2⟩ := q2
    rcases q2 with ⟨z2, rfl, hw2⟩ | ⟨z2, hw2⟩
    · exact absurd z2 (ml_tr_p z (by decide)).1
    · skip
      obtain ⟨hI2, ho3, hod3⟩ := hl_fin hR hx2 hw2 hm_q.rf
      obtain ⟨fs2, hat2⟩ := hm_Wd_at hw2
      refine hk_aload_n dL_law_1276 rfl rfl rfl ?_
      refine hk_callV dL_law_1277 rfl mv_L_128 (cm_thrown hfl hw2) rfl rfl hat2 rfl rfl (by decide) ⟨Nat.zero_le _, Nat.zero_le _⟩ (Nat.le_of_ble_eq_true rfl) (hk_ki fun v3 h3 q3 => ?_) hk_nx
      obtain ⟨rfl, rfl⟩ := q3
      refine hk_iload dL_law_1280 rfl rfl ?_
      refine hk_icmp_eq (tgt := 1287) dL_law_1282 (by decide) rfl (fun _ => ?_) (fun zz => absurd rfl zz)
      refine hk_iload dL_law_1287 rfl rfl ?_
      refine hk_if_ne (tgt := 1304) dL_law_1289 (by decide) rfl (fun _ => ?_) (fun zz => absurd zz (nI_ne0 (Nat.pos_of_ne_zero (ml_tr_p z (by decide)).1) (ml_tr_p z (by decide)).2))
      refine hk_goto (tgt := 2285) dL_law_1304 (by decide) ?_
      exact hl_go KK (by omega) (by omega) (hj.up (Nat.le_succ t)) hI2 (hl_lvle _ _ _)
theorem lc_claim {w1 w2 w3 w4 u1 u2 u3 u4 : Int32} (hfl : l.stackTraces = false) (hj : hJ S c nc nb t) (ht : t < 512) (hL : 5 * t + 5 ≤ hk_K G 1101) (hw0 : hl_I G x m o od S c nc nb h) (hk : 220 ≤ k) (hn : 8000 ≤ n) (e1 : nI (hk_K G (4000 + (5 * t + 1))) = w1) (e2 : nI (hk_K G (4000 + (5 * t + 2))) = w2) (e3 : nI (hk_K G (4000 + (5 * t + 3))) = w3) (e4 : nI (hk_K G (4000 + (5 * t + 4))) = w4) (f1 : (w1.toUInt32 % 65536).toInt32 = u1) (f2 : (w2.toUInt32 % 65536).toInt32 = u2) (f3 : (w3.toUInt32 % 65536).toInt32 = u3) (f4 : (w4.toUInt32 % 65536).toInt32 = u4) (KK : hl_KK G l x m o od t (k - 220) (n - 8000)) : hk_W G l 12 yL_law cL_law 9 (some .boolean) [] hl_Qe hk_no k n h 1307 (hl_lv G x m o od t) [] := by
  obtain ⟨A, g, hm, thr, f, fd, hA, rfl, hw, hd, ho, hod, rfl⟩ := hw0
  unfold hl_lv
  obtain ⟨ho1, hoA⟩ := hl_oA hw hd ho
  refine hk_aload_n dL_law_1307 rfl rfl rfl ?_
  refine hk_aload_n dL_law_1308 rfl rfl rfl ?_
  refine hk_iload dL_law_1309 rfl rfl ?_
  refine hk_iconst (v := nI 1) dL_law_1311 rfl (by decide) ?_
  refine hk_iadd dL_law_1312 rfl ?_
  refine cx_top (nI_add _ _) ?_
  refine hl_sld rfl (by omega) dL_law_1313 rfl (by omega) ?_
  refine cx_top e1 ?_
  refine hk_aload_n dL_law_1314 rfl rfl rfl ?_
  refine hk_iload dL_law_1315 rfl rfl ?_
  refine hk_iconst (v := nI 2) dL_law_1317 rfl (by decide) ?_
  refine hk_iadd dL_law_1318 rfl ?_
  refine cx_top (nI_add _ _) ?_
  refine hl_sld rfl (by omega) dL_law_1319 rfl (by omega) ?_
  refine cx_top e2 ?_
  refine hk_aload_n dL_law_1320 rfl rfl rfl ?_
  refine hl_callS dL_law_1321 rfl ls_L_180 (cl_claim (h := hm) hfl hA hj.I ho1 hoA) rfl rfl (by decide) ⟨by omega, by omega⟩ (Nat.le_of_ble_eq_true rfl) (hk_ki fun v1 h1 q1 => ?_) hk_nx
  refine hk_istore dL_law_1324 rfl (by decide) rfl ?_
  rcases q1 with ⟨z, rfl, f9, hf9, rfl⟩ | ⟨z, rfl, rfl⟩
  · skip
    have hR := hl_R1 (f1 := f9) (S' := S) hA hw hd ho hod
    obtain ⟨A9, thr9, -, -, hw1, -, -, -⟩ := id hR
    obtain ⟨fs1, hat1⟩ := hm_Wd_at hw1
    refine hk_aload_n dL_law_1326 rfl rfl rfl ?_
    refine hk_aload_n dL_law_1327 rfl rfl rfl ?_
    refine hk_iload dL_law_1328 rfl rfl ?_
    refine hk_iconst (v := nI 1) dL_law_1330 rfl (by decide) ?_
    refine hk_iadd dL_law_1331 rfl ?_
    refine cx_top (nI_add _ _) ?_
    refine hl_sld rfl (by omega) dL_law_1332 rfl (by omega) ?_
    refine cx_top e1 ?_
    refine hk_aload_n dL_law_1333 rfl rfl rfl ?_
    refine hk_iload dL_law_1334 rfl rfl ?_
    refine hk_iconst (v := nI 2) dL_law_1336 rfl (by decide) ?_
    refine hk_iadd dL_law_1337 rfl ?_
    refine cx_top (nI_add _ _) ?_
    refine hl_sld rfl (by omega) dL_law_1338 rfl (by omega) ?_
    refine cx_top e2 ?_
    refine hk_callV dL_law_1339 rfl mv_L_182 (cm_claim hfl hw1) rfl rfl hat1 rfl rfl (by decide) ⟨by omega, by omega⟩ (Nat.le_of_ble_eq_true rfl) (hk_ki fun v2 h2 q2 => ?_) hk_nx
    refine hk_istore dL_law_1342 rfl (by decide) rfl ?_
    obtain ⟨g2, hx2, q2⟩ := q2
    rcases q2 with ⟨z2, rfl, hw2⟩ | ⟨z2, hw2⟩
    · skip
      obtain ⟨hq2, hj2, hr2⟩ := st_claim hj ht z
      obtain ⟨hI2, ho3, hod3⟩ := hl_fin hR hx2 hw2 hq2
      obtain ⟨fs2, hat2⟩ := hm_Wd_at hw2
      refine hk_aload_n dL_law_1344 rfl rfl rfl ?_
      refine hk_callV dL_law_1345 rfl mv_L_128 (cm_thrown hfl hw2) rfl rfl hat2 rfl rfl (by decide) ⟨Nat.zero_le _, Nat.zero_le _⟩ (Nat.le_of_ble_eq_true rfl) (hk_ki fun v3 h3 q3 => ?_) hk_nx
      obtain ⟨rfl, rfl⟩ := q3
      refine hk_iload dL_law_1348 rfl rfl ?_
      refine hk_icmp_eq (tgt := 1355) dL_law_1350 (by decide) rfl (fun _ => ?_) (fun zz => absurd rfl zz)
      refine hk_iload dL_law_1355 rfl rfl ?_
      refine hk_if_ne (tgt := 1372) dL_law_1357 (by decide) rfl (fun zz => absurd rfl zz) (fun _ => ?_)
      refine hk_aload_n dL_law_1360 rfl rfl rfl ?_
      refine hk_iconst (v := nI 0) dL_law_1361 rfl (by decide) ?_
      refine hk_lald dL_law_1362 rfl ho3 (vp_in_nI (by decide) (by decide)) ?_
      refine cx_topl (show f9 (nI 0).toNatClampNeg = _ from hf9) ?_
      refine hk_iload dL_law_1363 rfl rfl ?_
      refine hk_i2l dL_law_1365 rfl ?_
      refine hk_lcmp dL_law_1366 rfl ?_
      refine hk_if_eq (tgt := 1372) dL_law_1367 (by decide) rfl (fun _ => ?_) (fun zz => absurd (lg_cmp_0.mpr (congrArg Int32.toInt64 hr2)) zz)
      refine hk_goto (tgt := 2285) dL_law_1372 (by decide) ?_
      exact hl_go KK (by omega) (by omega) hj2 hI2 (hl_lvle _ _ _)
    · exact absurd (ml_tr_z z) z2
  · skip
    have hR := hl_R0 (S' := S) hA hw hd ho hod
    obtain ⟨A9, thr9, -, -, hw1, -, -, -⟩ := id hR
    obtain ⟨fs1, hat1⟩ := hm_Wd_at hw1
    refine hk_aload_n dL_law_1326 rfl rfl rfl ?_
    refine hk_aload_n dL_law_1327 rfl rfl rfl ?_
    refine hk_iload dL_law_1328 rfl rfl ?_
    refine hk_iconst (v := nI 1) dL_law_1330 rfl (by decide) ?_
    refine hk_iadd dL_law_1331 rfl ?_
    refine cx_top (nI_add _ _) ?_
    refine hl_sld rfl (by omega) dL_law_1332 rfl (by omega) ?_
    refine cx_top e1 ?_
    refine hk_aload_n dL_law_1333 rfl rfl rfl ?_
    refine hk_iload dL_law_1334 rfl rfl ?_
    refine hk_iconst (v := nI 2) dL_law_1336 rfl (by decide) ?_
    refine hk_iadd dL_law_1337 rfl ?_
    refine cx_top (nI_add _ _) ?_
    refine hl_sld rfl (by omega) dL_law_1338 rfl (by omega) ?_
    refine cx_top e2 ?_
    refine hk_callV dL_law_1339 rfl mv_L_182 (cm_claim hfl hw1) rfl rfl hat1 rfl rfl (by decide) ⟨by omega, by omega⟩ (Nat.le_of_ble_eq_true rfl) (hk_ki fun v2 h2 q2 => ?_) hk_nx
    refine hk_istore dL_law_1342 rfl (by decide) rfl ?_
    obtain ⟨g2, hx2, q2⟩ := q2
    rcases q2 with ⟨z2, rfl, hw2⟩ | ⟨z2, hw2⟩
    · exact absurd z2 (ml_tr_p z (by decide)).1
    · skip
      obtain ⟨hI2, ho3, hod3⟩ := hl_fin hR hx2 hw2 hm_q.rf
      obtain ⟨fs2, hat2⟩ := hm_Wd_at hw2
      refine hk_aload_n dL_law_1344 rfl rfl rfl ?_
      refine hk_callV dL_law_1345 rfl mv_L_128 (cm_thrown hfl hw2) rfl rfl hat2 rfl rfl (by decide) ⟨Nat.zero_le _, Nat.zero_le _⟩ (Nat.le_of_ble_eq_true rfl) (hk_ki fun v3 h3 q3 => ?_) hk_nx
      obtain ⟨rfl, rfl⟩ := q3
      refine hk_iload dL_law_1348 rfl rfl ?_
      refine hk_icmp_eq (tgt := 1355) dL_law_1350 (by decide) rfl (fun _ => ?_) (fun zz => absurd rfl zz)
      refine hk_iload dL_law_1355 rfl rfl ?_
      refine hk_if_ne (tgt := 1372) dL_law_1357 (by decide) rfl (fun _ => ?_) (fun zz => absurd zz (nI_ne0 (Nat.pos_of_ne_zero (ml_tr_p z (by decide)).1) (ml_tr_p z (by decide)).2))
      refine hk_goto (tgt := 2285) dL_law_1372 (by decide) ?_
      exact hl_go KK (by omega) (by omega) (hj.up (Nat.le_succ t)) hI2 (hl_lvle _ _ _)
theorem lc_draw {w1 w2 w3 w4 u1 u2 u3 u4 : Int32} (hfl : l.stackTraces = false) (hj : hJ S c nc nb t) (ht : t < 512) (hL : 5 * t + 5 ≤ hk_K G 1101) (hw0 : hl_I G x m o od S c nc nb h) (hk : 220 ≤ k) (hn : 8000 ≤ n) (e1 : nI (hk_K G (4000 + (5 * t + 1))) = w1) (e2 : nI (hk_K G (4000 + (5 * t + 2))) = w2) (e3 : nI (hk_K G (4000 + (5 * t + 3))) = w3) (e4 : nI (hk_K G (4000 + (5 * t + 4))) = w4) (f1 : (w1.toUInt32 % 65536).toInt32 = u1) (f2 : (w2.toUInt32 % 65536).toInt32 = u2) (f3 : (w3.toUInt32 % 65536).toInt32 = u3) (f4 : (w4.toUInt32 % 65536).toInt32 = u4) (KK : hl_KK G l x m o od t (k - 220) (n - 8000)) : hk_W G l 12 yL_law cL_law 9 (some .boolean) [] hl_Qe hk_no k n h 1375 (hl_lv G x m o od t) [] := by
  obtain ⟨A, g, hm, thr, f, fd, hA, rfl, hw, hd, ho, hod, rfl⟩ := hw0
  unfold hl_lv
  obtain ⟨ho1, hoA⟩ := hl_oA hw hd ho
  refine hk_aload_n dL_law_1375 rfl rfl rfl ?_
  refine hk_aload_n dL_law_1376 rfl rfl rfl ?_
  refine hk_iload dL_law_1377 rfl rfl ?_
  refine hk_iconst (v := nI 1) dL_law_1379 rfl (by decide) ?_
  refine hk_iadd dL_law_1380 rfl ?_
  refine cx_top (nI_add _ _) ?_
  refine hl_sld rfl (by omega) dL_law_1381 rfl (by omega) ?_
  refine cx_top e1 ?_
  refine hk_aload_n dL_law_1382 rfl rfl rfl ?_
  refine hk_iload dL_law_1383 rfl rfl ?_
  refine hk_iconst (v := nI 2) dL_law_1385 rfl (by decide) ?_
  refine hk_iadd dL_law_1386 rfl ?_
  refine cx_top (nI_add _ _) ?_
  refine hl_sld rfl (by omega) dL_law_1387 rfl (by omega) ?_
  refine cx_top e2 ?_
  refine hk_aload_n dL_law_1388 rfl rfl rfl ?_
  refine hk_iload dL_law_1389 rfl rfl ?_
  refine hk_iconst (v := nI 3) dL_law_1391 rfl (by decide) ?_
  refine hk_iadd dL_law_1392 rfl ?_
  refine cx_top (nI_add _ _) ?_
  refine hl_sld rfl (by omega) dL_law_1393 rfl (by omega) ?_
  refine cx_top e3 ?_
  refine hk_aload_n dL_law_1394 rfl rfl rfl ?_
  refine hk_iload dL_law_1395 rfl rfl ?_
  refine hk_iconst (v := nI 4) dL_law_1397 rfl (by decide) ?_
  refine hk_iadd dL_law_1398 rfl ?_
  refine cx_top (nI_add _ _) ?_
  refine hl_sld rfl (by omega) dL_law_1399 rfl (by omega) ?_
  refine cx_top e4 ?_
  refine hk_aload_n dL_law_1400 rfl rfl rfl ?_
  refine hl_callS dL_law_1401 rfl ls_L_183 (cl_draw (h := hm) hfl hA hj.I ho1 hoA) rfl rfl (by decide) ⟨by omega, by omega⟩ (Nat.le_of_ble_eq_true rfl) (hk_ki fun v1 h1 q1 => ?_) hk_nx
  refine hk_istore dL_law_1404 rfl (by decide) rfl ?_
  rcases q1 with ⟨z, rfl, f9, hf9, rfl⟩ | ⟨z, rfl, rfl⟩
  · skip
    have hR := hl_R1 (f1 := f9) (S' := cs_write S nb w1 w2 w3 w4) hA hw hd ho hod
    obtain ⟨A9, thr9, -, -, hw1, -, -, -⟩ := id hR
    obtain ⟨fs1, hat1⟩ := hm_Wd_at hw1
    refine hk_aload_n dL_law_1406 rfl rfl rfl ?_
    refine hk_aload_n dL_law_1407 rfl rfl rfl ?_
    refine hk_iload dL_law_1408 rfl rfl ?_
    refine hk_iconst (v := nI 1) dL_law_1410 rfl (by decide) ?_
    refine hk_iadd dL_law_1411 rfl ?_
    refine cx_top (nI_add _ _) ?_
    refine hl_sld rfl (by omega) dL_law_1412 rfl (by omega) ?_
    refine cx_top e1 ?_
    refine hk_aload_n dL_law_1413 rfl rfl rfl ?_
    refine hk_iload dL_law_1414 rfl rfl ?_
    refine hk_iconst (v := nI 2) dL_law_1416 rfl (by decide) ?_
    refine hk_iadd dL_law_1417 rfl ?_
    refine cx_top (nI_add _ _) ?_
    refine hl_sld rfl (by omega) dL_law_1418 rfl (by omega) ?_
    refine cx_top e2 ?_
    refine hk_aload_n dL_law_1419 rfl rfl rfl ?_
    refine hk_iload dL_law_1420 rfl rfl ?_
    refine hk_iconst (v := nI 3) dL_law_1422 rfl (by decide) ?_
    refine hk_iadd dL_law_1423 rfl ?_
    refine cx_top (nI_add _ _) ?_
    refine hl_sld rfl (by omega) dL_law_1424 rfl (by omega) ?_
    refine cx_top e3 ?_
    refine hk_aload_n dL_law_1425 rfl rfl rfl ?_
    refine hk_iload dL_law_1426 rfl rfl ?_
    refine hk_iconst (v := nI 4) dL_law_1428 rfl (by decide) ?_
    refine hk_iadd dL_law_1429 rfl ?_
    refine cx_top (nI_add _ _) ?_
    refine hl_sld rfl (by omega) dL_law_1430 rfl (by omega) ?_
    refine cx_top e4 ?_
    refine hk_callV dL_law_1431 rfl mv_L_185 (cm_draw hfl hw1 hj.h26) rfl rfl hat1 rfl rfl (by decide) ⟨by omega, by omega⟩ (Nat.le_of_ble_eq_true rfl) (hk_ki fun v2 h2 q2 => ?_) hk_nx
    refine hk_istore dL_law_1434 rfl (by decide) rfl ?_
    obtain ⟨g2, hx2, q2⟩ := q2
    rcases q2 with ⟨z2, rfl, hw2⟩ | ⟨z2, hw2⟩
    · skip
      obtain ⟨hq2, hj2, hr2⟩ := st_draw hj ht z
      obtain ⟨hI2, ho3, hod3⟩ := hl_fin hR hx2 hw2 hq2
      obtain ⟨fs2, hat2⟩ := hm_Wd_at hw2
      refine hk_aload_n dL_law_1436 rfl rfl rfl ?_
      refine hk_callV dL_law_1437 rfl mv_L_128 (cm_thrown hfl hw2) rfl rfl hat2 rfl rfl (by decide) ⟨Nat.zero_le _, Nat.zero_le _⟩ (Nat.le_of_ble_eq_true rfl) (hk_ki fun v3 h3 q3 => ?_) hk_nx
      obtain ⟨rfl, rfl⟩ := q3
      refine hk_iload dL_law_1440 rfl rfl ?_
      refine hk_icmp_eq (tgt := 1447) dL_law_1442 (by decide) rfl (fun _ => ?_) (fun zz => absurd rfl zz)
      refine hk_iload dL_law_1447 rfl rfl ?_
      refine hk_if_ne (tgt := 1464) dL_law_1449 (by decide) rfl (fun zz => absurd rfl zz) (fun _ => ?_)
      refine hk_aload_n dL_law_1452 rfl rfl rfl ?_
      refine hk_iconst (v := nI 0) dL_law_1453 rfl (by decide) ?_
      refine hk_lald dL_law_1454 rfl ho3 (vp_in_nI (by decide) (by decide)) ?_
      refine cx_topl (show f9 (nI 0).toNatClampNeg = _ from hf9) ?_
      refine hk_iload dL_law_1455 rfl rfl ?_
      refine hk_i2l dL_law_1457 rfl ?_
      refine hk_lcmp dL_law_1458 rfl ?_
      refine hk_if_eq (tgt := 1464) dL_law_1459 (by decide) rfl (fun _ => ?_) (fun zz => absurd (lg_cmp_0.mpr (congrArg Int32.toInt64 hr2)) zz)
      refine hk_goto (tgt := 2285) dL_law_1464 (by decide) ?_
      exact hl_go KK (by omega) (by omega) hj2 hI2 (hl_lvle _ _ _)
    · exact absurd (ml_tr_z z) z2
  · skip
    have hR := hl_R0 (S' := S) hA hw hd ho hod
    obtain ⟨A9, thr9, -, -, hw1, -, -, -⟩ := id hR
    obtain ⟨fs1, hat1⟩ := hm_Wd_at hw1
    refine hk_aload_n dL_law_1406 rfl rfl rfl ?_
    refine hk_aload_n dL_law_1407 rfl rfl rfl ?_
    refine hk_iload dL_law_1408 rfl rfl ?_
    refine hk_iconst (v := nI 1) dL_law_1410 rfl (by decide) ?_
    refine hk_iadd dL_law_1411 rfl ?_
    refine cx_top (nI_add _ _) ?_
    refine hl_sld rfl (by omega) dL_law_1412 rfl (by omega) ?_
    refine cx_top e1 ?_
    refine hk_aload_n dL_law_1413 rfl rfl rfl ?_
    refine hk_iload dL_law_1414 rfl rfl ?_
    refine hk_iconst (v := nI 2) dL_law_1416 rfl (by decide) ?_
    refine hk_iadd dL_law_1417 rfl ?_
    refine cx_top (nI_add _ _) ?_
    refine hl_sld rfl (by omega) dL_law_1418 rfl (by omega) ?_
    refine cx_top e2 ?_
    refine hk_aload_n dL_law_1419 rfl rfl rfl ?_
    refine hk_iload dL_law_1420 rfl rfl ?_
    refine hk_iconst (v := nI 3) dL_law_1422 rfl (by decide) ?_
    refine hk_iadd dL_law_1423 rfl ?_
    refine cx_top (nI_add _ _) ?_
    refine hl_sld rfl (by omega) dL_law_1424 rfl (by omega) ?_
    refine cx_top e3 ?_
    refine hk_aload_n dL_law_1425 rfl rfl rfl ?_
    refine hk_iload dL_law_1426 rfl rfl ?_
    refine hk_iconst (v := nI 4) dL_law_1428 rfl (by decide) ?_
    refine hk_iadd dL_law_1429 rfl ?_
    refine cx_top (nI_add _ _) ?_
    refine hl_sld rfl (by omega) dL_law_1430 rfl (by omega) ?_
    refine cx_top e4 ?_
    refine hk_callV dL_law_1431 rfl mv_L_185 (cm_draw hfl hw1 hj.h26) rfl rfl hat1 rfl rfl (by decide) ⟨by omega, by omega⟩ (Nat.le_of_ble_eq_true rfl) (hk_ki fun v2 h2 q2 => ?_) hk_nx
    refine hk_istore dL_law_1434 rfl (by decide) rfl ?_
    obtain ⟨g2, hx2, q2⟩ := q2
    rcases q2 with ⟨z2, rfl, hw2⟩ | ⟨z2, hw2⟩
    · exact absurd z2 (ml_tr_p z (by decide)).1
    · skip
      obtain ⟨hI2, ho3, hod3⟩ := hl_fin hR hx2 hw2 hm_q.rf
      obtain ⟨fs2, hat2⟩ := hm_Wd_at hw2
      refine hk_aload_n dL_law_1436 rfl rfl rfl ?_
      refine hk_callV dL_law_1437 rfl mv_L_128 (cm_thrown hfl hw2) rfl rfl hat2 rfl rfl (by decide) ⟨Nat.zero_le _, Nat.zero_le _⟩ (Nat.le_of_ble_eq_true rfl) (hk_ki fun v3 h3 q3 => ?_) hk_nx
      obtain ⟨rfl, rfl⟩ := q3
      refine hk_iload dL_law_1440 rfl rfl ?_
      refine hk_icmp_eq (tgt := 1447) dL_law_1442 (by decide) rfl (fun _ => ?_) (fun zz => absurd rfl zz)
      refine hk_iload dL_law_1447 rfl rfl ?_
      refine hk_if_ne (tgt := 1464) dL_law_1449 (by decide) rfl (fun _ => ?_) (fun zz => absurd zz (nI_ne0 (Nat.pos_of_ne_zero (ml_tr_p z (by decide)).1) (ml_tr_p z (by decide)).2))
      refine hk_goto (tgt := 2285) dL_law_1464 (by decide) ?_
      exact hl_go KK (by omega) (by omega) (hj.up (Nat.le_succ t)) hI2 (hl_lvle _ _ _)
end LC3
