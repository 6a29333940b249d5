/-! ===== the law's code ===== -/
theorem dL_1156 : decode code 1156 = .ok (.aload_n 0, 1) := by decide +kernel
theorem dL_1157 : decode code 1157 = .ok (.iload_n 3, 1) := by decide +kernel
theorem dL_1158 : decode code 1158 = .ok (.iconst 1, 1) := by decide +kernel
theorem dL_1159 : decode code 1159 = .ok (.iadd, 1) := by decide +kernel
theorem dL_1160 : decode code 1160 = .ok (.iaload, 1) := by decide +kernel
theorem dL_1161 : decode code 1161 = .ok (.aload_n 0, 1) := by decide +kernel
theorem dL_1162 : decode code 1162 = .ok (.iload_n 3, 1) := by decide +kernel
theorem dL_1163 : decode code 1163 = .ok (.iconst 2, 1) := by decide +kernel
theorem dL_1164 : decode code 1164 = .ok (.iadd, 1) := by decide +kernel
theorem dL_1165 : decode code 1165 = .ok (.iaload, 1) := by decide +kernel
theorem dL_1166 : decode code 1166 = .ok (.aload_n 0, 1) := by decide +kernel
theorem dL_1167 : decode code 1167 = .ok (.iload_n 3, 1) := by decide +kernel
theorem dL_1168 : decode code 1168 = .ok (.iconst 3, 1) := by decide +kernel
theorem dL_1169 : decode code 1169 = .ok (.iadd, 1) := by decide +kernel
theorem dL_1170 : decode code 1170 = .ok (.iaload, 1) := by decide +kernel
theorem dL_1171 : decode code 1171 = .ok (.i2l, 1) := by decide +kernel
theorem dL_1172 : decode code 1172 = .ok (.bipush 32, 2) := by decide +kernel
theorem dL_1174 : decode code 1174 = .ok (.lshl, 1) := by decide +kernel
theorem dL_1175 : decode code 1175 = .ok (.aload_n 0, 1) := by decide +kernel
theorem dL_1176 : decode code 1176 = .ok (.iload_n 3, 1) := by decide +kernel
theorem dL_1177 : decode code 1177 = .ok (.iconst 4, 1) := by decide +kernel
theorem dL_1178 : decode code 1178 = .ok (.iadd, 1) := by decide +kernel
theorem dL_1179 : decode code 1179 = .ok (.iaload, 1) := by decide +kernel
theorem dL_1180 : decode code 1180 = .ok (.i2l, 1) := by decide +kernel
theorem dL_1181 : decode code 1181 = .ok (.ldc2_w 141, 3) := by decide +kernel
theorem dL_1184 : decode code 1184 = .ok (.land, 1) := by decide +kernel
theorem dL_1185 : decode code 1185 = .ok (.lor, 1) := by decide +kernel
theorem dL_1186 : decode code 1186 = .ok (.invokevirtual 143, 3) := by decide +kernel
theorem dL_1189 : decode code 1189 = .ok (.aload_n 2, 1) := by decide +kernel
theorem dL_1190 : decode code 1190 = .ok (.aload_n 0, 1) := by decide +kernel
theorem dL_1191 : decode code 1191 = .ok (.iload_n 3, 1) := by decide +kernel
theorem dL_1192 : decode code 1192 = .ok (.iconst 1, 1) := by decide +kernel
theorem dL_1193 : decode code 1193 = .ok (.iadd, 1) := by decide +kernel
theorem dL_1194 : decode code 1194 = .ok (.iaload, 1) := by decide +kernel
theorem dL_1195 : decode code 1195 = .ok (.aload_n 0, 1) := by decide +kernel
theorem dL_1196 : decode code 1196 = .ok (.iload_n 3, 1) := by decide +kernel
theorem dL_1197 : decode code 1197 = .ok (.iconst 2, 1) := by decide +kernel
theorem dL_1198 : decode code 1198 = .ok (.iadd, 1) := by decide +kernel
theorem dL_1199 : decode code 1199 = .ok (.iaload, 1) := by decide +kernel
theorem dL_1200 : decode code 1200 = .ok (.aload_n 0, 1) := by decide +kernel
theorem dL_1201 : decode code 1201 = .ok (.iload_n 3, 1) := by decide +kernel
theorem dL_1202 : decode code 1202 = .ok (.iconst 3, 1) := by decide +kernel
theorem dL_1203 : decode code 1203 = .ok (.iadd, 1) := by decide +kernel
theorem dL_1204 : decode code 1204 = .ok (.iaload, 1) := by decide +kernel
theorem dL_1205 : decode code 1205 = .ok (.i2l, 1) := by decide +kernel
theorem dL_1206 : decode code 1206 = .ok (.bipush 32, 2) := by decide +kernel
theorem dL_1208 : decode code 1208 = .ok (.lshl, 1) := by decide +kernel
theorem dL_1209 : decode code 1209 = .ok (.aload_n 0, 1) := by decide +kernel
theorem dL_1210 : decode code 1210 = .ok (.iload_n 3, 1) := by decide +kernel
theorem dL_1211 : decode code 1211 = .ok (.iconst 4, 1) := by decide +kernel
theorem dL_1212 : decode code 1212 = .ok (.iadd, 1) := by decide +kernel
theorem dL_1213 : decode code 1213 = .ok (.iaload, 1) := by decide +kernel
theorem dL_1214 : decode code 1214 = .ok (.i2l, 1) := by decide +kernel
theorem dL_1215 : decode code 1215 = .ok (.ldc2_w 141, 3) := by decide +kernel
theorem dL_1218 : decode code 1218 = .ok (.land, 1) := by decide +kernel
theorem dL_1219 : decode code 1219 = .ok (.lor, 1) := by decide +kernel
theorem dL_1220 : decode code 1220 = .ok (.invokevirtual 147, 3) := by decide +kernel
theorem dL_1223 : decode code 1223 = .ok (.lcmp, 1) := by decide +kernel
theorem dL_1224 : decode code 1224 = .ok (.ifCond .eq 242, 3) := by decide +kernel
theorem dL_1227 : decode code 1227 = .ok (.iconst 0, 1) := by decide +kernel
theorem dL_1228 : decode code 1228 = .ok (.ireturn, 1) := by decide +kernel
theorem dL_1229 : decode code 1229 = .ok (.aload_n 1, 1) := by decide +kernel
theorem dL_1230 : decode code 1230 = .ok (.aload_n 0, 1) := by decide +kernel
theorem dL_1231 : decode code 1231 = .ok (.iload_n 3, 1) := by decide +kernel
theorem dL_1232 : decode code 1232 = .ok (.iconst 1, 1) := by decide +kernel
theorem dL_1233 : decode code 1233 = .ok (.iadd, 1) := by decide +kernel
theorem dL_1234 : decode code 1234 = .ok (.iaload, 1) := by decide +kernel
theorem dL_1235 : decode code 1235 = .ok (.aload_n 0, 1) := by decide +kernel
theorem dL_1236 : decode code 1236 = .ok (.iload_n 3, 1) := by decide +kernel
theorem dL_1237 : decode code 1237 = .ok (.iconst 2, 1) := by decide +kernel
theorem dL_1238 : decode code 1238 = .ok (.iadd, 1) := by decide +kernel
theorem dL_1239 : decode code 1239 = .ok (.iaload, 1) := by decide +kernel
theorem dL_1240 : decode code 1240 = .ok (.aload_n 0, 1) := by decide +kernel
theorem dL_1241 : decode code 1241 = .ok (.iload_n 3, 1) := by decide +kernel
theorem dL_1242 : decode code 1242 = .ok (.iconst 3, 1) := by decide +kernel
theorem dL_1243 : decode code 1243 = .ok (.iadd, 1) := by decide +kernel
theorem dL_1244 : decode code 1244 = .ok (.iaload, 1) := by decide +kernel
theorem dL_1245 : decode code 1245 = .ok (.aload_n 0, 1) := by decide +kernel
theorem dL_1246 : decode code 1246 = .ok (.iload_n 3, 1) := by decide +kernel
theorem dL_1247 : decode code 1247 = .ok (.iconst 4, 1) := by decide +kernel
theorem dL_1248 : decode code 1248 = .ok (.iadd, 1) := by decide +kernel
theorem dL_1249 : decode code 1249 = .ok (.iaload, 1) := by decide +kernel
theorem dL_1250 : decode code 1250 = .ok (.aload_n 0, 1) := by decide +kernel
theorem dL_1251 : decode code 1251 = .ok (.iload_n 3, 1) := by decide +kernel
theorem dL_1252 : decode code 1252 = .ok (.iconst 5, 1) := by decide +kernel
theorem dL_1253 : decode code 1253 = .ok (.iadd, 1) := by decide +kernel
theorem dL_1254 : decode code 1254 = .ok (.iaload, 1) := by decide +kernel
theorem dL_1255 : decode code 1255 = .ok (.invokevirtual 148, 3) := by decide +kernel
theorem dL_1258 : decode code 1258 = .ok (.aload_n 2, 1) := by decide +kernel
theorem dL_1259 : decode code 1259 = .ok (.aload_n 0, 1) := by decide +kernel
theorem dL_1260 : decode code 1260 = .ok (.iload_n 3, 1) := by decide +kernel
theorem dL_1261 : decode code 1261 = .ok (.iconst 1, 1) := by decide +kernel
theorem dL_1262 : decode code 1262 = .ok (.iadd, 1) := by decide +kernel
theorem dL_1263 : decode code 1263 = .ok (.iaload, 1) := by decide +kernel
theorem dL_1264 : decode code 1264 = .ok (.aload_n 0, 1) := by decide +kernel
theorem dL_1265 : decode code 1265 = .ok (.iload_n 3, 1) := by decide +kernel
theorem dL_1266 : decode code 1266 = .ok (.iconst 2, 1) := by decide +kernel
theorem dL_1267 : decode code 1267 = .ok (.iadd, 1) := by decide +kernel
theorem dL_1268 : decode code 1268 = .ok (.iaload, 1) := by decide +kernel
theorem dL_1269 : decode code 1269 = .ok (.aload_n 0, 1) := by decide +kernel
theorem dL_1270 : decode code 1270 = .ok (.iload_n 3, 1) := by decide +kernel
theorem dL_1271 : decode code 1271 = .ok (.iconst 3, 1) := by decide +kernel
theorem dL_1272 : decode code 1272 = .ok (.iadd, 1) := by decide +kernel
theorem dL_1273 : decode code 1273 = .ok (.iaload, 1) := by decide +kernel
theorem dL_1274 : decode code 1274 = .ok (.aload_n 0, 1) := by decide +kernel
theorem dL_1275 : decode code 1275 = .ok (.iload_n 3, 1) := by decide +kernel
theorem dL_1276 : decode code 1276 = .ok (.iconst 4, 1) := by decide +kernel
theorem dL_1277 : decode code 1277 = .ok (.iadd, 1) := by decide +kernel
theorem dL_1278 : decode code 1278 = .ok (.iaload, 1) := by decide +kernel
theorem dL_1279 : decode code 1279 = .ok (.aload_n 0, 1) := by decide +kernel
theorem dL_1280 : decode code 1280 = .ok (.iload_n 3, 1) := by decide +kernel
theorem dL_1281 : decode code 1281 = .ok (.iconst 5, 1) := by decide +kernel
theorem dL_1282 : decode code 1282 = .ok (.iadd, 1) := by decide +kernel
theorem dL_1283 : decode code 1283 = .ok (.iaload, 1) := by decide +kernel
theorem dL_1284 : decode code 1284 = .ok (.invokevirtual 152, 3) := by decide +kernel
theorem dL_1287 : decode code 1287 = .ok (.if_icmp .eq 179, 3) := by decide +kernel
theorem dL_1290 : decode code 1290 = .ok (.iconst 0, 1) := by decide +kernel
theorem dL_1291 : decode code 1291 = .ok (.ireturn, 1) := by decide +kernel
theorem dL_1292 : decode code 1292 = .ok (.aload_n 1, 1) := by decide +kernel
theorem dL_1293 : decode code 1293 = .ok (.aload_n 0, 1) := by decide +kernel
theorem dL_1294 : decode code 1294 = .ok (.iload_n 3, 1) := by decide +kernel
theorem dL_1295 : decode code 1295 = .ok (.iconst 1, 1) := by decide +kernel
theorem dL_1296 : decode code 1296 = .ok (.iadd, 1) := by decide +kernel
theorem dL_1297 : decode code 1297 = .ok (.iaload, 1) := by decide +kernel
theorem dL_1298 : decode code 1298 = .ok (.invokevirtual 153, 3) := by decide +kernel
theorem dL_1301 : decode code 1301 = .ok (.aload_n 2, 1) := by decide +kernel
theorem dL_1302 : decode code 1302 = .ok (.aload_n 0, 1) := by decide +kernel
theorem dL_1303 : decode code 1303 = .ok (.iload_n 3, 1) := by decide +kernel
theorem dL_1304 : decode code 1304 = .ok (.iconst 1, 1) := by decide +kernel
theorem dL_1305 : decode code 1305 = .ok (.iadd, 1) := by decide +kernel
theorem dL_1306 : decode code 1306 = .ok (.iaload, 1) := by decide +kernel
theorem dL_1307 : decode code 1307 = .ok (.invokevirtual 156, 3) := by decide +kernel
theorem dL_1310 : decode code 1310 = .ok (.if_icmp .eq 156, 3) := by decide +kernel
theorem dL_1313 : decode code 1313 = .ok (.iconst 0, 1) := by decide +kernel
theorem dL_1314 : decode code 1314 = .ok (.ireturn, 1) := by decide +kernel
theorem dL_1315 : decode code 1315 = .ok (.aload_n 1, 1) := by decide +kernel
theorem dL_1316 : decode code 1316 = .ok (.aload_n 0, 1) := by decide +kernel
theorem dL_1317 : decode code 1317 = .ok (.iload_n 3, 1) := by decide +kernel
theorem dL_1318 : decode code 1318 = .ok (.iconst 1, 1) := by decide +kernel
theorem dL_1319 : decode code 1319 = .ok (.iadd, 1) := by decide +kernel
theorem dL_1320 : decode code 1320 = .ok (.iaload, 1) := by decide +kernel
theorem dL_1321 : decode code 1321 = .ok (.aload_n 0, 1) := by decide +kernel
theorem dL_1322 : decode code 1322 = .ok (.iload_n 3, 1) := by decide +kernel
theorem dL_1323 : decode code 1323 = .ok (.iconst 2, 1) := by decide +kernel
theorem dL_1324 : decode code 1324 = .ok (.iadd, 1) := by decide +kernel
theorem dL_1325 : decode code 1325 = .ok (.iaload, 1) := by decide +kernel
theorem dL_1326 : decode code 1326 = .ok (.invokevirtual 157, 3) := by decide +kernel
theorem dL_1329 : decode code 1329 = .ok (.aload_n 2, 1) := by decide +kernel
theorem dL_1330 : decode code 1330 = .ok (.aload_n 0, 1) := by decide +kernel
theorem dL_1331 : decode code 1331 = .ok (.iload_n 3, 1) := by decide +kernel
theorem dL_1332 : decode code 1332 = .ok (.iconst 1, 1) := by decide +kernel
theorem dL_1333 : decode code 1333 = .ok (.iadd, 1) := by decide +kernel
theorem dL_1334 : decode code 1334 = .ok (.iaload, 1) := by decide +kernel
theorem dL_1335 : decode code 1335 = .ok (.aload_n 0, 1) := by decide +kernel
theorem dL_1336 : decode code 1336 = .ok (.iload_n 3, 1) := by decide +kernel
theorem dL_1337 : decode code 1337 = .ok (.iconst 2, 1) := by decide +kernel
theorem dL_1338 : decode code 1338 = .ok (.iadd, 1) := by decide +kernel
theorem dL_1339 : decode code 1339 = .ok (.iaload, 1) := by decide +kernel
theorem dL_1340 : decode code 1340 = .ok (.invokevirtual 160, 3) := by decide +kernel
theorem dL_1343 : decode code 1343 = .ok (.if_icmp .eq 123, 3) := by decide +kernel
theorem dL_1346 : decode code 1346 = .ok (.iconst 0, 1) := by decide +kernel
theorem dL_1347 : decode code 1347 = .ok (.ireturn, 1) := by decide +kernel
theorem dL_1348 : decode code 1348 = .ok (.aload_n 1, 1) := by decide +kernel
theorem dL_1349 : decode code 1349 = .ok (.aload_n 0, 1) := by decide +kernel
theorem dL_1350 : decode code 1350 = .ok (.iload_n 3, 1) := by decide +kernel
theorem dL_1351 : decode code 1351 = .ok (.iconst 1, 1) := by decide +kernel
theorem dL_1352 : decode code 1352 = .ok (.iadd, 1) := by decide +kernel
theorem dL_1353 : decode code 1353 = .ok (.iaload, 1) := by decide +kernel
theorem dL_1354 : decode code 1354 = .ok (.aload_n 0, 1) := by decide +kernel
theorem dL_1355 : decode code 1355 = .ok (.iload_n 3, 1) := by decide +kernel
theorem dL_1356 : decode code 1356 = .ok (.iconst 2, 1) := by decide +kernel
theorem dL_1357 : decode code 1357 = .ok (.iadd, 1) := by decide +kernel
theorem dL_1358 : decode code 1358 = .ok (.iaload, 1) := by decide +kernel
theorem dL_1359 : decode code 1359 = .ok (.invokevirtual 161, 3) := by decide +kernel
theorem dL_1362 : decode code 1362 = .ok (.aload_n 2, 1) := by decide +kernel
theorem dL_1363 : decode code 1363 = .ok (.aload_n 0, 1) := by decide +kernel
theorem dL_1364 : decode code 1364 = .ok (.iload_n 3, 1) := by decide +kernel
theorem dL_1365 : decode code 1365 = .ok (.iconst 1, 1) := by decide +kernel
theorem dL_1366 : decode code 1366 = .ok (.iadd, 1) := by decide +kernel
theorem dL_1367 : decode code 1367 = .ok (.iaload, 1) := by decide +kernel
theorem dL_1368 : decode code 1368 = .ok (.aload_n 0, 1) := by decide +kernel
theorem dL_1369 : decode code 1369 = .ok (.iload_n 3, 1) := by decide +kernel
theorem dL_1370 : decode code 1370 = .ok (.iconst 2, 1) := by decide +kernel
theorem dL_1371 : decode code 1371 = .ok (.iadd, 1) := by decide +kernel
theorem dL_1372 : decode code 1372 = .ok (.iaload, 1) := by decide +kernel
theorem dL_1373 : decode code 1373 = .ok (.invokevirtual 164, 3) := by decide +kernel
theorem dL_1376 : decode code 1376 = .ok (.if_icmp .eq 90, 3) := by decide +kernel
theorem dL_1379 : decode code 1379 = .ok (.iconst 0, 1) := by decide +kernel
theorem dL_1380 : decode code 1380 = .ok (.ireturn, 1) := by decide +kernel
theorem dL_1381 : decode code 1381 = .ok (.aload_n 1, 1) := by decide +kernel
theorem dL_1382 : decode code 1382 = .ok (.invokevirtual 165, 3) := by decide +kernel
theorem dL_1385 : decode code 1385 = .ok (.aload_n 2, 1) := by decide +kernel
theorem dL_1386 : decode code 1386 = .ok (.invokevirtual 168, 3) := by decide +kernel
theorem dL_1389 : decode code 1389 = .ok (.if_icmp .eq 77, 3) := by decide +kernel
theorem dL_1392 : decode code 1392 = .ok (.iconst 0, 1) := by decide +kernel
theorem dL_1393 : decode code 1393 = .ok (.ireturn, 1) := by decide +kernel
theorem dL_1394 : decode code 1394 = .ok (.aload_n 1, 1) := by decide +kernel
theorem dL_1395 : decode code 1395 = .ok (.invokevirtual 169, 3) := by decide +kernel
theorem dL_1398 : decode code 1398 = .ok (.aload_n 2, 1) := by decide +kernel
theorem dL_1399 : decode code 1399 = .ok (.invokevirtual 172, 3) := by decide +kernel
theorem dL_1402 : decode code 1402 = .ok (.if_icmp .eq 64, 3) := by decide +kernel
theorem dL_1405 : decode code 1405 = .ok (.iconst 0, 1) := by decide +kernel
theorem dL_1406 : decode code 1406 = .ok (.ireturn, 1) := by decide +kernel
theorem dL_1407 : decode code 1407 = .ok (.aload_n 1, 1) := by decide +kernel
theorem dL_1408 : decode code 1408 = .ok (.invokevirtual 173, 3) := by decide +kernel
theorem dL_1411 : decode code 1411 = .ok (.aload_n 2, 1) := by decide +kernel
theorem dL_1412 : decode code 1412 = .ok (.invokevirtual 176, 3) := by decide +kernel
theorem dL_1415 : decode code 1415 = .ok (.if_icmp .eq 51, 3) := by decide +kernel
theorem dL_1418 : decode code 1418 = .ok (.iconst 0, 1) := by decide +kernel
theorem dL_1419 : decode code 1419 = .ok (.ireturn, 1) := by decide +kernel
theorem dL_1420 : decode code 1420 = .ok (.aload_n 1, 1) := by decide +kernel
theorem dL_1421 : decode code 1421 = .ok (.aload_n 0, 1) := by decide +kernel
theorem dL_1422 : decode code 1422 = .ok (.iload_n 3, 1) := by decide +kernel
theorem dL_1423 : decode code 1423 = .ok (.iconst 1, 1) := by decide +kernel
theorem dL_1424 : decode code 1424 = .ok (.iadd, 1) := by decide +kernel
theorem dL_1425 : decode code 1425 = .ok (.iaload, 1) := by decide +kernel
theorem dL_1426 : decode code 1426 = .ok (.invokevirtual 177, 3) := by decide +kernel
theorem dL_1429 : decode code 1429 = .ok (.aload_n 2, 1) := by decide +kernel
theorem dL_1430 : decode code 1430 = .ok (.aload_n 0, 1) := by decide +kernel
theorem dL_1431 : decode code 1431 = .ok (.iload_n 3, 1) := by decide +kernel
theorem dL_1432 : decode code 1432 = .ok (.iconst 1, 1) := by decide +kernel
theorem dL_1433 : decode code 1433 = .ok (.iadd, 1) := by decide +kernel
theorem dL_1434 : decode code 1434 = .ok (.iaload, 1) := by decide +kernel
theorem dL_1435 : decode code 1435 = .ok (.invokevirtual 180, 3) := by decide +kernel
theorem dL_1438 : decode code 1438 = .ok (.if_icmp .eq 28, 3) := by decide +kernel
theorem dL_1441 : decode code 1441 = .ok (.iconst 0, 1) := by decide +kernel
theorem dL_1442 : decode code 1442 = .ok (.ireturn, 1) := by decide +kernel
theorem dL_1443 : decode code 1443 = .ok (.aload_n 1, 1) := by decide +kernel
theorem dL_1444 : decode code 1444 = .ok (.aload_n 0, 1) := by decide +kernel
theorem dL_1445 : decode code 1445 = .ok (.iload_n 3, 1) := by decide +kernel
theorem dL_1446 : decode code 1446 = .ok (.iconst 1, 1) := by decide +kernel
theorem dL_1447 : decode code 1447 = .ok (.iadd, 1) := by decide +kernel
theorem dL_1448 : decode code 1448 = .ok (.iaload, 1) := by decide +kernel
theorem dL_1449 : decode code 1449 = .ok (.invokevirtual 181, 3) := by decide +kernel
theorem dL_1452 : decode code 1452 = .ok (.aload_n 2, 1) := by decide +kernel
theorem dL_1453 : decode code 1453 = .ok (.aload_n 0, 1) := by decide +kernel
theorem dL_1454 : decode code 1454 = .ok (.iload_n 3, 1) := by decide +kernel
theorem dL_1455 : decode code 1455 = .ok (.iconst 1, 1) := by decide +kernel
theorem dL_1456 : decode code 1456 = .ok (.iadd, 1) := by decide +kernel
theorem dL_1457 : decode code 1457 = .ok (.iaload, 1) := by decide +kernel
theorem dL_1458 : decode code 1458 = .ok (.invokevirtual 184, 3) := by decide +kernel
theorem dL_1461 : decode code 1461 = .ok (.if_icmp .eq 5, 3) := by decide +kernel
theorem dL_1464 : decode code 1464 = .ok (.iconst 0, 1) := by decide +kernel
theorem dL_1465 : decode code 1465 = .ok (.ireturn, 1) := by decide +kernel
theorem dL_1466 : decode code 1466 = .ok (.iinc 3 6, 3) := by decide +kernel
theorem dL_1469 : decode code 1469 = .ok (.goto (-1451), 3) := by decide +kernel
theorem dL_1472 : decode code 1472 = .ok (.iconst 1, 1) := by decide +kernel
theorem dL_1473 : decode code 1473 = .ok (.ireturn, 1) := by decide +kernel
