theorem dL_law_1189 : decode code 1189 = .ok (.iaload, 1) := by decide +kernel
theorem dL_law_1190 : decode code 1190 = .ok (.invokevirtual 153, 3) := by decide +kernel
theorem dL_law_1193 : decode code 1193 = .ok (.aload_n 2, 1) := by decide +kernel
theorem dL_law_1194 : decode code 1194 = .ok (.aload_n 0, 1) := by decide +kernel
theorem dL_law_1195 : decode code 1195 = .ok (.iload 4, 2) := by decide +kernel
theorem dL_law_1197 : decode code 1197 = .ok (.iconst 1, 1) := by decide +kernel
theorem dL_law_1198 : decode code 1198 = .ok (.iadd, 1) := by decide +kernel
theorem dL_law_1199 : decode code 1199 = .ok (.iaload, 1) := by decide +kernel
theorem dL_law_1200 : decode code 1200 = .ok (.invokevirtual 156, 3) := by decide +kernel
theorem dL_law_1203 : decode code 1203 = .ok (.if_icmp .eq 473, 3) := by decide +kernel
theorem dL_law_1206 : decode code 1206 = .ok (.iconst 0, 1) := by decide +kernel
theorem dL_law_1207 : decode code 1207 = .ok (.ireturn, 1) := by decide +kernel
theorem dL_law_1208 : decode code 1208 = .ok (.aload_n 1, 1) := by decide +kernel
theorem dL_law_1209 : decode code 1209 = .ok (.aload_n 0, 1) := by decide +kernel
theorem dL_law_1210 : decode code 1210 = .ok (.iload 4, 2) := by decide +kernel
theorem dL_law_1212 : decode code 1212 = .ok (.iconst 1, 1) := by decide +kernel
theorem dL_law_1213 : decode code 1213 = .ok (.iadd, 1) := by decide +kernel
theorem dL_law_1214 : decode code 1214 = .ok (.iaload, 1) := by decide +kernel
theorem dL_law_1215 : decode code 1215 = .ok (.invokevirtual 157, 3) := by decide +kernel
theorem dL_law_1218 : decode code 1218 = .ok (.aload_n 2, 1) := by decide +kernel
theorem dL_law_1219 : decode code 1219 = .ok (.aload_n 0, 1) := by decide +kernel
theorem dL_law_1220 : decode code 1220 = .ok (.iload 4, 2) := by decide +kernel
theorem dL_law_1222 : decode code 1222 = .ok (.iconst 1, 1) := by decide +kernel
theorem dL_law_1223 : decode code 1223 = .ok (.iadd, 1) := by decide +kernel
theorem dL_law_1224 : decode code 1224 = .ok (.iaload, 1) := by decide +kernel
theorem dL_law_1225 : decode code 1225 = .ok (.invokevirtual 160, 3) := by decide +kernel
theorem dL_law_1228 : decode code 1228 = .ok (.if_icmp .eq 448, 3) := by decide +kernel
theorem dL_law_1231 : decode code 1231 = .ok (.iconst 0, 1) := by decide +kernel
theorem dL_law_1232 : decode code 1232 = .ok (.ireturn, 1) := by decide +kernel
theorem dL_law_1233 : decode code 1233 = .ok (.aload_n 1, 1) := by decide +kernel
theorem dL_law_1234 : decode code 1234 = .ok (.aload_n 0, 1) := by decide +kernel
theorem dL_law_1235 : decode code 1235 = .ok (.iload 4, 2) := by decide +kernel
theorem dL_law_1237 : decode code 1237 = .ok (.iconst 1, 1) := by decide +kernel
theorem dL_law_1238 : decode code 1238 = .ok (.iadd, 1) := by decide +kernel
theorem dL_law_1239 : decode code 1239 = .ok (.iaload, 1) := by decide +kernel
theorem dL_law_1240 : decode code 1240 = .ok (.invokevirtual 161, 3) := by decide +kernel
theorem dL_law_1243 : decode code 1243 = .ok (.aload_n 2, 1) := by decide +kernel
theorem dL_law_1244 : decode code 1244 = .ok (.aload_n 0, 1) := by decide +kernel
theorem dL_law_1245 : decode code 1245 = .ok (.iload 4, 2) := by decide +kernel
theorem dL_law_1247 : decode code 1247 = .ok (.iconst 1, 1) := by decide +kernel
theorem dL_law_1248 : decode code 1248 = .ok (.iadd, 1) := by decide +kernel
theorem dL_law_1249 : decode code 1249 = .ok (.iaload, 1) := by decide +kernel
theorem dL_law_1250 : decode code 1250 = .ok (.invokevirtual 164, 3) := by decide +kernel
theorem dL_law_1253 : decode code 1253 = .ok (.if_icmp .eq 423, 3) := by decide +kernel
theorem dL_law_1256 : decode code 1256 = .ok (.iconst 0, 1) := by decide +kernel
theorem dL_law_1257 : decode code 1257 = .ok (.ireturn, 1) := by decide +kernel
theorem dL_law_1258 : decode code 1258 = .ok (.aload_n 1, 1) := by decide +kernel
theorem dL_law_1259 : decode code 1259 = .ok (.aload_n 0, 1) := by decide +kernel
theorem dL_law_1260 : decode code 1260 = .ok (.iload 4, 2) := by decide +kernel
theorem dL_law_1262 : decode code 1262 = .ok (.iconst 1, 1) := by decide +kernel
theorem dL_law_1263 : decode code 1263 = .ok (.iadd, 1) := by decide +kernel
theorem dL_law_1264 : decode code 1264 = .ok (.iaload, 1) := by decide +kernel
theorem dL_law_1265 : decode code 1265 = .ok (.invokevirtual 165, 3) := by decide +kernel
theorem dL_law_1268 : decode code 1268 = .ok (.aload_n 2, 1) := by decide +kernel
theorem dL_law_1269 : decode code 1269 = .ok (.aload_n 0, 1) := by decide +kernel
theorem dL_law_1270 : decode code 1270 = .ok (.iload 4, 2) := by decide +kernel
theorem dL_law_1272 : decode code 1272 = .ok (.iconst 1, 1) := by decide +kernel
theorem dL_law_1273 : decode code 1273 = .ok (.iadd, 1) := by decide +kernel
theorem dL_law_1274 : decode code 1274 = .ok (.iaload, 1) := by decide +kernel
theorem dL_law_1275 : decode code 1275 = .ok (.invokevirtual 168, 3) := by decide +kernel
theorem dL_law_1278 : decode code 1278 = .ok (.if_icmp .eq 398, 3) := by decide +kernel
theorem dL_law_1281 : decode code 1281 = .ok (.iconst 0, 1) := by decide +kernel
theorem dL_law_1282 : decode code 1282 = .ok (.ireturn, 1) := by decide +kernel
theorem dL_law_1283 : decode code 1283 = .ok (.aload_n 1, 1) := by decide +kernel
theorem dL_law_1284 : decode code 1284 = .ok (.aload_n 0, 1) := by decide +kernel
theorem dL_law_1285 : decode code 1285 = .ok (.iload 4, 2) := by decide +kernel
theorem dL_law_1287 : decode code 1287 = .ok (.iconst 1, 1) := by decide +kernel
theorem dL_law_1288 : decode code 1288 = .ok (.iadd, 1) := by decide +kernel
theorem dL_law_1289 : decode code 1289 = .ok (.iaload, 1) := by decide +kernel
theorem dL_law_1290 : decode code 1290 = .ok (.invokevirtual 169, 3) := by decide +kernel
theorem dL_law_1293 : decode code 1293 = .ok (.aload_n 2, 1) := by decide +kernel
theorem dL_law_1294 : decode code 1294 = .ok (.aload_n 0, 1) := by decide +kernel
theorem dL_law_1295 : decode code 1295 = .ok (.iload 4, 2) := by decide +kernel
theorem dL_law_1297 : decode code 1297 = .ok (.iconst 1, 1) := by decide +kernel
theorem dL_law_1298 : decode code 1298 = .ok (.iadd, 1) := by decide +kernel
theorem dL_law_1299 : decode code 1299 = .ok (.iaload, 1) := by decide +kernel
theorem dL_law_1300 : decode code 1300 = .ok (.invokevirtual 172, 3) := by decide +kernel
theorem dL_law_1303 : decode code 1303 = .ok (.if_icmp .eq 373, 3) := by decide +kernel
theorem dL_law_1306 : decode code 1306 = .ok (.iconst 0, 1) := by decide +kernel
theorem dL_law_1307 : decode code 1307 = .ok (.ireturn, 1) := by decide +kernel
theorem dL_law_1308 : decode code 1308 = .ok (.aload_n 1, 1) := by decide +kernel
theorem dL_law_1309 : decode code 1309 = .ok (.aload_n 0, 1) := by decide +kernel
theorem dL_law_1310 : decode code 1310 = .ok (.iload 4, 2) := by decide +kernel
theorem dL_law_1312 : decode code 1312 = .ok (.iconst 1, 1) := by decide +kernel
theorem dL_law_1313 : decode code 1313 = .ok (.iadd, 1) := by decide +kernel
theorem dL_law_1314 : decode code 1314 = .ok (.iaload, 1) := by decide +kernel
theorem dL_law_1315 : decode code 1315 = .ok (.invokevirtual 173, 3) := by decide +kernel
theorem dL_law_1318 : decode code 1318 = .ok (.aload_n 2, 1) := by decide +kernel
theorem dL_law_1319 : decode code 1319 = .ok (.aload_n 0, 1) := by decide +kernel
theorem dL_law_1320 : decode code 1320 = .ok (.iload 4, 2) := by decide +kernel
theorem dL_law_1322 : decode code 1322 = .ok (.iconst 1, 1) := by decide +kernel
theorem dL_law_1323 : decode code 1323 = .ok (.iadd, 1) := by decide +kernel
theorem dL_law_1324 : decode code 1324 = .ok (.iaload, 1) := by decide +kernel
theorem dL_law_1325 : decode code 1325 = .ok (.invokevirtual 176, 3) := by decide +kernel
theorem dL_law_1328 : decode code 1328 = .ok (.if_icmp .eq 348, 3) := by decide +kernel
theorem dL_law_1331 : decode code 1331 = .ok (.iconst 0, 1) := by decide +kernel
theorem dL_law_1332 : decode code 1332 = .ok (.ireturn, 1) := by decide +kernel
theorem dL_law_1333 : decode code 1333 = .ok (.aload_n 1, 1) := by decide +kernel
theorem dL_law_1334 : decode code 1334 = .ok (.aload_n 0, 1) := by decide +kernel
theorem dL_law_1335 : decode code 1335 = .ok (.iload 4, 2) := by decide +kernel
theorem dL_law_1337 : decode code 1337 = .ok (.iconst 1, 1) := by decide +kernel
theorem dL_law_1338 : decode code 1338 = .ok (.iadd, 1) := by decide +kernel
theorem dL_law_1339 : decode code 1339 = .ok (.iaload, 1) := by decide +kernel
theorem dL_law_1340 : decode code 1340 = .ok (.aload_n 0, 1) := by decide +kernel
theorem dL_law_1341 : decode code 1341 = .ok (.iload 4, 2) := by decide +kernel
theorem dL_law_1343 : decode code 1343 = .ok (.iconst 2, 1) := by decide +kernel
theorem dL_law_1344 : decode code 1344 = .ok (.iadd, 1) := by decide +kernel
theorem dL_law_1345 : decode code 1345 = .ok (.iaload, 1) := by decide +kernel
theorem dL_law_1346 : decode code 1346 = .ok (.invokevirtual 177, 3) := by decide +kernel
theorem dL_law_1349 : decode code 1349 = .ok (.aload_n 2, 1) := by decide +kernel
theorem dL_law_1350 : decode code 1350 = .ok (.aload_n 0, 1) := by decide +kernel
theorem dL_law_1351 : decode code 1351 = .ok (.iload 4, 2) := by decide +kernel
theorem dL_law_1353 : decode code 1353 = .ok (.iconst 1, 1) := by decide +kernel
theorem dL_law_1354 : decode code 1354 = .ok (.iadd, 1) := by decide +kernel
theorem dL_law_1355 : decode code 1355 = .ok (.iaload, 1) := by decide +kernel
theorem dL_law_1356 : decode code 1356 = .ok (.aload_n 0, 1) := by decide +kernel
theorem dL_law_1357 : decode code 1357 = .ok (.iload 4, 2) := by decide +kernel
theorem dL_law_1359 : decode code 1359 = .ok (.iconst 2, 1) := by decide +kernel
theorem dL_law_1360 : decode code 1360 = .ok (.iadd, 1) := by decide +kernel
theorem dL_law_1361 : decode code 1361 = .ok (.iaload, 1) := by decide +kernel
theorem dL_law_1362 : decode code 1362 = .ok (.invokevirtual 180, 3) := by decide +kernel
theorem dL_law_1365 : decode code 1365 = .ok (.if_icmp .eq 311, 3) := by decide +kernel
theorem dL_law_1368 : decode code 1368 = .ok (.iconst 0, 1) := by decide +kernel
theorem dL_law_1369 : decode code 1369 = .ok (.ireturn, 1) := by decide +kernel
theorem dL_law_1370 : decode code 1370 = .ok (.aload_n 1, 1) := by decide +kernel
theorem dL_law_1371 : decode code 1371 = .ok (.invokevirtual 181, 3) := by decide +kernel
theorem dL_law_1374 : decode code 1374 = .ok (.aload_n 2, 1) := by decide +kernel
theorem dL_law_1375 : decode code 1375 = .ok (.invokevirtual 184, 3) := by decide +kernel
theorem dL_law_1378 : decode code 1378 = .ok (.if_icmp .eq 298, 3) := by decide +kernel
theorem dL_law_1381 : decode code 1381 = .ok (.iconst 0, 1) := by decide +kernel
theorem dL_law_1382 : decode code 1382 = .ok (.ireturn, 1) := by decide +kernel
theorem dL_law_1383 : decode code 1383 = .ok (.aload_n 1, 1) := by decide +kernel
theorem dL_law_1384 : decode code 1384 = .ok (.aload_n 0, 1) := by decide +kernel
theorem dL_law_1385 : decode code 1385 = .ok (.iload 4, 2) := by decide +kernel
theorem dL_law_1387 : decode code 1387 = .ok (.iconst 1, 1) := by decide +kernel
theorem dL_law_1388 : decode code 1388 = .ok (.iadd, 1) := by decide +kernel
theorem dL_law_1389 : decode code 1389 = .ok (.iaload, 1) := by decide +kernel
theorem dL_law_1390 : decode code 1390 = .ok (.invokevirtual 185, 3) := by decide +kernel
theorem dL_law_1393 : decode code 1393 = .ok (.aload_n 2, 1) := by decide +kernel
theorem dL_law_1394 : decode code 1394 = .ok (.aload_n 0, 1) := by decide +kernel
theorem dL_law_1395 : decode code 1395 = .ok (.iload 4, 2) := by decide +kernel
theorem dL_law_1397 : decode code 1397 = .ok (.iconst 1, 1) := by decide +kernel
theorem dL_law_1398 : decode code 1398 = .ok (.iadd, 1) := by decide +kernel
theorem dL_law_1399 : decode code 1399 = .ok (.iaload, 1) := by decide +kernel
theorem dL_law_1400 : decode code 1400 = .ok (.invokevirtual 188, 3) := by decide +kernel
theorem dL_law_1403 : decode code 1403 = .ok (.if_icmp .eq 273, 3) := by decide +kernel
theorem dL_law_1406 : decode code 1406 = .ok (.iconst 0, 1) := by decide +kernel
theorem dL_law_1407 : decode code 1407 = .ok (.ireturn, 1) := by decide +kernel
theorem dL_law_1408 : decode code 1408 = .ok (.aload_n 1, 1) := by decide +kernel
theorem dL_law_1409 : decode code 1409 = .ok (.aload_n 0, 1) := by decide +kernel
theorem dL_law_1410 : decode code 1410 = .ok (.iload 4, 2) := by decide +kernel
theorem dL_law_1412 : decode code 1412 = .ok (.iconst 1, 1) := by decide +kernel
theorem dL_law_1413 : decode code 1413 = .ok (.iadd, 1) := by decide +kernel
theorem dL_law_1414 : decode code 1414 = .ok (.iaload, 1) := by decide +kernel
theorem dL_law_1415 : decode code 1415 = .ok (.invokevirtual 189, 3) := by decide +kernel
theorem dL_law_1418 : decode code 1418 = .ok (.aload_n 2, 1) := by decide +kernel
theorem dL_law_1419 : decode code 1419 = .ok (.aload_n 0, 1) := by decide +kernel
theorem dL_law_1420 : decode code 1420 = .ok (.iload 4, 2) := by decide +kernel
theorem dL_law_1422 : decode code 1422 = .ok (.iconst 1, 1) := by decide +kernel
theorem dL_law_1423 : decode code 1423 = .ok (.iadd, 1) := by decide +kernel
theorem dL_law_1424 : decode code 1424 = .ok (.iaload, 1) := by decide +kernel
theorem dL_law_1425 : decode code 1425 = .ok (.invokevirtual 192, 3) := by decide +kernel
theorem dL_law_1428 : decode code 1428 = .ok (.if_icmp .eq 248, 3) := by decide +kernel
theorem dL_law_1431 : decode code 1431 = .ok (.iconst 0, 1) := by decide +kernel
theorem dL_law_1432 : decode code 1432 = .ok (.ireturn, 1) := by decide +kernel
theorem dL_law_1433 : decode code 1433 = .ok (.aload_n 1, 1) := by decide +kernel
theorem dL_law_1434 : decode code 1434 = .ok (.aload_n 0, 1) := by decide +kernel
theorem dL_law_1435 : decode code 1435 = .ok (.iload 4, 2) := by decide +kernel
theorem dL_law_1437 : decode code 1437 = .ok (.iconst 1, 1) := by decide +kernel
theorem dL_law_1438 : decode code 1438 = .ok (.iadd, 1) := by decide +kernel
