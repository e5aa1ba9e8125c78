theorem d_W_law_1198 : decode b_W_law 1198 = .ok (.iload 5, 2) := by decide +kernel
theorem d_W_law_1200 : decode b_W_law 1200 = .ok (.if_icmp .eq 5, 3) := by decide +kernel
theorem d_W_law_1203 : decode b_W_law 1203 = .ok (.iconst 0, 1) := by decide +kernel
theorem d_W_law_1204 : decode b_W_law 1204 = .ok (.ireturn, 1) := by decide +kernel
theorem d_W_law_1205 : decode b_W_law 1205 = .ok (.iload 5, 2) := by decide +kernel
theorem d_W_law_1207 : decode b_W_law 1207 = .ok (.ifCond .ne 15, 3) := by decide +kernel
theorem d_W_law_1210 : decode b_W_law 1210 = .ok (.aload_n 3, 1) := by decide +kernel
theorem d_W_law_1211 : decode b_W_law 1211 = .ok (.iconst 0, 1) := by decide +kernel
theorem d_W_law_1212 : decode b_W_law 1212 = .ok (.laload, 1) := by decide +kernel
theorem d_W_law_1213 : decode b_W_law 1213 = .ok (.iload 6, 2) := by decide +kernel
theorem d_W_law_1215 : decode b_W_law 1215 = .ok (.i2l, 1) := by decide +kernel
theorem d_W_law_1216 : decode b_W_law 1216 = .ok (.lcmp, 1) := by decide +kernel
theorem d_W_law_1217 : decode b_W_law 1217 = .ok (.ifCond .eq 5, 3) := by decide +kernel
theorem d_W_law_1220 : decode b_W_law 1220 = .ok (.iconst 0, 1) := by decide +kernel
theorem d_W_law_1221 : decode b_W_law 1221 = .ok (.ireturn, 1) := by decide +kernel
theorem d_W_law_1222 : decode b_W_law 1222 = .ok (.goto 263, 3) := by decide +kernel
theorem d_W_law_1225 : decode b_W_law 1225 = .ok (.aload_n 1, 1) := by decide +kernel
theorem d_W_law_1226 : decode b_W_law 1226 = .ok (.aload_n 0, 1) := by decide +kernel
theorem d_W_law_1227 : decode b_W_law 1227 = .ok (.iload 4, 2) := by decide +kernel
theorem d_W_law_1229 : decode b_W_law 1229 = .ok (.iconst 1, 1) := by decide +kernel
theorem d_W_law_1230 : decode b_W_law 1230 = .ok (.iadd, 1) := by decide +kernel
theorem d_W_law_1231 : decode b_W_law 1231 = .ok (.iaload, 1) := by decide +kernel
theorem d_W_law_1232 : decode b_W_law 1232 = .ok (.aload_n 3, 1) := by decide +kernel
theorem d_W_law_1233 : decode b_W_law 1233 = .ok (.invokestatic 148, 3) := by decide +kernel
theorem d_W_law_1236 : decode b_W_law 1236 = .ok (.istore 5, 2) := by decide +kernel
theorem d_W_law_1238 : decode b_W_law 1238 = .ok (.aload_n 2, 1) := by decide +kernel
theorem d_W_law_1239 : decode b_W_law 1239 = .ok (.aload_n 0, 1) := by decide +kernel
theorem d_W_law_1240 : decode b_W_law 1240 = .ok (.iload 4, 2) := by decide +kernel
theorem d_W_law_1242 : decode b_W_law 1242 = .ok (.iconst 1, 1) := by decide +kernel
theorem d_W_law_1243 : decode b_W_law 1243 = .ok (.iadd, 1) := by decide +kernel
theorem d_W_law_1244 : decode b_W_law 1244 = .ok (.iaload, 1) := by decide +kernel
theorem d_W_law_1245 : decode b_W_law 1245 = .ok (.invokevirtual 150, 3) := by decide +kernel
theorem d_W_law_1248 : decode b_W_law 1248 = .ok (.istore 6, 2) := by decide +kernel
theorem d_W_law_1250 : decode b_W_law 1250 = .ok (.aload_n 2, 1) := by decide +kernel
theorem d_W_law_1251 : decode b_W_law 1251 = .ok (.invokevirtual 90, 3) := by decide +kernel
theorem d_W_law_1254 : decode b_W_law 1254 = .ok (.iload 5, 2) := by decide +kernel
theorem d_W_law_1256 : decode b_W_law 1256 = .ok (.if_icmp .eq 5, 3) := by decide +kernel
theorem d_W_law_1259 : decode b_W_law 1259 = .ok (.iconst 0, 1) := by decide +kernel
theorem d_W_law_1260 : decode b_W_law 1260 = .ok (.ireturn, 1) := by decide +kernel
theorem d_W_law_1261 : decode b_W_law 1261 = .ok (.iload 5, 2) := by decide +kernel
theorem d_W_law_1263 : decode b_W_law 1263 = .ok (.ifCond .ne 15, 3) := by decide +kernel
theorem d_W_law_1266 : decode b_W_law 1266 = .ok (.aload_n 3, 1) := by decide +kernel
theorem d_W_law_1267 : decode b_W_law 1267 = .ok (.iconst 0, 1) := by decide +kernel
theorem d_W_law_1268 : decode b_W_law 1268 = .ok (.laload, 1) := by decide +kernel
theorem d_W_law_1269 : decode b_W_law 1269 = .ok (.iload 6, 2) := by decide +kernel
theorem d_W_law_1271 : decode b_W_law 1271 = .ok (.i2l, 1) := by decide +kernel
theorem d_W_law_1272 : decode b_W_law 1272 = .ok (.lcmp, 1) := by decide +kernel
theorem d_W_law_1273 : decode b_W_law 1273 = .ok (.ifCond .eq 5, 3) := by decide +kernel
theorem d_W_law_1276 : decode b_W_law 1276 = .ok (.iconst 0, 1) := by decide +kernel
theorem d_W_law_1277 : decode b_W_law 1277 = .ok (.ireturn, 1) := by decide +kernel
theorem d_W_law_1278 : decode b_W_law 1278 = .ok (.goto 207, 3) := by decide +kernel
theorem d_W_law_1281 : decode b_W_law 1281 = .ok (.aload_n 1, 1) := by decide +kernel
theorem d_W_law_1282 : decode b_W_law 1282 = .ok (.aload_n 0, 1) := by decide +kernel
theorem d_W_law_1283 : decode b_W_law 1283 = .ok (.iload 4, 2) := by decide +kernel
theorem d_W_law_1285 : decode b_W_law 1285 = .ok (.iconst 1, 1) := by decide +kernel
theorem d_W_law_1286 : decode b_W_law 1286 = .ok (.iadd, 1) := by decide +kernel
theorem d_W_law_1287 : decode b_W_law 1287 = .ok (.iaload, 1) := by decide +kernel
theorem d_W_law_1288 : decode b_W_law 1288 = .ok (.aload_n 3, 1) := by decide +kernel
theorem d_W_law_1289 : decode b_W_law 1289 = .ok (.invokestatic 151, 3) := by decide +kernel
theorem d_W_law_1292 : decode b_W_law 1292 = .ok (.istore 5, 2) := by decide +kernel
theorem d_W_law_1294 : decode b_W_law 1294 = .ok (.aload_n 2, 1) := by decide +kernel
theorem d_W_law_1295 : decode b_W_law 1295 = .ok (.aload_n 0, 1) := by decide +kernel
theorem d_W_law_1296 : decode b_W_law 1296 = .ok (.iload 4, 2) := by decide +kernel
theorem d_W_law_1298 : decode b_W_law 1298 = .ok (.iconst 1, 1) := by decide +kernel
theorem d_W_law_1299 : decode b_W_law 1299 = .ok (.iadd, 1) := by decide +kernel
theorem d_W_law_1300 : decode b_W_law 1300 = .ok (.iaload, 1) := by decide +kernel
theorem d_W_law_1301 : decode b_W_law 1301 = .ok (.invokevirtual 153, 3) := by decide +kernel
theorem d_W_law_1304 : decode b_W_law 1304 = .ok (.istore 6, 2) := by decide +kernel
theorem d_W_law_1306 : decode b_W_law 1306 = .ok (.aload_n 2, 1) := by decide +kernel
theorem d_W_law_1307 : decode b_W_law 1307 = .ok (.invokevirtual 90, 3) := by decide +kernel
theorem d_W_law_1310 : decode b_W_law 1310 = .ok (.iload 5, 2) := by decide +kernel
theorem d_W_law_1312 : decode b_W_law 1312 = .ok (.if_icmp .eq 5, 3) := by decide +kernel
theorem d_W_law_1315 : decode b_W_law 1315 = .ok (.iconst 0, 1) := by decide +kernel
theorem d_W_law_1316 : decode b_W_law 1316 = .ok (.ireturn, 1) := by decide +kernel
theorem d_W_law_1317 : decode b_W_law 1317 = .ok (.iload 5, 2) := by decide +kernel
theorem d_W_law_1319 : decode b_W_law 1319 = .ok (.ifCond .ne 15, 3) := by decide +kernel
theorem d_W_law_1322 : decode b_W_law 1322 = .ok (.aload_n 3, 1) := by decide +kernel
theorem d_W_law_1323 : decode b_W_law 1323 = .ok (.iconst 0, 1) := by decide +kernel
theorem d_W_law_1324 : decode b_W_law 1324 = .ok (.laload, 1) := by decide +kernel
theorem d_W_law_1325 : decode b_W_law 1325 = .ok (.iload 6, 2) := by decide +kernel
theorem d_W_law_1327 : decode b_W_law 1327 = .ok (.i2l, 1) := by decide +kernel
theorem d_W_law_1328 : decode b_W_law 1328 = .ok (.lcmp, 1) := by decide +kernel
theorem d_W_law_1329 : decode b_W_law 1329 = .ok (.ifCond .eq 5, 3) := by decide +kernel
theorem d_W_law_1332 : decode b_W_law 1332 = .ok (.iconst 0, 1) := by decide +kernel
theorem d_W_law_1333 : decode b_W_law 1333 = .ok (.ireturn, 1) := by decide +kernel
theorem d_W_law_1334 : decode b_W_law 1334 = .ok (.goto 151, 3) := by decide +kernel
theorem d_W_law_1337 : decode b_W_law 1337 = .ok (.aload_n 1, 1) := by decide +kernel
theorem d_W_law_1338 : decode b_W_law 1338 = .ok (.aload_n 0, 1) := by decide +kernel
theorem d_W_law_1339 : decode b_W_law 1339 = .ok (.iload 4, 2) := by decide +kernel
theorem d_W_law_1341 : decode b_W_law 1341 = .ok (.iconst 1, 1) := by decide +kernel
theorem d_W_law_1342 : decode b_W_law 1342 = .ok (.iadd, 1) := by decide +kernel
theorem d_W_law_1343 : decode b_W_law 1343 = .ok (.iaload, 1) := by decide +kernel
theorem d_W_law_1344 : decode b_W_law 1344 = .ok (.aload_n 0, 1) := by decide +kernel
theorem d_W_law_1345 : decode b_W_law 1345 = .ok (.iload 4, 2) := by decide +kernel
theorem d_W_law_1347 : decode b_W_law 1347 = .ok (.iconst 2, 1) := by decide +kernel
theorem d_W_law_1348 : decode b_W_law 1348 = .ok (.iadd, 1) := by decide +kernel
theorem d_W_law_1349 : decode b_W_law 1349 = .ok (.iaload, 1) := by decide +kernel
theorem d_W_law_1350 : decode b_W_law 1350 = .ok (.aload_n 0, 1) := by decide +kernel
theorem d_W_law_1351 : decode b_W_law 1351 = .ok (.iload 4, 2) := by decide +kernel
theorem d_W_law_1353 : decode b_W_law 1353 = .ok (.iconst 3, 1) := by decide +kernel
theorem d_W_law_1354 : decode b_W_law 1354 = .ok (.iadd, 1) := by decide +kernel
theorem d_W_law_1355 : decode b_W_law 1355 = .ok (.iaload, 1) := by decide +kernel
theorem d_W_law_1356 : decode b_W_law 1356 = .ok (.aload_n 3, 1) := by decide +kernel
theorem d_W_law_1357 : decode b_W_law 1357 = .ok (.invokestatic 154, 3) := by decide +kernel
theorem d_W_law_1360 : decode b_W_law 1360 = .ok (.istore 5, 2) := by decide +kernel
theorem d_W_law_1362 : decode b_W_law 1362 = .ok (.aload_n 2, 1) := by decide +kernel
theorem d_W_law_1363 : decode b_W_law 1363 = .ok (.aload_n 0, 1) := by decide +kernel
theorem d_W_law_1364 : decode b_W_law 1364 = .ok (.iload 4, 2) := by decide +kernel
theorem d_W_law_1366 : decode b_W_law 1366 = .ok (.iconst 1, 1) := by decide +kernel
theorem d_W_law_1367 : decode b_W_law 1367 = .ok (.iadd, 1) := by decide +kernel
theorem d_W_law_1368 : decode b_W_law 1368 = .ok (.iaload, 1) := by decide +kernel
theorem d_W_law_1369 : decode b_W_law 1369 = .ok (.aload_n 0, 1) := by decide +kernel
theorem d_W_law_1370 : decode b_W_law 1370 = .ok (.iload 4, 2) := by decide +kernel
theorem d_W_law_1372 : decode b_W_law 1372 = .ok (.iconst 2, 1) := by decide +kernel
theorem d_W_law_1373 : decode b_W_law 1373 = .ok (.iadd, 1) := by decide +kernel
theorem d_W_law_1374 : decode b_W_law 1374 = .ok (.iaload, 1) := by decide +kernel
theorem d_W_law_1375 : decode b_W_law 1375 = .ok (.aload_n 0, 1) := by decide +kernel
theorem d_W_law_1376 : decode b_W_law 1376 = .ok (.iload 4, 2) := by decide +kernel
theorem d_W_law_1378 : decode b_W_law 1378 = .ok (.iconst 3, 1) := by decide +kernel
theorem d_W_law_1379 : decode b_W_law 1379 = .ok (.iadd, 1) := by decide +kernel
theorem d_W_law_1380 : decode b_W_law 1380 = .ok (.iaload, 1) := by decide +kernel
theorem d_W_law_1381 : decode b_W_law 1381 = .ok (.invokevirtual 156, 3) := by decide +kernel
theorem d_W_law_1384 : decode b_W_law 1384 = .ok (.istore 6, 2) := by decide +kernel
theorem d_W_law_1386 : decode b_W_law 1386 = .ok (.aload_n 2, 1) := by decide +kernel
theorem d_W_law_1387 : decode b_W_law 1387 = .ok (.invokevirtual 90, 3) := by decide +kernel
theorem d_W_law_1390 : decode b_W_law 1390 = .ok (.iload 5, 2) := by decide +kernel
theorem d_W_law_1392 : decode b_W_law 1392 = .ok (.if_icmp .eq 5, 3) := by decide +kernel
theorem d_W_law_1395 : decode b_W_law 1395 = .ok (.iconst 0, 1) := by decide +kernel
theorem d_W_law_1396 : decode b_W_law 1396 = .ok (.ireturn, 1) := by decide +kernel
theorem d_W_law_1397 : decode b_W_law 1397 = .ok (.iload 5, 2) := by decide +kernel
theorem d_W_law_1399 : decode b_W_law 1399 = .ok (.ifCond .ne 15, 3) := by decide +kernel
theorem d_W_law_1402 : decode b_W_law 1402 = .ok (.aload_n 3, 1) := by decide +kernel
theorem d_W_law_1403 : decode b_W_law 1403 = .ok (.iconst 0, 1) := by decide +kernel
theorem d_W_law_1404 : decode b_W_law 1404 = .ok (.laload, 1) := by decide +kernel
theorem d_W_law_1405 : decode b_W_law 1405 = .ok (.iload 6, 2) := by decide +kernel
theorem d_W_law_1407 : decode b_W_law 1407 = .ok (.i2l, 1) := by decide +kernel
theorem d_W_law_1408 : decode b_W_law 1408 = .ok (.lcmp, 1) := by decide +kernel
theorem d_W_law_1409 : decode b_W_law 1409 = .ok (.ifCond .eq 5, 3) := by decide +kernel
theorem d_W_law_1412 : decode b_W_law 1412 = .ok (.iconst 0, 1) := by decide +kernel
theorem d_W_law_1413 : decode b_W_law 1413 = .ok (.ireturn, 1) := by decide +kernel
theorem d_W_law_1414 : decode b_W_law 1414 = .ok (.goto 71, 3) := by decide +kernel
theorem d_W_law_1417 : decode b_W_law 1417 = .ok (.aload_n 1, 1) := by decide +kernel
theorem d_W_law_1418 : decode b_W_law 1418 = .ok (.aload_n 0, 1) := by decide +kernel
theorem d_W_law_1419 : decode b_W_law 1419 = .ok (.iload 4, 2) := by decide +kernel
theorem d_W_law_1421 : decode b_W_law 1421 = .ok (.iconst 1, 1) := by decide +kernel
theorem d_W_law_1422 : decode b_W_law 1422 = .ok (.iadd, 1) := by decide +kernel
theorem d_W_law_1423 : decode b_W_law 1423 = .ok (.iaload, 1) := by decide +kernel
theorem d_W_law_1424 : decode b_W_law 1424 = .ok (.aload_n 0, 1) := by decide +kernel
theorem d_W_law_1425 : decode b_W_law 1425 = .ok (.iload 4, 2) := by decide +kernel
theorem d_W_law_1427 : decode b_W_law 1427 = .ok (.iconst 2, 1) := by decide +kernel
