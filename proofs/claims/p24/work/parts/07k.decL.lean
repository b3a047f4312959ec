theorem dL_acts_1240 : decode cL_acts 1240 = .ok (.iload 11, 2) := by decide +kernel
theorem dL_acts_1242 : decode cL_acts 1242 = .ok (.invokestatic 151, 3) := by decide +kernel
theorem dL_acts_1245 : decode cL_acts 1245 = .ok (.iload 12, 2) := by decide +kernel
theorem dL_acts_1247 : decode cL_acts 1247 = .ok (.if_icmp .ne 39, 3) := by decide +kernel
theorem dL_acts_1250 : decode cL_acts 1250 = .ok (.aload_n 1, 1) := by decide +kernel
theorem dL_acts_1251 : decode cL_acts 1251 = .ok (.iload 11, 2) := by decide +kernel
theorem dL_acts_1253 : decode cL_acts 1253 = .ok (.invokestatic 151, 3) := by decide +kernel
theorem dL_acts_1256 : decode cL_acts 1256 = .ok (.iload 12, 2) := by decide +kernel
theorem dL_acts_1258 : decode cL_acts 1258 = .ok (.if_icmp .ne 28, 3) := by decide +kernel
theorem dL_acts_1261 : decode cL_acts 1261 = .ok (.aload_n 0, 1) := by decide +kernel
theorem dL_acts_1262 : decode cL_acts 1262 = .ok (.iconst 0, 1) := by decide +kernel
theorem dL_acts_1263 : decode cL_acts 1263 = .ok (.invokestatic 151, 3) := by decide +kernel
theorem dL_acts_1266 : decode cL_acts 1266 = .ok (.ldc 21, 2) := by decide +kernel
theorem dL_acts_1268 : decode cL_acts 1268 = .ok (.if_icmp .ne 18, 3) := by decide +kernel
theorem dL_acts_1271 : decode cL_acts 1271 = .ok (.aload_n 0, 1) := by decide +kernel
theorem dL_acts_1272 : decode cL_acts 1272 = .ok (.bipush 101, 2) := by decide +kernel
theorem dL_acts_1274 : decode cL_acts 1274 = .ok (.invokestatic 151, 3) := by decide +kernel
theorem dL_acts_1277 : decode cL_acts 1277 = .ok (.ldc 21, 2) := by decide +kernel
theorem dL_acts_1279 : decode cL_acts 1279 = .ok (.if_icmp .ne 7, 3) := by decide +kernel
theorem dL_acts_1282 : decode cL_acts 1282 = .ok (.iconst 1, 1) := by decide +kernel
theorem dL_acts_1283 : decode cL_acts 1283 = .ok (.goto 4, 3) := by decide +kernel
theorem dL_acts_1286 : decode cL_acts 1286 = .ok (.iconst 0, 1) := by decide +kernel
theorem dL_acts_1287 : decode cL_acts 1287 = .ok (.ireturn, 1) := by decide +kernel
theorem dL_acts_1288 : decode cL_acts 1288 = .ok (.iload 7, 2) := by decide +kernel
theorem dL_acts_1290 : decode cL_acts 1290 = .ok (.bipush 21, 2) := by decide +kernel
theorem dL_acts_1292 : decode cL_acts 1292 = .ok (.if_icmp .ge 13, 3) := by decide +kernel
theorem dL_acts_1295 : decode cL_acts 1295 = .ok (.aload_n 0, 1) := by decide +kernel
theorem dL_acts_1296 : decode cL_acts 1296 = .ok (.aload_n 1, 1) := by decide +kernel
theorem dL_acts_1297 : decode cL_acts 1297 = .ok (.aload_n 2, 1) := by decide +kernel
theorem dL_acts_1298 : decode cL_acts 1298 = .ok (.aload_n 3, 1) := by decide +kernel
theorem dL_acts_1299 : decode cL_acts 1299 = .ok (.aload 4, 2) := by decide +kernel
theorem dL_acts_1301 : decode cL_acts 1301 = .ok (.invokestatic 153, 3) := by decide +kernel
theorem dL_acts_1304 : decode cL_acts 1304 = .ok (.ireturn, 1) := by decide +kernel
theorem dL_acts_1305 : decode cL_acts 1305 = .ok (.iload 7, 2) := by decide +kernel
theorem dL_acts_1307 : decode cL_acts 1307 = .ok (.bipush 21, 2) := by decide +kernel
theorem dL_acts_1309 : decode cL_acts 1309 = .ok (.if_icmp .ne 83, 3) := by decide +kernel
theorem dL_acts_1312 : decode cL_acts 1312 = .ok (.iload 6, 2) := by decide +kernel
theorem dL_acts_1314 : decode cL_acts 1314 = .ok (.iconst 3, 1) := by decide +kernel
theorem dL_acts_1315 : decode cL_acts 1315 = .ok (.ishr, 1) := by decide +kernel
theorem dL_acts_1316 : decode cL_acts 1316 = .ok (.iconst 2, 1) := by decide +kernel
theorem dL_acts_1317 : decode cL_acts 1317 = .ok (.invokestatic 132, 3) := by decide +kernel
theorem dL_acts_1320 : decode cL_acts 1320 = .ok (.ifCond .ne 72, 3) := by decide +kernel
theorem dL_acts_1323 : decode cL_acts 1323 = .ok (.aload_n 3, 1) := by decide +kernel
theorem dL_acts_1324 : decode cL_acts 1324 = .ok (.iconst 4, 1) := by decide +kernel
theorem dL_acts_1325 : decode cL_acts 1325 = .ok (.iload 8, 2) := by decide +kernel
theorem dL_acts_1327 : decode cL_acts 1327 = .ok (.imul, 1) := by decide +kernel
theorem dL_acts_1328 : decode cL_acts 1328 = .ok (.iconst 1, 1) := by decide +kernel
theorem dL_acts_1329 : decode cL_acts 1329 = .ok (.iadd, 1) := by decide +kernel
theorem dL_acts_1330 : decode cL_acts 1330 = .ok (.iaload, 1) := by decide +kernel
theorem dL_acts_1331 : decode cL_acts 1331 = .ok (.istore 11, 2) := by decide +kernel
theorem dL_acts_1333 : decode cL_acts 1333 = .ok (.aload_n 3, 1) := by decide +kernel
theorem dL_acts_1334 : decode cL_acts 1334 = .ok (.iconst 4, 1) := by decide +kernel
theorem dL_acts_1335 : decode cL_acts 1335 = .ok (.iload 8, 2) := by decide +kernel
theorem dL_acts_1337 : decode cL_acts 1337 = .ok (.imul, 1) := by decide +kernel
theorem dL_acts_1338 : decode cL_acts 1338 = .ok (.iconst 1, 1) := by decide +kernel
theorem dL_acts_1339 : decode cL_acts 1339 = .ok (.iadd, 1) := by decide +kernel
theorem dL_acts_1340 : decode cL_acts 1340 = .ok (.aload 4, 2) := by decide +kernel
theorem dL_acts_1342 : decode cL_acts 1342 = .ok (.iconst 0, 1) := by decide +kernel
theorem dL_acts_1343 : decode cL_acts 1343 = .ok (.iaload, 1) := by decide +kernel
theorem dL_acts_1344 : decode cL_acts 1344 = .ok (.iastore, 1) := by decide +kernel
theorem dL_acts_1345 : decode cL_acts 1345 = .ok (.aload_n 3, 1) := by decide +kernel
theorem dL_acts_1346 : decode cL_acts 1346 = .ok (.iconst 4, 1) := by decide +kernel
theorem dL_acts_1347 : decode cL_acts 1347 = .ok (.iload 8, 2) := by decide +kernel
theorem dL_acts_1349 : decode cL_acts 1349 = .ok (.imul, 1) := by decide +kernel
theorem dL_acts_1350 : decode cL_acts 1350 = .ok (.iconst 2, 1) := by decide +kernel
theorem dL_acts_1351 : decode cL_acts 1351 = .ok (.iadd, 1) := by decide +kernel
theorem dL_acts_1352 : decode cL_acts 1352 = .ok (.iconst 1, 1) := by decide +kernel
theorem dL_acts_1353 : decode cL_acts 1353 = .ok (.iastore, 1) := by decide +kernel
theorem dL_acts_1354 : decode cL_acts 1354 = .ok (.aload_n 0, 1) := by decide +kernel
theorem dL_acts_1355 : decode cL_acts 1355 = .ok (.iload 8, 2) := by decide +kernel
theorem dL_acts_1357 : decode cL_acts 1357 = .ok (.invokestatic 157, 3) := by decide +kernel
theorem dL_acts_1360 : decode cL_acts 1360 = .ok (.iload 11, 2) := by decide +kernel
theorem dL_acts_1362 : decode cL_acts 1362 = .ok (.if_icmp .ne 28, 3) := by decide +kernel
theorem dL_acts_1365 : decode cL_acts 1365 = .ok (.aload_n 1, 1) := by decide +kernel
theorem dL_acts_1366 : decode cL_acts 1366 = .ok (.iload 8, 2) := by decide +kernel
theorem dL_acts_1368 : decode cL_acts 1368 = .ok (.invokestatic 157, 3) := by decide +kernel
theorem dL_acts_1371 : decode cL_acts 1371 = .ok (.iload 11, 2) := by decide +kernel
theorem dL_acts_1373 : decode cL_acts 1373 = .ok (.if_icmp .ne 17, 3) := by decide +kernel
theorem dL_acts_1376 : decode cL_acts 1376 = .ok (.aload_n 0, 1) := by decide +kernel
theorem dL_acts_1377 : decode cL_acts 1377 = .ok (.iconst 5, 1) := by decide +kernel
theorem dL_acts_1378 : decode cL_acts 1378 = .ok (.invokestatic 157, 3) := by decide +kernel
theorem dL_acts_1381 : decode cL_acts 1381 = .ok (.ldc 18, 2) := by decide +kernel
theorem dL_acts_1383 : decode cL_acts 1383 = .ok (.if_icmp .ne 7, 3) := by decide +kernel
theorem dL_acts_1386 : decode cL_acts 1386 = .ok (.iconst 1, 1) := by decide +kernel
theorem dL_acts_1387 : decode cL_acts 1387 = .ok (.goto 4, 3) := by decide +kernel
theorem dL_acts_1390 : decode cL_acts 1390 = .ok (.iconst 0, 1) := by decide +kernel
theorem dL_acts_1391 : decode cL_acts 1391 = .ok (.ireturn, 1) := by decide +kernel
theorem dL_acts_1392 : decode cL_acts 1392 = .ok (.aload_n 0, 1) := by decide +kernel
theorem dL_acts_1393 : decode cL_acts 1393 = .ok (.iload 8, 2) := by decide +kernel
theorem dL_acts_1395 : decode cL_acts 1395 = .ok (.invokestatic 92, 3) := by decide +kernel
theorem dL_acts_1398 : decode cL_acts 1398 = .ok (.bipush 80, 2) := by decide +kernel
theorem dL_acts_1400 : decode cL_acts 1400 = .ok (.if_icmp .gt 17, 3) := by decide +kernel
theorem dL_acts_1403 : decode cL_acts 1403 = .ok (.aload_n 0, 1) := by decide +kernel
theorem dL_acts_1404 : decode cL_acts 1404 = .ok (.aload_n 1, 1) := by decide +kernel
theorem dL_acts_1405 : decode cL_acts 1405 = .ok (.aload_n 2, 1) := by decide +kernel
theorem dL_acts_1406 : decode cL_acts 1406 = .ok (.aload_n 3, 1) := by decide +kernel
theorem dL_acts_1407 : decode cL_acts 1407 = .ok (.aload 4, 2) := by decide +kernel
theorem dL_acts_1409 : decode cL_acts 1409 = .ok (.iload 8, 2) := by decide +kernel
theorem dL_acts_1411 : decode cL_acts 1411 = .ok (.invokestatic 159, 3) := by decide +kernel
theorem dL_acts_1414 : decode cL_acts 1414 = .ok (.ifCond .eq 7, 3) := by decide +kernel
theorem dL_acts_1417 : decode cL_acts 1417 = .ok (.iconst 1, 1) := by decide +kernel
theorem dL_acts_1418 : decode cL_acts 1418 = .ok (.goto 4, 3) := by decide +kernel
theorem dL_acts_1421 : decode cL_acts 1421 = .ok (.iconst 0, 1) := by decide +kernel
theorem dL_acts_1422 : decode cL_acts 1422 = .ok (.ireturn, 1) := by decide +kernel
