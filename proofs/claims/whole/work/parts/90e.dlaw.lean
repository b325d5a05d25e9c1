theorem dL_law_1177 : decode cL_law 1177 = .ok (.iconst 0, 1) := by decide +kernel
theorem dL_law_1178 : decode cL_law 1178 = .ok (.ireturn, 1) := by decide +kernel
theorem dL_law_1179 : decode cL_law 1179 = .ok (.aload_n 1, 1) := by decide +kernel
theorem dL_law_1180 : decode cL_law 1180 = .ok (.aload_n 0, 1) := by decide +kernel
theorem dL_law_1181 : decode cL_law 1181 = .ok (.iload 4, 2) := by decide +kernel
theorem dL_law_1183 : decode cL_law 1183 = .ok (.iconst 1, 1) := by decide +kernel
theorem dL_law_1184 : decode cL_law 1184 = .ok (.iadd, 1) := by decide +kernel
theorem dL_law_1185 : decode cL_law 1185 = .ok (.iaload, 1) := by decide +kernel
theorem dL_law_1186 : decode cL_law 1186 = .ok (.aload_n 0, 1) := by decide +kernel
theorem dL_law_1187 : decode cL_law 1187 = .ok (.iload 4, 2) := by decide +kernel
theorem dL_law_1189 : decode cL_law 1189 = .ok (.iconst 2, 1) := by decide +kernel
theorem dL_law_1190 : decode cL_law 1190 = .ok (.iadd, 1) := by decide +kernel
theorem dL_law_1191 : decode cL_law 1191 = .ok (.iaload, 1) := by decide +kernel
theorem dL_law_1192 : decode cL_law 1192 = .ok (.invokevirtual 153, 3) := by decide +kernel
theorem dL_law_1195 : decode cL_law 1195 = .ok (.aload_n 2, 1) := by decide +kernel
theorem dL_law_1196 : decode cL_law 1196 = .ok (.aload_n 0, 1) := by decide +kernel
theorem dL_law_1197 : decode cL_law 1197 = .ok (.iload 4, 2) := by decide +kernel
theorem dL_law_1199 : decode cL_law 1199 = .ok (.iconst 1, 1) := by decide +kernel
theorem dL_law_1200 : decode cL_law 1200 = .ok (.iadd, 1) := by decide +kernel
theorem dL_law_1201 : decode cL_law 1201 = .ok (.iaload, 1) := by decide +kernel
theorem dL_law_1202 : decode cL_law 1202 = .ok (.aload_n 0, 1) := by decide +kernel
theorem dL_law_1203 : decode cL_law 1203 = .ok (.iload 4, 2) := by decide +kernel
theorem dL_law_1205 : decode cL_law 1205 = .ok (.iconst 2, 1) := by decide +kernel
theorem dL_law_1206 : decode cL_law 1206 = .ok (.iadd, 1) := by decide +kernel
theorem dL_law_1207 : decode cL_law 1207 = .ok (.iaload, 1) := by decide +kernel
theorem dL_law_1208 : decode cL_law 1208 = .ok (.invokevirtual 156, 3) := by decide +kernel
theorem dL_law_1211 : decode cL_law 1211 = .ok (.if_icmp .eq 471, 3) := by decide +kernel
theorem dL_law_1214 : decode cL_law 1214 = .ok (.iconst 0, 1) := by decide +kernel
theorem dL_law_1215 : decode cL_law 1215 = .ok (.ireturn, 1) := by decide +kernel
theorem dL_law_1216 : decode cL_law 1216 = .ok (.aload_n 1, 1) := by decide +kernel
theorem dL_law_1217 : decode cL_law 1217 = .ok (.aload_n 0, 1) := by decide +kernel
theorem dL_law_1218 : decode cL_law 1218 = .ok (.iload 4, 2) := by decide +kernel
theorem dL_law_1220 : decode cL_law 1220 = .ok (.iconst 1, 1) := by decide +kernel
theorem dL_law_1221 : decode cL_law 1221 = .ok (.iadd, 1) := by decide +kernel
theorem dL_law_1222 : decode cL_law 1222 = .ok (.iaload, 1) := by decide +kernel
theorem dL_law_1223 : decode cL_law 1223 = .ok (.aload_n 0, 1) := by decide +kernel
theorem dL_law_1224 : decode cL_law 1224 = .ok (.iload 4, 2) := by decide +kernel
theorem dL_law_1226 : decode cL_law 1226 = .ok (.iconst 2, 1) := by decide +kernel
theorem dL_law_1227 : decode cL_law 1227 = .ok (.iadd, 1) := by decide +kernel
theorem dL_law_1228 : decode cL_law 1228 = .ok (.iaload, 1) := by decide +kernel
theorem dL_law_1229 : decode cL_law 1229 = .ok (.invokevirtual 157, 3) := by decide +kernel
theorem dL_law_1232 : decode cL_law 1232 = .ok (.aload_n 2, 1) := by decide +kernel
theorem dL_law_1233 : decode cL_law 1233 = .ok (.aload_n 0, 1) := by decide +kernel
theorem dL_law_1234 : decode cL_law 1234 = .ok (.iload 4, 2) := by decide +kernel
theorem dL_law_1236 : decode cL_law 1236 = .ok (.iconst 1, 1) := by decide +kernel
theorem dL_law_1237 : decode cL_law 1237 = .ok (.iadd, 1) := by decide +kernel
theorem dL_law_1238 : decode cL_law 1238 = .ok (.iaload, 1) := by decide +kernel
theorem dL_law_1239 : decode cL_law 1239 = .ok (.aload_n 0, 1) := by decide +kernel
theorem dL_law_1240 : decode cL_law 1240 = .ok (.iload 4, 2) := by decide +kernel
theorem dL_law_1242 : decode cL_law 1242 = .ok (.iconst 2, 1) := by decide +kernel
theorem dL_law_1243 : decode cL_law 1243 = .ok (.iadd, 1) := by decide +kernel
theorem dL_law_1244 : decode cL_law 1244 = .ok (.iaload, 1) := by decide +kernel
theorem dL_law_1245 : decode cL_law 1245 = .ok (.invokevirtual 160, 3) := by decide +kernel
theorem dL_law_1248 : decode cL_law 1248 = .ok (.if_icmp .eq 434, 3) := by decide +kernel
theorem dL_law_1251 : decode cL_law 1251 = .ok (.iconst 0, 1) := by decide +kernel
theorem dL_law_1252 : decode cL_law 1252 = .ok (.ireturn, 1) := by decide +kernel
theorem dL_law_1253 : decode cL_law 1253 = .ok (.aload_n 1, 1) := by decide +kernel
theorem dL_law_1254 : decode cL_law 1254 = .ok (.aload_n 0, 1) := by decide +kernel
theorem dL_law_1255 : decode cL_law 1255 = .ok (.iload 4, 2) := by decide +kernel
theorem dL_law_1257 : decode cL_law 1257 = .ok (.iconst 1, 1) := by decide +kernel
theorem dL_law_1258 : decode cL_law 1258 = .ok (.iadd, 1) := by decide +kernel
theorem dL_law_1259 : decode cL_law 1259 = .ok (.iaload, 1) := by decide +kernel
theorem dL_law_1260 : decode cL_law 1260 = .ok (.aload_n 0, 1) := by decide +kernel
theorem dL_law_1261 : decode cL_law 1261 = .ok (.iload 4, 2) := by decide +kernel
theorem dL_law_1263 : decode cL_law 1263 = .ok (.iconst 2, 1) := by decide +kernel
theorem dL_law_1264 : decode cL_law 1264 = .ok (.iadd, 1) := by decide +kernel
theorem dL_law_1265 : decode cL_law 1265 = .ok (.iaload, 1) := by decide +kernel
theorem dL_law_1266 : decode cL_law 1266 = .ok (.aload_n 0, 1) := by decide +kernel
theorem dL_law_1267 : decode cL_law 1267 = .ok (.iload 4, 2) := by decide +kernel
theorem dL_law_1269 : decode cL_law 1269 = .ok (.iconst 3, 1) := by decide +kernel
theorem dL_law_1270 : decode cL_law 1270 = .ok (.iadd, 1) := by decide +kernel
theorem dL_law_1271 : decode cL_law 1271 = .ok (.iaload, 1) := by decide +kernel
theorem dL_law_1272 : decode cL_law 1272 = .ok (.invokevirtual 161, 3) := by decide +kernel
theorem dL_law_1275 : decode cL_law 1275 = .ok (.aload_n 2, 1) := by decide +kernel
theorem dL_law_1276 : decode cL_law 1276 = .ok (.aload_n 0, 1) := by decide +kernel
theorem dL_law_1277 : decode cL_law 1277 = .ok (.iload 4, 2) := by decide +kernel
theorem dL_law_1279 : decode cL_law 1279 = .ok (.iconst 1, 1) := by decide +kernel
theorem dL_law_1280 : decode cL_law 1280 = .ok (.iadd, 1) := by decide +kernel
theorem dL_law_1281 : decode cL_law 1281 = .ok (.iaload, 1) := by decide +kernel
theorem dL_law_1282 : decode cL_law 1282 = .ok (.aload_n 0, 1) := by decide +kernel
theorem dL_law_1283 : decode cL_law 1283 = .ok (.iload 4, 2) := by decide +kernel
theorem dL_law_1285 : decode cL_law 1285 = .ok (.iconst 2, 1) := by decide +kernel
theorem dL_law_1286 : decode cL_law 1286 = .ok (.iadd, 1) := by decide +kernel
theorem dL_law_1287 : decode cL_law 1287 = .ok (.iaload, 1) := by decide +kernel
theorem dL_law_1288 : decode cL_law 1288 = .ok (.aload_n 0, 1) := by decide +kernel
theorem dL_law_1289 : decode cL_law 1289 = .ok (.iload 4, 2) := by decide +kernel
theorem dL_law_1291 : decode cL_law 1291 = .ok (.iconst 3, 1) := by decide +kernel
theorem dL_law_1292 : decode cL_law 1292 = .ok (.iadd, 1) := by decide +kernel
theorem dL_law_1293 : decode cL_law 1293 = .ok (.iaload, 1) := by decide +kernel
theorem dL_law_1294 : decode cL_law 1294 = .ok (.invokevirtual 164, 3) := by decide +kernel
theorem dL_law_1297 : decode cL_law 1297 = .ok (.if_icmp .eq 385, 3) := by decide +kernel
theorem dL_law_1300 : decode cL_law 1300 = .ok (.iconst 0, 1) := by decide +kernel
theorem dL_law_1301 : decode cL_law 1301 = .ok (.ireturn, 1) := by decide +kernel
theorem dL_law_1302 : decode cL_law 1302 = .ok (.aload_n 1, 1) := by decide +kernel
theorem dL_law_1303 : decode cL_law 1303 = .ok (.aload_n 0, 1) := by decide +kernel
theorem dL_law_1304 : decode cL_law 1304 = .ok (.iload 4, 2) := by decide +kernel
theorem dL_law_1306 : decode cL_law 1306 = .ok (.iconst 1, 1) := by decide +kernel
theorem dL_law_1307 : decode cL_law 1307 = .ok (.iadd, 1) := by decide +kernel
theorem dL_law_1308 : decode cL_law 1308 = .ok (.iaload, 1) := by decide +kernel
theorem dL_law_1309 : decode cL_law 1309 = .ok (.aload_n 0, 1) := by decide +kernel
theorem dL_law_1310 : decode cL_law 1310 = .ok (.iload 4, 2) := by decide +kernel
theorem dL_law_1312 : decode cL_law 1312 = .ok (.iconst 2, 1) := by decide +kernel
theorem dL_law_1313 : decode cL_law 1313 = .ok (.iadd, 1) := by decide +kernel
theorem dL_law_1314 : decode cL_law 1314 = .ok (.iaload, 1) := by decide +kernel
theorem dL_law_1315 : decode cL_law 1315 = .ok (.invokevirtual 165, 3) := by decide +kernel
theorem dL_law_1318 : decode cL_law 1318 = .ok (.aload_n 2, 1) := by decide +kernel
theorem dL_law_1319 : decode cL_law 1319 = .ok (.aload_n 0, 1) := by decide +kernel
theorem dL_law_1320 : decode cL_law 1320 = .ok (.iload 4, 2) := by decide +kernel
theorem dL_law_1322 : decode cL_law 1322 = .ok (.iconst 1, 1) := by decide +kernel
theorem dL_law_1323 : decode cL_law 1323 = .ok (.iadd, 1) := by decide +kernel
theorem dL_law_1324 : decode cL_law 1324 = .ok (.iaload, 1) := by decide +kernel
theorem dL_law_1325 : decode cL_law 1325 = .ok (.aload_n 0, 1) := by decide +kernel
theorem dL_law_1326 : decode cL_law 1326 = .ok (.iload 4, 2) := by decide +kernel
theorem dL_law_1328 : decode cL_law 1328 = .ok (.iconst 2, 1) := by decide +kernel
theorem dL_law_1329 : decode cL_law 1329 = .ok (.iadd, 1) := by decide +kernel
theorem dL_law_1330 : decode cL_law 1330 = .ok (.iaload, 1) := by decide +kernel
theorem dL_law_1331 : decode cL_law 1331 = .ok (.invokevirtual 168, 3) := by decide +kernel
theorem dL_law_1334 : decode cL_law 1334 = .ok (.if_icmp .eq 348, 3) := by decide +kernel
theorem dL_law_1337 : decode cL_law 1337 = .ok (.iconst 0, 1) := by decide +kernel
theorem dL_law_1338 : decode cL_law 1338 = .ok (.ireturn, 1) := by decide +kernel
theorem dL_law_1339 : decode cL_law 1339 = .ok (.aload_n 1, 1) := by decide +kernel
theorem dL_law_1340 : decode cL_law 1340 = .ok (.invokevirtual 169, 3) := by decide +kernel
theorem dL_law_1343 : decode cL_law 1343 = .ok (.aload_n 2, 1) := by decide +kernel
theorem dL_law_1344 : decode cL_law 1344 = .ok (.invokevirtual 172, 3) := by decide +kernel
theorem dL_law_1347 : decode cL_law 1347 = .ok (.if_icmp .eq 335, 3) := by decide +kernel
theorem dL_law_1350 : decode cL_law 1350 = .ok (.iconst 0, 1) := by decide +kernel
theorem dL_law_1351 : decode cL_law 1351 = .ok (.ireturn, 1) := by decide +kernel
theorem dL_law_1352 : decode cL_law 1352 = .ok (.aload_n 1, 1) := by decide +kernel
theorem dL_law_1353 : decode cL_law 1353 = .ok (.aload_n 0, 1) := by decide +kernel
theorem dL_law_1354 : decode cL_law 1354 = .ok (.iload 4, 2) := by decide +kernel
theorem dL_law_1356 : decode cL_law 1356 = .ok (.iconst 1, 1) := by decide +kernel
theorem dL_law_1357 : decode cL_law 1357 = .ok (.iadd, 1) := by decide +kernel
theorem dL_law_1358 : decode cL_law 1358 = .ok (.iaload, 1) := by decide +kernel
theorem dL_law_1359 : decode cL_law 1359 = .ok (.invokevirtual 173, 3) := by decide +kernel
theorem dL_law_1362 : decode cL_law 1362 = .ok (.aload_n 2, 1) := by decide +kernel
theorem dL_law_1363 : decode cL_law 1363 = .ok (.aload_n 0, 1) := by decide +kernel
theorem dL_law_1364 : decode cL_law 1364 = .ok (.iload 4, 2) := by decide +kernel
theorem dL_law_1366 : decode cL_law 1366 = .ok (.iconst 1, 1) := by decide +kernel
theorem dL_law_1367 : decode cL_law 1367 = .ok (.iadd, 1) := by decide +kernel
theorem dL_law_1368 : decode cL_law 1368 = .ok (.iaload, 1) := by decide +kernel
theorem dL_law_1369 : decode cL_law 1369 = .ok (.invokevirtual 176, 3) := by decide +kernel
theorem dL_law_1372 : decode cL_law 1372 = .ok (.if_icmp .eq 310, 3) := by decide +kernel
theorem dL_law_1375 : decode cL_law 1375 = .ok (.iconst 0, 1) := by decide +kernel
theorem dL_law_1376 : decode cL_law 1376 = .ok (.ireturn, 1) := by decide +kernel
theorem dL_law_1377 : decode cL_law 1377 = .ok (.aload_n 1, 1) := by decide +kernel
theorem dL_law_1378 : decode cL_law 1378 = .ok (.aload_n 0, 1) := by decide +kernel
theorem dL_law_1379 : decode cL_law 1379 = .ok (.iload 4, 2) := by decide +kernel
theorem dL_law_1381 : decode cL_law 1381 = .ok (.iconst 1, 1) := by decide +kernel
theorem dL_law_1382 : decode cL_law 1382 = .ok (.iadd, 1) := by decide +kernel
theorem dL_law_1383 : decode cL_law 1383 = .ok (.iaload, 1) := by decide +kernel
theorem dL_law_1384 : decode cL_law 1384 = .ok (.invokevirtual 177, 3) := by decide +kernel
theorem dL_law_1387 : decode cL_law 1387 = .ok (.aload_n 2, 1) := by decide +kernel
theorem dL_law_1388 : decode cL_law 1388 = .ok (.aload_n 0, 1) := by decide +kernel
theorem dL_law_1389 : decode cL_law 1389 = .ok (.iload 4, 2) := by decide +kernel
theorem dL_law_1391 : decode cL_law 1391 = .ok (.iconst 1, 1) := by decide +kernel
theorem dL_law_1392 : decode cL_law 1392 = .ok (.iadd, 1) := by decide +kernel
theorem dL_law_1393 : decode cL_law 1393 = .ok (.iaload, 1) := by decide +kernel
theorem dL_law_1394 : decode cL_law 1394 = .ok (.invokevirtual 180, 3) := by decide +kernel
theorem dL_law_1397 : decode cL_law 1397 = .ok (.if_icmp .eq 285, 3) := by decide +kernel
theorem dL_law_1400 : decode cL_law 1400 = .ok (.iconst 0, 1) := by decide +kernel
theorem dL_law_1401 : decode cL_law 1401 = .ok (.ireturn, 1) := by decide +kernel
theorem dL_law_1402 : decode cL_law 1402 = .ok (.aload_n 1, 1) := by decide +kernel
theorem dL_law_1403 : decode cL_law 1403 = .ok (.aload_n 0, 1) := by decide +kernel
theorem dL_law_1404 : decode cL_law 1404 = .ok (.iload 4, 2) := by decide +kernel
theorem dL_law_1406 : decode cL_law 1406 = .ok (.iconst 1, 1) := by decide +kernel
theorem dL_law_1407 : decode cL_law 1407 = .ok (.iadd, 1) := by decide +kernel
theorem dL_law_1408 : decode cL_law 1408 = .ok (.iaload, 1) := by decide +kernel
theorem dL_law_1409 : decode cL_law 1409 = .ok (.invokevirtual 181, 3) := by decide +kernel
theorem dL_law_1412 : decode cL_law 1412 = .ok (.aload_n 2, 1) := by decide +kernel
theorem dL_law_1413 : decode cL_law 1413 = .ok (.aload_n 0, 1) := by decide +kernel
theorem dL_law_1414 : decode cL_law 1414 = .ok (.iload 4, 2) := by decide +kernel
theorem dL_law_1416 : decode cL_law 1416 = .ok (.iconst 1, 1) := by decide +kernel
theorem dL_law_1417 : decode cL_law 1417 = .ok (.iadd, 1) := by decide +kernel
theorem dL_law_1418 : decode cL_law 1418 = .ok (.iaload, 1) := by decide +kernel
theorem dL_law_1419 : decode cL_law 1419 = .ok (.invokevirtual 184, 3) := by decide +kernel
theorem dL_law_1422 : decode cL_law 1422 = .ok (.if_icmp .eq 260, 3) := by decide +kernel
theorem dL_law_1425 : decode cL_law 1425 = .ok (.iconst 0, 1) := by decide +kernel
theorem dL_law_1426 : decode cL_law 1426 = .ok (.ireturn, 1) := by decide +kernel
