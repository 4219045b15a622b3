theorem dL_law_1163 : decode cL_law 1163 = .ok (.aload_n 0, 1) := by decide +kernel
theorem dL_law_1164 : decode cL_law 1164 = .ok (.iload_n 3, 1) := by decide +kernel
theorem dL_law_1165 : decode cL_law 1165 = .ok (.iconst 1, 1) := by decide +kernel
theorem dL_law_1166 : decode cL_law 1166 = .ok (.iadd, 1) := by decide +kernel
theorem dL_law_1167 : decode cL_law 1167 = .ok (.iaload, 1) := by decide +kernel
theorem dL_law_1168 : decode cL_law 1168 = .ok (.invokevirtual 147, 3) := by decide +kernel
theorem dL_law_1171 : decode cL_law 1171 = .ok (.if_icmp .eq 302, 3) := by decide +kernel
theorem dL_law_1174 : decode cL_law 1174 = .ok (.iconst 0, 1) := by decide +kernel
theorem dL_law_1175 : decode cL_law 1175 = .ok (.ireturn, 1) := by decide +kernel
theorem dL_law_1176 : decode cL_law 1176 = .ok (.aload_n 1, 1) := by decide +kernel
theorem dL_law_1177 : decode cL_law 1177 = .ok (.aload_n 0, 1) := by decide +kernel
theorem dL_law_1178 : decode cL_law 1178 = .ok (.iload_n 3, 1) := by decide +kernel
theorem dL_law_1179 : decode cL_law 1179 = .ok (.iconst 1, 1) := by decide +kernel
theorem dL_law_1180 : decode cL_law 1180 = .ok (.iadd, 1) := by decide +kernel
theorem dL_law_1181 : decode cL_law 1181 = .ok (.iaload, 1) := by decide +kernel
theorem dL_law_1182 : decode cL_law 1182 = .ok (.aload_n 0, 1) := by decide +kernel
theorem dL_law_1183 : decode cL_law 1183 = .ok (.iload_n 3, 1) := by decide +kernel
theorem dL_law_1184 : decode cL_law 1184 = .ok (.iconst 2, 1) := by decide +kernel
theorem dL_law_1185 : decode cL_law 1185 = .ok (.iadd, 1) := by decide +kernel
theorem dL_law_1186 : decode cL_law 1186 = .ok (.iaload, 1) := by decide +kernel
theorem dL_law_1187 : decode cL_law 1187 = .ok (.invokevirtual 148, 3) := by decide +kernel
theorem dL_law_1190 : decode cL_law 1190 = .ok (.aload_n 2, 1) := by decide +kernel
theorem dL_law_1191 : decode cL_law 1191 = .ok (.aload_n 0, 1) := by decide +kernel
theorem dL_law_1192 : decode cL_law 1192 = .ok (.iload_n 3, 1) := by decide +kernel
theorem dL_law_1193 : decode cL_law 1193 = .ok (.iconst 1, 1) := by decide +kernel
theorem dL_law_1194 : decode cL_law 1194 = .ok (.iadd, 1) := by decide +kernel
theorem dL_law_1195 : decode cL_law 1195 = .ok (.iaload, 1) := by decide +kernel
theorem dL_law_1196 : decode cL_law 1196 = .ok (.aload_n 0, 1) := by decide +kernel
theorem dL_law_1197 : decode cL_law 1197 = .ok (.iload_n 3, 1) := by decide +kernel
theorem dL_law_1198 : decode cL_law 1198 = .ok (.iconst 2, 1) := by decide +kernel
theorem dL_law_1199 : decode cL_law 1199 = .ok (.iadd, 1) := by decide +kernel
theorem dL_law_1200 : decode cL_law 1200 = .ok (.iaload, 1) := by decide +kernel
theorem dL_law_1201 : decode cL_law 1201 = .ok (.invokevirtual 151, 3) := by decide +kernel
theorem dL_law_1204 : decode cL_law 1204 = .ok (.if_icmp .eq 269, 3) := by decide +kernel
theorem dL_law_1207 : decode cL_law 1207 = .ok (.iconst 0, 1) := by decide +kernel
theorem dL_law_1208 : decode cL_law 1208 = .ok (.ireturn, 1) := by decide +kernel
theorem dL_law_1209 : decode cL_law 1209 = .ok (.aload_n 1, 1) := by decide +kernel
theorem dL_law_1210 : decode cL_law 1210 = .ok (.aload_n 0, 1) := by decide +kernel
theorem dL_law_1211 : decode cL_law 1211 = .ok (.iload_n 3, 1) := by decide +kernel
theorem dL_law_1212 : decode cL_law 1212 = .ok (.iconst 1, 1) := by decide +kernel
theorem dL_law_1213 : decode cL_law 1213 = .ok (.iadd, 1) := by decide +kernel
theorem dL_law_1214 : decode cL_law 1214 = .ok (.iaload, 1) := by decide +kernel
theorem dL_law_1215 : decode cL_law 1215 = .ok (.aload_n 0, 1) := by decide +kernel
theorem dL_law_1216 : decode cL_law 1216 = .ok (.iload_n 3, 1) := by decide +kernel
theorem dL_law_1217 : decode cL_law 1217 = .ok (.iconst 2, 1) := by decide +kernel
theorem dL_law_1218 : decode cL_law 1218 = .ok (.iadd, 1) := by decide +kernel
theorem dL_law_1219 : decode cL_law 1219 = .ok (.iaload, 1) := by decide +kernel
theorem dL_law_1220 : decode cL_law 1220 = .ok (.aload_n 0, 1) := by decide +kernel
theorem dL_law_1221 : decode cL_law 1221 = .ok (.iload_n 3, 1) := by decide +kernel
theorem dL_law_1222 : decode cL_law 1222 = .ok (.iconst 3, 1) := by decide +kernel
theorem dL_law_1223 : decode cL_law 1223 = .ok (.iadd, 1) := by decide +kernel
theorem dL_law_1224 : decode cL_law 1224 = .ok (.iaload, 1) := by decide +kernel
theorem dL_law_1225 : decode cL_law 1225 = .ok (.invokevirtual 152, 3) := by decide +kernel
theorem dL_law_1228 : decode cL_law 1228 = .ok (.aload_n 2, 1) := by decide +kernel
theorem dL_law_1229 : decode cL_law 1229 = .ok (.aload_n 0, 1) := by decide +kernel
theorem dL_law_1230 : decode cL_law 1230 = .ok (.iload_n 3, 1) := by decide +kernel
theorem dL_law_1231 : decode cL_law 1231 = .ok (.iconst 1, 1) := by decide +kernel
theorem dL_law_1232 : decode cL_law 1232 = .ok (.iadd, 1) := by decide +kernel
theorem dL_law_1233 : decode cL_law 1233 = .ok (.iaload, 1) := by decide +kernel
theorem dL_law_1234 : decode cL_law 1234 = .ok (.aload_n 0, 1) := by decide +kernel
theorem dL_law_1235 : decode cL_law 1235 = .ok (.iload_n 3, 1) := by decide +kernel
theorem dL_law_1236 : decode cL_law 1236 = .ok (.iconst 2, 1) := by decide +kernel
theorem dL_law_1237 : decode cL_law 1237 = .ok (.iadd, 1) := by decide +kernel
theorem dL_law_1238 : decode cL_law 1238 = .ok (.iaload, 1) := by decide +kernel
theorem dL_law_1239 : decode cL_law 1239 = .ok (.aload_n 0, 1) := by decide +kernel
theorem dL_law_1240 : decode cL_law 1240 = .ok (.iload_n 3, 1) := by decide +kernel
theorem dL_law_1241 : decode cL_law 1241 = .ok (.iconst 3, 1) := by decide +kernel
theorem dL_law_1242 : decode cL_law 1242 = .ok (.iadd, 1) := by decide +kernel
theorem dL_law_1243 : decode cL_law 1243 = .ok (.iaload, 1) := by decide +kernel
theorem dL_law_1244 : decode cL_law 1244 = .ok (.invokevirtual 155, 3) := by decide +kernel
theorem dL_law_1247 : decode cL_law 1247 = .ok (.if_icmp .eq 226, 3) := by decide +kernel
theorem dL_law_1250 : decode cL_law 1250 = .ok (.iconst 0, 1) := by decide +kernel
theorem dL_law_1251 : decode cL_law 1251 = .ok (.ireturn, 1) := by decide +kernel
theorem dL_law_1252 : decode cL_law 1252 = .ok (.aload_n 1, 1) := by decide +kernel
theorem dL_law_1253 : decode cL_law 1253 = .ok (.aload_n 0, 1) := by decide +kernel
theorem dL_law_1254 : decode cL_law 1254 = .ok (.iload_n 3, 1) := by decide +kernel
theorem dL_law_1255 : decode cL_law 1255 = .ok (.iconst 1, 1) := by decide +kernel
theorem dL_law_1256 : decode cL_law 1256 = .ok (.iadd, 1) := by decide +kernel
theorem dL_law_1257 : decode cL_law 1257 = .ok (.iaload, 1) := by decide +kernel
theorem dL_law_1258 : decode cL_law 1258 = .ok (.invokevirtual 156, 3) := by decide +kernel
theorem dL_law_1261 : decode cL_law 1261 = .ok (.aload_n 2, 1) := by decide +kernel
theorem dL_law_1262 : decode cL_law 1262 = .ok (.aload_n 0, 1) := by decide +kernel
theorem dL_law_1263 : decode cL_law 1263 = .ok (.iload_n 3, 1) := by decide +kernel
theorem dL_law_1264 : decode cL_law 1264 = .ok (.iconst 1, 1) := by decide +kernel
theorem dL_law_1265 : decode cL_law 1265 = .ok (.iadd, 1) := by decide +kernel
theorem dL_law_1266 : decode cL_law 1266 = .ok (.iaload, 1) := by decide +kernel
theorem dL_law_1267 : decode cL_law 1267 = .ok (.invokevirtual 159, 3) := by decide +kernel
theorem dL_law_1270 : decode cL_law 1270 = .ok (.if_icmp .eq 203, 3) := by decide +kernel
theorem dL_law_1273 : decode cL_law 1273 = .ok (.iconst 0, 1) := by decide +kernel
theorem dL_law_1274 : decode cL_law 1274 = .ok (.ireturn, 1) := by decide +kernel
theorem dL_law_1275 : decode cL_law 1275 = .ok (.aload_n 1, 1) := by decide +kernel
theorem dL_law_1276 : decode cL_law 1276 = .ok (.aload_n 0, 1) := by decide +kernel
theorem dL_law_1277 : decode cL_law 1277 = .ok (.iload_n 3, 1) := by decide +kernel
theorem dL_law_1278 : decode cL_law 1278 = .ok (.iconst 1, 1) := by decide +kernel
theorem dL_law_1279 : decode cL_law 1279 = .ok (.iadd, 1) := by decide +kernel
theorem dL_law_1280 : decode cL_law 1280 = .ok (.iaload, 1) := by decide +kernel
theorem dL_law_1281 : decode cL_law 1281 = .ok (.invokevirtual 160, 3) := by decide +kernel
theorem dL_law_1284 : decode cL_law 1284 = .ok (.aload_n 2, 1) := by decide +kernel
theorem dL_law_1285 : decode cL_law 1285 = .ok (.aload_n 0, 1) := by decide +kernel
theorem dL_law_1286 : decode cL_law 1286 = .ok (.iload_n 3, 1) := by decide +kernel
theorem dL_law_1287 : decode cL_law 1287 = .ok (.iconst 1, 1) := by decide +kernel
theorem dL_law_1288 : decode cL_law 1288 = .ok (.iadd, 1) := by decide +kernel
theorem dL_law_1289 : decode cL_law 1289 = .ok (.iaload, 1) := by decide +kernel
theorem dL_law_1290 : decode cL_law 1290 = .ok (.invokevirtual 163, 3) := by decide +kernel
theorem dL_law_1293 : decode cL_law 1293 = .ok (.if_icmp .eq 180, 3) := by decide +kernel
theorem dL_law_1296 : decode cL_law 1296 = .ok (.iconst 0, 1) := by decide +kernel
theorem dL_law_1297 : decode cL_law 1297 = .ok (.ireturn, 1) := by decide +kernel
theorem dL_law_1298 : decode cL_law 1298 = .ok (.aload_n 1, 1) := by decide +kernel
theorem dL_law_1299 : decode cL_law 1299 = .ok (.aload_n 0, 1) := by decide +kernel
theorem dL_law_1300 : decode cL_law 1300 = .ok (.iload_n 3, 1) := by decide +kernel
theorem dL_law_1301 : decode cL_law 1301 = .ok (.iconst 1, 1) := by decide +kernel
theorem dL_law_1302 : decode cL_law 1302 = .ok (.iadd, 1) := by decide +kernel
theorem dL_law_1303 : decode cL_law 1303 = .ok (.iaload, 1) := by decide +kernel
theorem dL_law_1304 : decode cL_law 1304 = .ok (.aload_n 0, 1) := by decide +kernel
theorem dL_law_1305 : decode cL_law 1305 = .ok (.iload_n 3, 1) := by decide +kernel
theorem dL_law_1306 : decode cL_law 1306 = .ok (.iconst 2, 1) := by decide +kernel
theorem dL_law_1307 : decode cL_law 1307 = .ok (.iadd, 1) := by decide +kernel
theorem dL_law_1308 : decode cL_law 1308 = .ok (.iaload, 1) := by decide +kernel
theorem dL_law_1309 : decode cL_law 1309 = .ok (.aload_n 0, 1) := by decide +kernel
theorem dL_law_1310 : decode cL_law 1310 = .ok (.iload_n 3, 1) := by decide +kernel
theorem dL_law_1311 : decode cL_law 1311 = .ok (.iconst 3, 1) := by decide +kernel
theorem dL_law_1312 : decode cL_law 1312 = .ok (.iadd, 1) := by decide +kernel
theorem dL_law_1313 : decode cL_law 1313 = .ok (.iaload, 1) := by decide +kernel
theorem dL_law_1314 : decode cL_law 1314 = .ok (.invokevirtual 164, 3) := by decide +kernel
theorem dL_law_1317 : decode cL_law 1317 = .ok (.aload_n 2, 1) := by decide +kernel
theorem dL_law_1318 : decode cL_law 1318 = .ok (.aload_n 0, 1) := by decide +kernel
theorem dL_law_1319 : decode cL_law 1319 = .ok (.iload_n 3, 1) := by decide +kernel
theorem dL_law_1320 : decode cL_law 1320 = .ok (.iconst 1, 1) := by decide +kernel
theorem dL_law_1321 : decode cL_law 1321 = .ok (.iadd, 1) := by decide +kernel
theorem dL_law_1322 : decode cL_law 1322 = .ok (.iaload, 1) := by decide +kernel
theorem dL_law_1323 : decode cL_law 1323 = .ok (.aload_n 0, 1) := by decide +kernel
theorem dL_law_1324 : decode cL_law 1324 = .ok (.iload_n 3, 1) := by decide +kernel
theorem dL_law_1325 : decode cL_law 1325 = .ok (.iconst 2, 1) := by decide +kernel
theorem dL_law_1326 : decode cL_law 1326 = .ok (.iadd, 1) := by decide +kernel
theorem dL_law_1327 : decode cL_law 1327 = .ok (.iaload, 1) := by decide +kernel
theorem dL_law_1328 : decode cL_law 1328 = .ok (.aload_n 0, 1) := by decide +kernel
theorem dL_law_1329 : decode cL_law 1329 = .ok (.iload_n 3, 1) := by decide +kernel
theorem dL_law_1330 : decode cL_law 1330 = .ok (.iconst 3, 1) := by decide +kernel
theorem dL_law_1331 : decode cL_law 1331 = .ok (.iadd, 1) := by decide +kernel
theorem dL_law_1332 : decode cL_law 1332 = .ok (.iaload, 1) := by decide +kernel
theorem dL_law_1333 : decode cL_law 1333 = .ok (.invokevirtual 167, 3) := by decide +kernel
theorem dL_law_1336 : decode cL_law 1336 = .ok (.if_icmp .eq 137, 3) := by decide +kernel
theorem dL_law_1339 : decode cL_law 1339 = .ok (.iconst 0, 1) := by decide +kernel
theorem dL_law_1340 : decode cL_law 1340 = .ok (.ireturn, 1) := by decide +kernel
theorem dL_law_1341 : decode cL_law 1341 = .ok (.aload_n 1, 1) := by decide +kernel
theorem dL_law_1342 : decode cL_law 1342 = .ok (.aload_n 0, 1) := by decide +kernel
theorem dL_law_1343 : decode cL_law 1343 = .ok (.iload_n 3, 1) := by decide +kernel
theorem dL_law_1344 : decode cL_law 1344 = .ok (.iconst 1, 1) := by decide +kernel
theorem dL_law_1345 : decode cL_law 1345 = .ok (.iadd, 1) := by decide +kernel
theorem dL_law_1346 : decode cL_law 1346 = .ok (.iaload, 1) := by decide +kernel
theorem dL_law_1347 : decode cL_law 1347 = .ok (.aload_n 0, 1) := by decide +kernel
theorem dL_law_1348 : decode cL_law 1348 = .ok (.iload_n 3, 1) := by decide +kernel
theorem dL_law_1349 : decode cL_law 1349 = .ok (.iconst 2, 1) := by decide +kernel
theorem dL_law_1350 : decode cL_law 1350 = .ok (.iadd, 1) := by decide +kernel
theorem dL_law_1351 : decode cL_law 1351 = .ok (.iaload, 1) := by decide +kernel
theorem dL_law_1352 : decode cL_law 1352 = .ok (.aload_n 0, 1) := by decide +kernel
theorem dL_law_1353 : decode cL_law 1353 = .ok (.iload_n 3, 1) := by decide +kernel
theorem dL_law_1354 : decode cL_law 1354 = .ok (.iconst 3, 1) := by decide +kernel
theorem dL_law_1355 : decode cL_law 1355 = .ok (.iadd, 1) := by decide +kernel
theorem dL_law_1356 : decode cL_law 1356 = .ok (.iaload, 1) := by decide +kernel
theorem dL_law_1357 : decode cL_law 1357 = .ok (.invokevirtual 168, 3) := by decide +kernel
theorem dL_law_1360 : decode cL_law 1360 = .ok (.aload_n 2, 1) := by decide +kernel
theorem dL_law_1361 : decode cL_law 1361 = .ok (.aload_n 0, 1) := by decide +kernel
theorem dL_law_1362 : decode cL_law 1362 = .ok (.iload_n 3, 1) := by decide +kernel
theorem dL_law_1363 : decode cL_law 1363 = .ok (.iconst 1, 1) := by decide +kernel
theorem dL_law_1364 : decode cL_law 1364 = .ok (.iadd, 1) := by decide +kernel
theorem dL_law_1365 : decode cL_law 1365 = .ok (.iaload, 1) := by decide +kernel
theorem dL_law_1366 : decode cL_law 1366 = .ok (.aload_n 0, 1) := by decide +kernel
theorem dL_law_1367 : decode cL_law 1367 = .ok (.iload_n 3, 1) := by decide +kernel
theorem dL_law_1368 : decode cL_law 1368 = .ok (.iconst 2, 1) := by decide +kernel
theorem dL_law_1369 : decode cL_law 1369 = .ok (.iadd, 1) := by decide +kernel
theorem dL_law_1370 : decode cL_law 1370 = .ok (.iaload, 1) := by decide +kernel
theorem dL_law_1371 : decode cL_law 1371 = .ok (.aload_n 0, 1) := by decide +kernel
theorem dL_law_1372 : decode cL_law 1372 = .ok (.iload_n 3, 1) := by decide +kernel
theorem dL_law_1373 : decode cL_law 1373 = .ok (.iconst 3, 1) := by decide +kernel
theorem dL_law_1374 : decode cL_law 1374 = .ok (.iadd, 1) := by decide +kernel
theorem dL_law_1375 : decode cL_law 1375 = .ok (.iaload, 1) := by decide +kernel
theorem dL_law_1376 : decode cL_law 1376 = .ok (.invokevirtual 171, 3) := by decide +kernel
theorem dL_law_1379 : decode cL_law 1379 = .ok (.if_icmp .eq 94, 3) := by decide +kernel
theorem dL_law_1382 : decode cL_law 1382 = .ok (.iconst 0, 1) := by decide +kernel
theorem dL_law_1383 : decode cL_law 1383 = .ok (.ireturn, 1) := by decide +kernel
theorem dL_law_1384 : decode cL_law 1384 = .ok (.aload_n 1, 1) := by decide +kernel
theorem dL_law_1385 : decode cL_law 1385 = .ok (.aload_n 0, 1) := by decide +kernel
theorem dL_law_1386 : decode cL_law 1386 = .ok (.iload_n 3, 1) := by decide +kernel
theorem dL_law_1387 : decode cL_law 1387 = .ok (.iconst 1, 1) := by decide +kernel
theorem dL_law_1388 : decode cL_law 1388 = .ok (.iadd, 1) := by decide +kernel
theorem dL_law_1389 : decode cL_law 1389 = .ok (.iaload, 1) := by decide +kernel
theorem dL_law_1390 : decode cL_law 1390 = .ok (.aload_n 0, 1) := by decide +kernel
theorem dL_law_1391 : decode cL_law 1391 = .ok (.iload_n 3, 1) := by decide +kernel
theorem dL_law_1392 : decode cL_law 1392 = .ok (.iconst 2, 1) := by decide +kernel
theorem dL_law_1393 : decode cL_law 1393 = .ok (.iadd, 1) := by decide +kernel
theorem dL_law_1394 : decode cL_law 1394 = .ok (.iaload, 1) := by decide +kernel
theorem dL_law_1395 : decode cL_law 1395 = .ok (.aload_n 0, 1) := by decide +kernel
theorem dL_law_1396 : decode cL_law 1396 = .ok (.iload_n 3, 1) := by decide +kernel
theorem dL_law_1397 : decode cL_law 1397 = .ok (.iconst 3, 1) := by decide +kernel
theorem dL_law_1398 : decode cL_law 1398 = .ok (.iadd, 1) := by decide +kernel
theorem dL_law_1399 : decode cL_law 1399 = .ok (.iaload, 1) := by decide +kernel
theorem dL_law_1400 : decode cL_law 1400 = .ok (.aload_n 0, 1) := by decide +kernel
theorem dL_law_1401 : decode cL_law 1401 = .ok (.iload_n 3, 1) := by decide +kernel
theorem dL_law_1402 : decode cL_law 1402 = .ok (.iconst 4, 1) := by decide +kernel
theorem dL_law_1403 : decode cL_law 1403 = .ok (.iadd, 1) := by decide +kernel
theorem dL_law_1404 : decode cL_law 1404 = .ok (.iaload, 1) := by decide +kernel
theorem dL_law_1405 : decode cL_law 1405 = .ok (.invokevirtual 172, 3) := by decide +kernel
theorem dL_law_1408 : decode cL_law 1408 = .ok (.aload_n 2, 1) := by decide +kernel
theorem dL_law_1409 : decode cL_law 1409 = .ok (.aload_n 0, 1) := by decide +kernel
theorem dL_law_1410 : decode cL_law 1410 = .ok (.iload_n 3, 1) := by decide +kernel
theorem dL_law_1411 : decode cL_law 1411 = .ok (.iconst 1, 1) := by decide +kernel
theorem dL_law_1412 : decode cL_law 1412 = .ok (.iadd, 1) := by decide +kernel
theorem dL_law_1413 : decode cL_law 1413 = .ok (.iaload, 1) := by decide +kernel
theorem dL_law_1414 : decode cL_law 1414 = .ok (.aload_n 0, 1) := by decide +kernel
theorem dL_law_1415 : decode cL_law 1415 = .ok (.iload_n 3, 1) := by decide +kernel
theorem dL_law_1416 : decode cL_law 1416 = .ok (.iconst 2, 1) := by decide +kernel
theorem dL_law_1417 : decode cL_law 1417 = .ok (.iadd, 1) := by decide +kernel
theorem dL_law_1418 : decode cL_law 1418 = .ok (.iaload, 1) := by decide +kernel
theorem dL_law_1419 : decode cL_law 1419 = .ok (.aload_n 0, 1) := by decide +kernel
theorem dL_law_1420 : decode cL_law 1420 = .ok (.iload_n 3, 1) := by decide +kernel
theorem dL_law_1421 : decode cL_law 1421 = .ok (.iconst 3, 1) := by decide +kernel
theorem dL_law_1422 : decode cL_law 1422 = .ok (.iadd, 1) := by decide +kernel
theorem dL_law_1423 : decode cL_law 1423 = .ok (.iaload, 1) := by decide +kernel
theorem dL_law_1424 : decode cL_law 1424 = .ok (.aload_n 0, 1) := by decide +kernel
theorem dL_law_1425 : decode cL_law 1425 = .ok (.iload_n 3, 1) := by decide +kernel
theorem dL_law_1426 : decode cL_law 1426 = .ok (.iconst 4, 1) := by decide +kernel
theorem dL_law_1427 : decode cL_law 1427 = .ok (.iadd, 1) := by decide +kernel
theorem dL_law_1428 : decode cL_law 1428 = .ok (.iaload, 1) := by decide +kernel
theorem dL_law_1429 : decode cL_law 1429 = .ok (.invokevirtual 176, 3) := by decide +kernel
theorem dL_law_1432 : decode cL_law 1432 = .ok (.if_icmp .eq 41, 3) := by decide +kernel
theorem dL_law_1435 : decode cL_law 1435 = .ok (.iconst 0, 1) := by decide +kernel
theorem dL_law_1436 : decode cL_law 1436 = .ok (.ireturn, 1) := by decide +kernel
theorem dL_law_1437 : decode cL_law 1437 = .ok (.aload_n 1, 1) := by decide +kernel
theorem dL_law_1438 : decode cL_law 1438 = .ok (.invokevirtual 177, 3) := by decide +kernel
theorem dL_law_1441 : decode cL_law 1441 = .ok (.aload_n 2, 1) := by decide +kernel
theorem dL_law_1442 : decode cL_law 1442 = .ok (.invokevirtual 180, 3) := by decide +kernel
theorem dL_law_1445 : decode cL_law 1445 = .ok (.if_icmp .eq 28, 3) := by decide +kernel
theorem dL_law_1448 : decode cL_law 1448 = .ok (.iconst 0, 1) := by decide +kernel
theorem dL_law_1449 : decode cL_law 1449 = .ok (.ireturn, 1) := by decide +kernel
theorem dL_law_1450 : decode cL_law 1450 = .ok (.aload_n 1, 1) := by decide +kernel
theorem dL_law_1451 : decode cL_law 1451 = .ok (.aload_n 0, 1) := by decide +kernel
theorem dL_law_1452 : decode cL_law 1452 = .ok (.iload_n 3, 1) := by decide +kernel
theorem dL_law_1453 : decode cL_law 1453 = .ok (.iconst 1, 1) := by decide +kernel
theorem dL_law_1454 : decode cL_law 1454 = .ok (.iadd, 1) := by decide +kernel
theorem dL_law_1455 : decode cL_law 1455 = .ok (.iaload, 1) := by decide +kernel
theorem dL_law_1456 : decode cL_law 1456 = .ok (.invokevirtual 181, 3) := by decide +kernel
theorem dL_law_1459 : decode cL_law 1459 = .ok (.aload_n 2, 1) := by decide +kernel
theorem dL_law_1460 : decode cL_law 1460 = .ok (.aload_n 0, 1) := by decide +kernel
theorem dL_law_1461 : decode cL_law 1461 = .ok (.iload_n 3, 1) := by decide +kernel
theorem dL_law_1462 : decode cL_law 1462 = .ok (.iconst 1, 1) := by decide +kernel
theorem dL_law_1463 : decode cL_law 1463 = .ok (.iadd, 1) := by decide +kernel
theorem dL_law_1464 : decode cL_law 1464 = .ok (.iaload, 1) := by decide +kernel
theorem dL_law_1465 : decode cL_law 1465 = .ok (.invokevirtual 184, 3) := by decide +kernel
theorem dL_law_1468 : decode cL_law 1468 = .ok (.if_icmp .eq 5, 3) := by decide +kernel
theorem dL_law_1471 : decode cL_law 1471 = .ok (.iconst 0, 1) := by decide +kernel
theorem dL_law_1472 : decode cL_law 1472 = .ok (.ireturn, 1) := by decide +kernel
theorem dL_law_1473 : decode cL_law 1473 = .ok (.iinc 3 5, 3) := by decide +kernel
theorem dL_law_1476 : decode cL_law 1476 = .ok (.goto (-1458), 3) := by decide +kernel
theorem dL_law_1479 : decode cL_law 1479 = .ok (.iconst 1, 1) := by decide +kernel
theorem dL_law_1480 : decode cL_law 1480 = .ok (.ireturn, 1) := by decide +kernel
