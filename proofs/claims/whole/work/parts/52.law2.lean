/-! the law: its instructions (2) -/
theorem dL_1140 : decode code 1140 = .ok (.aload_n 2, 1) := by decide +kernel
theorem dL_1141 : decode code 1141 = .ok (.aload_n 0, 1) := by decide +kernel
theorem dL_1142 : decode code 1142 = .ok (.iload_n 3, 1) := by decide +kernel
theorem dL_1143 : decode code 1143 = .ok (.iconst 1, 1) := by decide +kernel
theorem dL_1144 : decode code 1144 = .ok (.iadd, 1) := by decide +kernel
theorem dL_1145 : decode code 1145 = .ok (.iaload, 1) := by decide +kernel
theorem dL_1146 : decode code 1146 = .ok (.aload_n 0, 1) := by decide +kernel
theorem dL_1147 : decode code 1147 = .ok (.iload_n 3, 1) := by decide +kernel
theorem dL_1148 : decode code 1148 = .ok (.iconst 2, 1) := by decide +kernel
theorem dL_1149 : decode code 1149 = .ok (.iadd, 1) := by decide +kernel
theorem dL_1150 : decode code 1150 = .ok (.iaload, 1) := by decide +kernel
theorem dL_1151 : decode code 1151 = .ok (.invokevirtual 157, 3) := by decide +kernel
theorem dL_1154 : decode code 1154 = .ok (.if_icmp .eq 806, 3) := by decide +kernel
theorem dL_1157 : decode code 1157 = .ok (.iconst 0, 1) := by decide +kernel
theorem dL_1158 : decode code 1158 = .ok (.ireturn, 1) := by decide +kernel
theorem dL_1159 : decode code 1159 = .ok (.aload_n 1, 1) := by decide +kernel
theorem dL_1160 : decode code 1160 = .ok (.aload_n 0, 1) := by decide +kernel
theorem dL_1161 : decode code 1161 = .ok (.iload_n 3, 1) := by decide +kernel
theorem dL_1162 : decode code 1162 = .ok (.iconst 1, 1) := by decide +kernel
theorem dL_1163 : decode code 1163 = .ok (.iadd, 1) := by decide +kernel
theorem dL_1164 : decode code 1164 = .ok (.iaload, 1) := by decide +kernel
theorem dL_1165 : decode code 1165 = .ok (.aload_n 0, 1) := by decide +kernel
theorem dL_1166 : decode code 1166 = .ok (.iload_n 3, 1) := by decide +kernel
theorem dL_1167 : decode code 1167 = .ok (.iconst 2, 1) := by decide +kernel
theorem dL_1168 : decode code 1168 = .ok (.iadd, 1) := by decide +kernel
theorem dL_1169 : decode code 1169 = .ok (.iaload, 1) := by decide +kernel
theorem dL_1170 : decode code 1170 = .ok (.invokevirtual 158, 3) := by decide +kernel
theorem dL_1173 : decode code 1173 = .ok (.aload_n 2, 1) := by decide +kernel
theorem dL_1174 : decode code 1174 = .ok (.aload_n 0, 1) := by decide +kernel
theorem dL_1175 : decode code 1175 = .ok (.iload_n 3, 1) := by decide +kernel
theorem dL_1176 : decode code 1176 = .ok (.iconst 1, 1) := by decide +kernel
theorem dL_1177 : decode code 1177 = .ok (.iadd, 1) := by decide +kernel
theorem dL_1178 : decode code 1178 = .ok (.iaload, 1) := by decide +kernel
theorem dL_1179 : decode code 1179 = .ok (.aload_n 0, 1) := by decide +kernel
theorem dL_1180 : decode code 1180 = .ok (.iload_n 3, 1) := by decide +kernel
theorem dL_1181 : decode code 1181 = .ok (.iconst 2, 1) := by decide +kernel
theorem dL_1182 : decode code 1182 = .ok (.iadd, 1) := by decide +kernel
theorem dL_1183 : decode code 1183 = .ok (.iaload, 1) := by decide +kernel
theorem dL_1184 : decode code 1184 = .ok (.invokevirtual 161, 3) := by decide +kernel
theorem dL_1187 : decode code 1187 = .ok (.if_icmp .eq 773, 3) := by decide +kernel
theorem dL_1190 : decode code 1190 = .ok (.iconst 0, 1) := by decide +kernel
theorem dL_1191 : decode code 1191 = .ok (.ireturn, 1) := by decide +kernel
theorem dL_1192 : decode code 1192 = .ok (.aload_n 1, 1) := by decide +kernel
theorem dL_1193 : decode code 1193 = .ok (.aload_n 0, 1) := by decide +kernel
theorem dL_1194 : decode code 1194 = .ok (.iload_n 3, 1) := by decide +kernel
theorem dL_1195 : decode code 1195 = .ok (.iconst 1, 1) := by decide +kernel
theorem dL_1196 : decode code 1196 = .ok (.iadd, 1) := by decide +kernel
theorem dL_1197 : decode code 1197 = .ok (.iaload, 1) := by decide +kernel
theorem dL_1198 : decode code 1198 = .ok (.aload_n 0, 1) := by decide +kernel
theorem dL_1199 : decode code 1199 = .ok (.iload_n 3, 1) := by decide +kernel
theorem dL_1200 : decode code 1200 = .ok (.iconst 2, 1) := by decide +kernel
theorem dL_1201 : decode code 1201 = .ok (.iadd, 1) := by decide +kernel
theorem dL_1202 : decode code 1202 = .ok (.iaload, 1) := by decide +kernel
theorem dL_1203 : decode code 1203 = .ok (.invokevirtual 162, 3) := by decide +kernel
theorem dL_1206 : decode code 1206 = .ok (.aload_n 2, 1) := by decide +kernel
theorem dL_1207 : decode code 1207 = .ok (.aload_n 0, 1) := by decide +kernel
theorem dL_1208 : decode code 1208 = .ok (.iload_n 3, 1) := by decide +kernel
theorem dL_1209 : decode code 1209 = .ok (.iconst 1, 1) := by decide +kernel
theorem dL_1210 : decode code 1210 = .ok (.iadd, 1) := by decide +kernel
theorem dL_1211 : decode code 1211 = .ok (.iaload, 1) := by decide +kernel
theorem dL_1212 : decode code 1212 = .ok (.aload_n 0, 1) := by decide +kernel
theorem dL_1213 : decode code 1213 = .ok (.iload_n 3, 1) := by decide +kernel
theorem dL_1214 : decode code 1214 = .ok (.iconst 2, 1) := by decide +kernel
theorem dL_1215 : decode code 1215 = .ok (.iadd, 1) := by decide +kernel
theorem dL_1216 : decode code 1216 = .ok (.iaload, 1) := by decide +kernel
theorem dL_1217 : decode code 1217 = .ok (.invokevirtual 165, 3) := by decide +kernel
theorem dL_1220 : decode code 1220 = .ok (.if_icmp .eq 740, 3) := by decide +kernel
theorem dL_1223 : decode code 1223 = .ok (.iconst 0, 1) := by decide +kernel
theorem dL_1224 : decode code 1224 = .ok (.ireturn, 1) := by decide +kernel
theorem dL_1225 : decode code 1225 = .ok (.aload_n 1, 1) := by decide +kernel
theorem dL_1226 : decode code 1226 = .ok (.aload_n 0, 1) := by decide +kernel
theorem dL_1227 : decode code 1227 = .ok (.iload_n 3, 1) := by decide +kernel
theorem dL_1228 : decode code 1228 = .ok (.iconst 1, 1) := by decide +kernel
theorem dL_1229 : decode code 1229 = .ok (.iadd, 1) := by decide +kernel
theorem dL_1230 : decode code 1230 = .ok (.iaload, 1) := by decide +kernel
theorem dL_1231 : decode code 1231 = .ok (.aload_n 0, 1) := by decide +kernel
theorem dL_1232 : decode code 1232 = .ok (.iload_n 3, 1) := by decide +kernel
theorem dL_1233 : decode code 1233 = .ok (.iconst 2, 1) := by decide +kernel
theorem dL_1234 : decode code 1234 = .ok (.iadd, 1) := by decide +kernel
theorem dL_1235 : decode code 1235 = .ok (.iaload, 1) := by decide +kernel
theorem dL_1236 : decode code 1236 = .ok (.invokevirtual 166, 3) := by decide +kernel
theorem dL_1239 : decode code 1239 = .ok (.aload_n 2, 1) := by decide +kernel
theorem dL_1240 : decode code 1240 = .ok (.aload_n 0, 1) := by decide +kernel
theorem dL_1241 : decode code 1241 = .ok (.iload_n 3, 1) := by decide +kernel
theorem dL_1242 : decode code 1242 = .ok (.iconst 1, 1) := by decide +kernel
theorem dL_1243 : decode code 1243 = .ok (.iadd, 1) := by decide +kernel
theorem dL_1244 : decode code 1244 = .ok (.iaload, 1) := by decide +kernel
theorem dL_1245 : decode code 1245 = .ok (.aload_n 0, 1) := by decide +kernel
theorem dL_1246 : decode code 1246 = .ok (.iload_n 3, 1) := by decide +kernel
theorem dL_1247 : decode code 1247 = .ok (.iconst 2, 1) := by decide +kernel
theorem dL_1248 : decode code 1248 = .ok (.iadd, 1) := by decide +kernel
theorem dL_1249 : decode code 1249 = .ok (.iaload, 1) := by decide +kernel
theorem dL_1250 : decode code 1250 = .ok (.invokevirtual 169, 3) := by decide +kernel
theorem dL_1253 : decode code 1253 = .ok (.if_icmp .eq 707, 3) := by decide +kernel
theorem dL_1256 : decode code 1256 = .ok (.iconst 0, 1) := by decide +kernel
theorem dL_1257 : decode code 1257 = .ok (.ireturn, 1) := by decide +kernel
theorem dL_1258 : decode code 1258 = .ok (.aload_n 1, 1) := by decide +kernel
theorem dL_1259 : decode code 1259 = .ok (.aload_n 0, 1) := by decide +kernel
theorem dL_1260 : decode code 1260 = .ok (.iload_n 3, 1) := by decide +kernel
theorem dL_1261 : decode code 1261 = .ok (.iconst 1, 1) := by decide +kernel
theorem dL_1262 : decode code 1262 = .ok (.iadd, 1) := by decide +kernel
theorem dL_1263 : decode code 1263 = .ok (.iaload, 1) := by decide +kernel
theorem dL_1264 : decode code 1264 = .ok (.aload_n 0, 1) := by decide +kernel
theorem dL_1265 : decode code 1265 = .ok (.iload_n 3, 1) := by decide +kernel
theorem dL_1266 : decode code 1266 = .ok (.iconst 2, 1) := by decide +kernel
theorem dL_1267 : decode code 1267 = .ok (.iadd, 1) := by decide +kernel
theorem dL_1268 : decode code 1268 = .ok (.iaload, 1) := by decide +kernel
theorem dL_1269 : decode code 1269 = .ok (.invokevirtual 170, 3) := by decide +kernel
theorem dL_1272 : decode code 1272 = .ok (.aload_n 2, 1) := by decide +kernel
theorem dL_1273 : decode code 1273 = .ok (.aload_n 0, 1) := by decide +kernel
theorem dL_1274 : decode code 1274 = .ok (.iload_n 3, 1) := by decide +kernel
theorem dL_1275 : decode code 1275 = .ok (.iconst 1, 1) := by decide +kernel
theorem dL_1276 : decode code 1276 = .ok (.iadd, 1) := by decide +kernel
theorem dL_1277 : decode code 1277 = .ok (.iaload, 1) := by decide +kernel
theorem dL_1278 : decode code 1278 = .ok (.aload_n 0, 1) := by decide +kernel
theorem dL_1279 : decode code 1279 = .ok (.iload_n 3, 1) := by decide +kernel
theorem dL_1280 : decode code 1280 = .ok (.iconst 2, 1) := by decide +kernel
theorem dL_1281 : decode code 1281 = .ok (.iadd, 1) := by decide +kernel
theorem dL_1282 : decode code 1282 = .ok (.iaload, 1) := by decide +kernel
theorem dL_1283 : decode code 1283 = .ok (.invokevirtual 173, 3) := by decide +kernel
theorem dL_1286 : decode code 1286 = .ok (.if_icmp .eq 674, 3) := by decide +kernel
theorem dL_1289 : decode code 1289 = .ok (.iconst 0, 1) := by decide +kernel
theorem dL_1290 : decode code 1290 = .ok (.ireturn, 1) := by decide +kernel
theorem dL_1291 : decode code 1291 = .ok (.aload_n 1, 1) := by decide +kernel
theorem dL_1292 : decode code 1292 = .ok (.aload_n 0, 1) := by decide +kernel
theorem dL_1293 : decode code 1293 = .ok (.iload_n 3, 1) := by decide +kernel
theorem dL_1294 : decode code 1294 = .ok (.iconst 1, 1) := by decide +kernel
theorem dL_1295 : decode code 1295 = .ok (.iadd, 1) := by decide +kernel
theorem dL_1296 : decode code 1296 = .ok (.iaload, 1) := by decide +kernel
theorem dL_1297 : decode code 1297 = .ok (.aload_n 0, 1) := by decide +kernel
theorem dL_1298 : decode code 1298 = .ok (.iload_n 3, 1) := by decide +kernel
theorem dL_1299 : decode code 1299 = .ok (.iconst 2, 1) := by decide +kernel
theorem dL_1300 : decode code 1300 = .ok (.iadd, 1) := by decide +kernel
theorem dL_1301 : decode code 1301 = .ok (.iaload, 1) := by decide +kernel
theorem dL_1302 : decode code 1302 = .ok (.invokevirtual 174, 3) := by decide +kernel
theorem dL_1305 : decode code 1305 = .ok (.aload_n 2, 1) := by decide +kernel
theorem dL_1306 : decode code 1306 = .ok (.aload_n 0, 1) := by decide +kernel
theorem dL_1307 : decode code 1307 = .ok (.iload_n 3, 1) := by decide +kernel
theorem dL_1308 : decode code 1308 = .ok (.iconst 1, 1) := by decide +kernel
theorem dL_1309 : decode code 1309 = .ok (.iadd, 1) := by decide +kernel
theorem dL_1310 : decode code 1310 = .ok (.iaload, 1) := by decide +kernel
theorem dL_1311 : decode code 1311 = .ok (.aload_n 0, 1) := by decide +kernel
theorem dL_1312 : decode code 1312 = .ok (.iload_n 3, 1) := by decide +kernel
theorem dL_1313 : decode code 1313 = .ok (.iconst 2, 1) := by decide +kernel
theorem dL_1314 : decode code 1314 = .ok (.iadd, 1) := by decide +kernel
theorem dL_1315 : decode code 1315 = .ok (.iaload, 1) := by decide +kernel
theorem dL_1316 : decode code 1316 = .ok (.invokevirtual 177, 3) := by decide +kernel
theorem dL_1319 : decode code 1319 = .ok (.if_icmp .eq 641, 3) := by decide +kernel
theorem dL_1322 : decode code 1322 = .ok (.iconst 0, 1) := by decide +kernel
theorem dL_1323 : decode code 1323 = .ok (.ireturn, 1) := by decide +kernel
theorem dL_1324 : decode code 1324 = .ok (.aload_n 1, 1) := by decide +kernel
theorem dL_1325 : decode code 1325 = .ok (.aload_n 0, 1) := by decide +kernel
theorem dL_1326 : decode code 1326 = .ok (.iload_n 3, 1) := by decide +kernel
theorem dL_1327 : decode code 1327 = .ok (.iconst 1, 1) := by decide +kernel
theorem dL_1328 : decode code 1328 = .ok (.iadd, 1) := by decide +kernel
theorem dL_1329 : decode code 1329 = .ok (.iaload, 1) := by decide +kernel
theorem dL_1330 : decode code 1330 = .ok (.aload_n 0, 1) := by decide +kernel
theorem dL_1331 : decode code 1331 = .ok (.iload_n 3, 1) := by decide +kernel
theorem dL_1332 : decode code 1332 = .ok (.iconst 2, 1) := by decide +kernel
theorem dL_1333 : decode code 1333 = .ok (.iadd, 1) := by decide +kernel
theorem dL_1334 : decode code 1334 = .ok (.iaload, 1) := by decide +kernel
theorem dL_1335 : decode code 1335 = .ok (.invokevirtual 178, 3) := by decide +kernel
theorem dL_1338 : decode code 1338 = .ok (.aload_n 2, 1) := by decide +kernel
theorem dL_1339 : decode code 1339 = .ok (.aload_n 0, 1) := by decide +kernel
theorem dL_1340 : decode code 1340 = .ok (.iload_n 3, 1) := by decide +kernel
theorem dL_1341 : decode code 1341 = .ok (.iconst 1, 1) := by decide +kernel
theorem dL_1342 : decode code 1342 = .ok (.iadd, 1) := by decide +kernel
theorem dL_1343 : decode code 1343 = .ok (.iaload, 1) := by decide +kernel
theorem dL_1344 : decode code 1344 = .ok (.aload_n 0, 1) := by decide +kernel
theorem dL_1345 : decode code 1345 = .ok (.iload_n 3, 1) := by decide +kernel
theorem dL_1346 : decode code 1346 = .ok (.iconst 2, 1) := by decide +kernel
theorem dL_1347 : decode code 1347 = .ok (.iadd, 1) := by decide +kernel
theorem dL_1348 : decode code 1348 = .ok (.iaload, 1) := by decide +kernel
theorem dL_1349 : decode code 1349 = .ok (.invokevirtual 181, 3) := by decide +kernel
theorem dL_1352 : decode code 1352 = .ok (.if_icmp .eq 608, 3) := by decide +kernel
theorem dL_1355 : decode code 1355 = .ok (.iconst 0, 1) := by decide +kernel
theorem dL_1356 : decode code 1356 = .ok (.ireturn, 1) := by decide +kernel
theorem dL_1357 : decode code 1357 = .ok (.aload_n 1, 1) := by decide +kernel
theorem dL_1358 : decode code 1358 = .ok (.aload_n 0, 1) := by decide +kernel
theorem dL_1359 : decode code 1359 = .ok (.iload_n 3, 1) := by decide +kernel
theorem dL_1360 : decode code 1360 = .ok (.iconst 1, 1) := by decide +kernel
theorem dL_1361 : decode code 1361 = .ok (.iadd, 1) := by decide +kernel
theorem dL_1362 : decode code 1362 = .ok (.iaload, 1) := by decide +kernel
theorem dL_1363 : decode code 1363 = .ok (.aload_n 0, 1) := by decide +kernel
theorem dL_1364 : decode code 1364 = .ok (.iload_n 3, 1) := by decide +kernel
theorem dL_1365 : decode code 1365 = .ok (.iconst 2, 1) := by decide +kernel
theorem dL_1366 : decode code 1366 = .ok (.iadd, 1) := by decide +kernel
theorem dL_1367 : decode code 1367 = .ok (.iaload, 1) := by decide +kernel
theorem dL_1368 : decode code 1368 = .ok (.invokevirtual 182, 3) := by decide +kernel
theorem dL_1371 : decode code 1371 = .ok (.aload_n 2, 1) := by decide +kernel
theorem dL_1372 : decode code 1372 = .ok (.aload_n 0, 1) := by decide +kernel
theorem dL_1373 : decode code 1373 = .ok (.iload_n 3, 1) := by decide +kernel
theorem dL_1374 : decode code 1374 = .ok (.iconst 1, 1) := by decide +kernel
theorem dL_1375 : decode code 1375 = .ok (.iadd, 1) := by decide +kernel
theorem dL_1376 : decode code 1376 = .ok (.iaload, 1) := by decide +kernel
theorem dL_1377 : decode code 1377 = .ok (.aload_n 0, 1) := by decide +kernel
theorem dL_1378 : decode code 1378 = .ok (.iload_n 3, 1) := by decide +kernel
theorem dL_1379 : decode code 1379 = .ok (.iconst 2, 1) := by decide +kernel
theorem dL_1380 : decode code 1380 = .ok (.iadd, 1) := by decide +kernel
theorem dL_1381 : decode code 1381 = .ok (.iaload, 1) := by decide +kernel
theorem dL_1382 : decode code 1382 = .ok (.invokevirtual 185, 3) := by decide +kernel
theorem dL_1385 : decode code 1385 = .ok (.if_icmp .eq 575, 3) := by decide +kernel
theorem dL_1388 : decode code 1388 = .ok (.iconst 0, 1) := by decide +kernel
theorem dL_1389 : decode code 1389 = .ok (.ireturn, 1) := by decide +kernel
theorem dL_1390 : decode code 1390 = .ok (.aload_n 1, 1) := by decide +kernel
theorem dL_1391 : decode code 1391 = .ok (.aload_n 0, 1) := by decide +kernel
theorem dL_1392 : decode code 1392 = .ok (.iload_n 3, 1) := by decide +kernel
theorem dL_1393 : decode code 1393 = .ok (.iconst 1, 1) := by decide +kernel
theorem dL_1394 : decode code 1394 = .ok (.iadd, 1) := by decide +kernel
theorem dL_1395 : decode code 1395 = .ok (.iaload, 1) := by decide +kernel
theorem dL_1396 : decode code 1396 = .ok (.aload_n 0, 1) := by decide +kernel
theorem dL_1397 : decode code 1397 = .ok (.iload_n 3, 1) := by decide +kernel
theorem dL_1398 : decode code 1398 = .ok (.iconst 2, 1) := by decide +kernel
theorem dL_1399 : decode code 1399 = .ok (.iadd, 1) := by decide +kernel
theorem dL_1400 : decode code 1400 = .ok (.iaload, 1) := by decide +kernel
theorem dL_1401 : decode code 1401 = .ok (.aload_n 0, 1) := by decide +kernel
theorem dL_1402 : decode code 1402 = .ok (.iload_n 3, 1) := by decide +kernel
theorem dL_1403 : decode code 1403 = .ok (.iconst 3, 1) := by decide +kernel
theorem dL_1404 : decode code 1404 = .ok (.iadd, 1) := by decide +kernel
theorem dL_1405 : decode code 1405 = .ok (.iaload, 1) := by decide +kernel
theorem dL_1406 : decode code 1406 = .ok (.ifCond .eq 7, 3) := by decide +kernel
theorem dL_1409 : decode code 1409 = .ok (.iconst 1, 1) := by decide +kernel
theorem dL_1410 : decode code 1410 = .ok (.goto 4, 3) := by decide +kernel
theorem dL_1413 : decode code 1413 = .ok (.iconst 0, 1) := by decide +kernel
theorem dL_1414 : decode code 1414 = .ok (.invokevirtual 186, 3) := by decide +kernel
theorem dL_1417 : decode code 1417 = .ok (.aload_n 2, 1) := by decide +kernel
theorem dL_1418 : decode code 1418 = .ok (.aload_n 0, 1) := by decide +kernel
theorem dL_1419 : decode code 1419 = .ok (.iload_n 3, 1) := by decide +kernel
theorem dL_1420 : decode code 1420 = .ok (.iconst 1, 1) := by decide +kernel
theorem dL_1421 : decode code 1421 = .ok (.iadd, 1) := by decide +kernel
theorem dL_1422 : decode code 1422 = .ok (.iaload, 1) := by decide +kernel
theorem dL_1423 : decode code 1423 = .ok (.aload_n 0, 1) := by decide +kernel
theorem dL_1424 : decode code 1424 = .ok (.iload_n 3, 1) := by decide +kernel
theorem dL_1425 : decode code 1425 = .ok (.iconst 2, 1) := by decide +kernel
theorem dL_1426 : decode code 1426 = .ok (.iadd, 1) := by decide +kernel
theorem dL_1427 : decode code 1427 = .ok (.iaload, 1) := by decide +kernel
theorem dL_1428 : decode code 1428 = .ok (.aload_n 0, 1) := by decide +kernel
theorem dL_1429 : decode code 1429 = .ok (.iload_n 3, 1) := by decide +kernel
theorem dL_1430 : decode code 1430 = .ok (.iconst 3, 1) := by decide +kernel
theorem dL_1431 : decode code 1431 = .ok (.iadd, 1) := by decide +kernel
theorem dL_1432 : decode code 1432 = .ok (.iaload, 1) := by decide +kernel
theorem dL_1433 : decode code 1433 = .ok (.ifCond .eq 7, 3) := by decide +kernel
theorem dL_1436 : decode code 1436 = .ok (.iconst 1, 1) := by decide +kernel
theorem dL_1437 : decode code 1437 = .ok (.goto 4, 3) := by decide +kernel
theorem dL_1440 : decode code 1440 = .ok (.iconst 0, 1) := by decide +kernel
theorem dL_1441 : decode code 1441 = .ok (.invokevirtual 190, 3) := by decide +kernel
theorem dL_1444 : decode code 1444 = .ok (.if_icmp .eq 516, 3) := by decide +kernel
theorem dL_1447 : decode code 1447 = .ok (.iconst 0, 1) := by decide +kernel
theorem dL_1448 : decode code 1448 = .ok (.ireturn, 1) := by decide +kernel
theorem dL_1449 : decode code 1449 = .ok (.aload_n 1, 1) := by decide +kernel
theorem dL_1450 : decode code 1450 = .ok (.aload_n 0, 1) := by decide +kernel
theorem dL_1451 : decode code 1451 = .ok (.iload_n 3, 1) := by decide +kernel
theorem dL_1452 : decode code 1452 = .ok (.iconst 1, 1) := by decide +kernel
theorem dL_1453 : decode code 1453 = .ok (.iadd, 1) := by decide +kernel
theorem dL_1454 : decode code 1454 = .ok (.iaload, 1) := by decide +kernel
theorem dL_1455 : decode code 1455 = .ok (.invokevirtual 191, 3) := by decide +kernel
theorem dL_1458 : decode code 1458 = .ok (.aload_n 2, 1) := by decide +kernel
theorem dL_1459 : decode code 1459 = .ok (.aload_n 0, 1) := by decide +kernel
theorem dL_1460 : decode code 1460 = .ok (.iload_n 3, 1) := by decide +kernel
theorem dL_1461 : decode code 1461 = .ok (.iconst 1, 1) := by decide +kernel
theorem dL_1462 : decode code 1462 = .ok (.iadd, 1) := by decide +kernel
theorem dL_1463 : decode code 1463 = .ok (.iaload, 1) := by decide +kernel
theorem dL_1464 : decode code 1464 = .ok (.invokevirtual 194, 3) := by decide +kernel
theorem dL_1467 : decode code 1467 = .ok (.if_icmp .eq 493, 3) := by decide +kernel
theorem dL_1470 : decode code 1470 = .ok (.iconst 0, 1) := by decide +kernel
theorem dL_1471 : decode code 1471 = .ok (.ireturn, 1) := by decide +kernel
theorem dL_1472 : decode code 1472 = .ok (.aload_n 1, 1) := by decide +kernel
theorem dL_1473 : decode code 1473 = .ok (.aload_n 0, 1) := by decide +kernel
theorem dL_1474 : decode code 1474 = .ok (.iload_n 3, 1) := by decide +kernel
theorem dL_1475 : decode code 1475 = .ok (.iconst 1, 1) := by decide +kernel
theorem dL_1476 : decode code 1476 = .ok (.iadd, 1) := by decide +kernel
theorem dL_1477 : decode code 1477 = .ok (.iaload, 1) := by decide +kernel
theorem dL_1478 : decode code 1478 = .ok (.aload_n 0, 1) := by decide +kernel
theorem dL_1479 : decode code 1479 = .ok (.iload_n 3, 1) := by decide +kernel
theorem dL_1480 : decode code 1480 = .ok (.iconst 2, 1) := by decide +kernel
theorem dL_1481 : decode code 1481 = .ok (.iadd, 1) := by decide +kernel
theorem dL_1482 : decode code 1482 = .ok (.iaload, 1) := by decide +kernel
theorem dL_1483 : decode code 1483 = .ok (.invokevirtual 195, 3) := by decide +kernel
theorem dL_1486 : decode code 1486 = .ok (.aload_n 2, 1) := by decide +kernel
theorem dL_1487 : decode code 1487 = .ok (.aload_n 0, 1) := by decide +kernel
theorem dL_1488 : decode code 1488 = .ok (.iload_n 3, 1) := by decide +kernel
theorem dL_1489 : decode code 1489 = .ok (.iconst 1, 1) := by decide +kernel
theorem dL_1490 : decode code 1490 = .ok (.iadd, 1) := by decide +kernel
theorem dL_1491 : decode code 1491 = .ok (.iaload, 1) := by decide +kernel
theorem dL_1492 : decode code 1492 = .ok (.aload_n 0, 1) := by decide +kernel
theorem dL_1493 : decode code 1493 = .ok (.iload_n 3, 1) := by decide +kernel
theorem dL_1494 : decode code 1494 = .ok (.iconst 2, 1) := by decide +kernel
theorem dL_1495 : decode code 1495 = .ok (.iadd, 1) := by decide +kernel
theorem dL_1496 : decode code 1496 = .ok (.iaload, 1) := by decide +kernel
theorem dL_1497 : decode code 1497 = .ok (.invokevirtual 198, 3) := by decide +kernel
theorem dL_1500 : decode code 1500 = .ok (.if_icmp .eq 460, 3) := by decide +kernel
theorem dL_1503 : decode code 1503 = .ok (.iconst 0, 1) := by decide +kernel
theorem dL_1504 : decode code 1504 = .ok (.ireturn, 1) := by decide +kernel
theorem dL_1505 : decode code 1505 = .ok (.aload_n 1, 1) := by decide +kernel
theorem dL_1506 : decode code 1506 = .ok (.aload_n 0, 1) := by decide +kernel
theorem dL_1507 : decode code 1507 = .ok (.iload_n 3, 1) := by decide +kernel
theorem dL_1508 : decode code 1508 = .ok (.iconst 1, 1) := by decide +kernel
theorem dL_1509 : decode code 1509 = .ok (.iadd, 1) := by decide +kernel
theorem dL_1510 : decode code 1510 = .ok (.iaload, 1) := by decide +kernel
theorem dL_1511 : decode code 1511 = .ok (.aload_n 0, 1) := by decide +kernel
theorem dL_1512 : decode code 1512 = .ok (.iload_n 3, 1) := by decide +kernel
theorem dL_1513 : decode code 1513 = .ok (.iconst 2, 1) := by decide +kernel
theorem dL_1514 : decode code 1514 = .ok (.iadd, 1) := by decide +kernel
theorem dL_1515 : decode code 1515 = .ok (.iaload, 1) := by decide +kernel
theorem dL_1516 : decode code 1516 = .ok (.invokevirtual 199, 3) := by decide +kernel
theorem dL_1519 : decode code 1519 = .ok (.aload_n 2, 1) := by decide +kernel
theorem dL_1520 : decode code 1520 = .ok (.aload_n 0, 1) := by decide +kernel
theorem dL_1521 : decode code 1521 = .ok (.iload_n 3, 1) := by decide +kernel
theorem dL_1522 : decode code 1522 = .ok (.iconst 1, 1) := by decide +kernel
theorem dL_1523 : decode code 1523 = .ok (.iadd, 1) := by decide +kernel
theorem dL_1524 : decode code 1524 = .ok (.iaload, 1) := by decide +kernel
theorem dL_1525 : decode code 1525 = .ok (.aload_n 0, 1) := by decide +kernel
theorem dL_1526 : decode code 1526 = .ok (.iload_n 3, 1) := by decide +kernel
theorem dL_1527 : decode code 1527 = .ok (.iconst 2, 1) := by decide +kernel
theorem dL_1528 : decode code 1528 = .ok (.iadd, 1) := by decide +kernel
theorem dL_1529 : decode code 1529 = .ok (.iaload, 1) := by decide +kernel
theorem dL_1530 : decode code 1530 = .ok (.invokevirtual 202, 3) := by decide +kernel
theorem dL_1533 : decode code 1533 = .ok (.if_icmp .eq 427, 3) := by decide +kernel
theorem dL_1536 : decode code 1536 = .ok (.iconst 0, 1) := by decide +kernel
theorem dL_1537 : decode code 1537 = .ok (.ireturn, 1) := by decide +kernel
theorem dL_1538 : decode code 1538 = .ok (.aload_n 1, 1) := by decide +kernel
theorem dL_1539 : decode code 1539 = .ok (.aload_n 0, 1) := by decide +kernel
theorem dL_1540 : decode code 1540 = .ok (.iload_n 3, 1) := by decide +kernel
theorem dL_1541 : decode code 1541 = .ok (.iconst 1, 1) := by decide +kernel
theorem dL_1542 : decode code 1542 = .ok (.iadd, 1) := by decide +kernel
theorem dL_1543 : decode code 1543 = .ok (.iaload, 1) := by decide +kernel
theorem dL_1544 : decode code 1544 = .ok (.aload_n 0, 1) := by decide +kernel
theorem dL_1545 : decode code 1545 = .ok (.iload_n 3, 1) := by decide +kernel
theorem dL_1546 : decode code 1546 = .ok (.iconst 2, 1) := by decide +kernel
theorem dL_1547 : decode code 1547 = .ok (.iadd, 1) := by decide +kernel
theorem dL_1548 : decode code 1548 = .ok (.iaload, 1) := by decide +kernel
theorem dL_1549 : decode code 1549 = .ok (.invokevirtual 203, 3) := by decide +kernel
theorem dL_1552 : decode code 1552 = .ok (.aload_n 2, 1) := by decide +kernel
theorem dL_1553 : decode code 1553 = .ok (.aload_n 0, 1) := by decide +kernel
theorem dL_1554 : decode code 1554 = .ok (.iload_n 3, 1) := by decide +kernel
theorem dL_1555 : decode code 1555 = .ok (.iconst 1, 1) := by decide +kernel
theorem dL_1556 : decode code 1556 = .ok (.iadd, 1) := by decide +kernel
theorem dL_1557 : decode code 1557 = .ok (.iaload, 1) := by decide +kernel
theorem dL_1558 : decode code 1558 = .ok (.aload_n 0, 1) := by decide +kernel
theorem dL_1559 : decode code 1559 = .ok (.iload_n 3, 1) := by decide +kernel
theorem dL_1560 : decode code 1560 = .ok (.iconst 2, 1) := by decide +kernel
theorem dL_1561 : decode code 1561 = .ok (.iadd, 1) := by decide +kernel
theorem dL_1562 : decode code 1562 = .ok (.iaload, 1) := by decide +kernel
theorem dL_1563 : decode code 1563 = .ok (.invokevirtual 206, 3) := by decide +kernel
theorem dL_1566 : decode code 1566 = .ok (.if_icmp .eq 394, 3) := by decide +kernel
theorem dL_1569 : decode code 1569 = .ok (.iconst 0, 1) := by decide +kernel
theorem dL_1570 : decode code 1570 = .ok (.ireturn, 1) := by decide +kernel
theorem dL_1571 : decode code 1571 = .ok (.aload_n 1, 1) := by decide +kernel
theorem dL_1572 : decode code 1572 = .ok (.aload_n 0, 1) := by decide +kernel
theorem dL_1573 : decode code 1573 = .ok (.iload_n 3, 1) := by decide +kernel
theorem dL_1574 : decode code 1574 = .ok (.iconst 1, 1) := by decide +kernel
theorem dL_1575 : decode code 1575 = .ok (.iadd, 1) := by decide +kernel
theorem dL_1576 : decode code 1576 = .ok (.iaload, 1) := by decide +kernel
theorem dL_1577 : decode code 1577 = .ok (.aload_n 0, 1) := by decide +kernel
theorem dL_1578 : decode code 1578 = .ok (.iload_n 3, 1) := by decide +kernel
theorem dL_1579 : decode code 1579 = .ok (.iconst 2, 1) := by decide +kernel
theorem dL_1580 : decode code 1580 = .ok (.iadd, 1) := by decide +kernel
theorem dL_1581 : decode code 1581 = .ok (.iaload, 1) := by decide +kernel
theorem dL_1582 : decode code 1582 = .ok (.invokevirtual 207, 3) := by decide +kernel
theorem dL_1585 : decode code 1585 = .ok (.aload_n 2, 1) := by decide +kernel
theorem dL_1586 : decode code 1586 = .ok (.aload_n 0, 1) := by decide +kernel
theorem dL_1587 : decode code 1587 = .ok (.iload_n 3, 1) := by decide +kernel
theorem dL_1588 : decode code 1588 = .ok (.iconst 1, 1) := by decide +kernel
theorem dL_1589 : decode code 1589 = .ok (.iadd, 1) := by decide +kernel
theorem dL_1590 : decode code 1590 = .ok (.iaload, 1) := by decide +kernel
theorem dL_1591 : decode code 1591 = .ok (.aload_n 0, 1) := by decide +kernel
theorem dL_1592 : decode code 1592 = .ok (.iload_n 3, 1) := by decide +kernel
theorem dL_1593 : decode code 1593 = .ok (.iconst 2, 1) := by decide +kernel
theorem dL_1594 : decode code 1594 = .ok (.iadd, 1) := by decide +kernel
theorem dL_1595 : decode code 1595 = .ok (.iaload, 1) := by decide +kernel
theorem dL_1596 : decode code 1596 = .ok (.invokevirtual 210, 3) := by decide +kernel
theorem dL_1599 : decode code 1599 = .ok (.if_icmp .eq 361, 3) := by decide +kernel
theorem dL_1602 : decode code 1602 = .ok (.iconst 0, 1) := by decide +kernel
theorem dL_1603 : decode code 1603 = .ok (.ireturn, 1) := by decide +kernel
theorem dL_1604 : decode code 1604 = .ok (.aload_n 1, 1) := by decide +kernel
theorem dL_1605 : decode code 1605 = .ok (.aload_n 0, 1) := by decide +kernel
theorem dL_1606 : decode code 1606 = .ok (.iload_n 3, 1) := by decide +kernel
theorem dL_1607 : decode code 1607 = .ok (.iconst 1, 1) := by decide +kernel
theorem dL_1608 : decode code 1608 = .ok (.iadd, 1) := by decide +kernel
theorem dL_1609 : decode code 1609 = .ok (.iaload, 1) := by decide +kernel
theorem dL_1610 : decode code 1610 = .ok (.aload_n 0, 1) := by decide +kernel
theorem dL_1611 : decode code 1611 = .ok (.iload_n 3, 1) := by decide +kernel
theorem dL_1612 : decode code 1612 = .ok (.iconst 2, 1) := by decide +kernel
theorem dL_1613 : decode code 1613 = .ok (.iadd, 1) := by decide +kernel
theorem dL_1614 : decode code 1614 = .ok (.iaload, 1) := by decide +kernel
theorem dL_1615 : decode code 1615 = .ok (.invokevirtual 211, 3) := by decide +kernel
theorem dL_1618 : decode code 1618 = .ok (.aload_n 2, 1) := by decide +kernel
theorem dL_1619 : decode code 1619 = .ok (.aload_n 0, 1) := by decide +kernel
theorem dL_1620 : decode code 1620 = .ok (.iload_n 3, 1) := by decide +kernel
theorem dL_1621 : decode code 1621 = .ok (.iconst 1, 1) := by decide +kernel
theorem dL_1622 : decode code 1622 = .ok (.iadd, 1) := by decide +kernel
theorem dL_1623 : decode code 1623 = .ok (.iaload, 1) := by decide +kernel
theorem dL_1624 : decode code 1624 = .ok (.aload_n 0, 1) := by decide +kernel
theorem dL_1625 : decode code 1625 = .ok (.iload_n 3, 1) := by decide +kernel
theorem dL_1626 : decode code 1626 = .ok (.iconst 2, 1) := by decide +kernel
theorem dL_1627 : decode code 1627 = .ok (.iadd, 1) := by decide +kernel
theorem dL_1628 : decode code 1628 = .ok (.iaload, 1) := by decide +kernel
theorem dL_1629 : decode code 1629 = .ok (.invokevirtual 214, 3) := by decide +kernel
theorem dL_1632 : decode code 1632 = .ok (.if_icmp .eq 328, 3) := by decide +kernel
theorem dL_1635 : decode code 1635 = .ok (.iconst 0, 1) := by decide +kernel
theorem dL_1636 : decode code 1636 = .ok (.ireturn, 1) := by decide +kernel
theorem dL_1637 : decode code 1637 = .ok (.aload_n 1, 1) := by decide +kernel
theorem dL_1638 : decode code 1638 = .ok (.aload_n 0, 1) := by decide +kernel
theorem dL_1639 : decode code 1639 = .ok (.iload_n 3, 1) := by decide +kernel
theorem dL_1640 : decode code 1640 = .ok (.iconst 1, 1) := by decide +kernel
theorem dL_1641 : decode code 1641 = .ok (.iadd, 1) := by decide +kernel
theorem dL_1642 : decode code 1642 = .ok (.iaload, 1) := by decide +kernel
theorem dL_1643 : decode code 1643 = .ok (.aload_n 0, 1) := by decide +kernel
theorem dL_1644 : decode code 1644 = .ok (.iload_n 3, 1) := by decide +kernel
theorem dL_1645 : decode code 1645 = .ok (.iconst 2, 1) := by decide +kernel
theorem dL_1646 : decode code 1646 = .ok (.iadd, 1) := by decide +kernel
theorem dL_1647 : decode code 1647 = .ok (.iaload, 1) := by decide +kernel
theorem dL_1648 : decode code 1648 = .ok (.invokevirtual 215, 3) := by decide +kernel
theorem dL_1651 : decode code 1651 = .ok (.aload_n 2, 1) := by decide +kernel
theorem dL_1652 : decode code 1652 = .ok (.aload_n 0, 1) := by decide +kernel
theorem dL_1653 : decode code 1653 = .ok (.iload_n 3, 1) := by decide +kernel
theorem dL_1654 : decode code 1654 = .ok (.iconst 1, 1) := by decide +kernel
theorem dL_1655 : decode code 1655 = .ok (.iadd, 1) := by decide +kernel
theorem dL_1656 : decode code 1656 = .ok (.iaload, 1) := by decide +kernel
theorem dL_1657 : decode code 1657 = .ok (.aload_n 0, 1) := by decide +kernel
theorem dL_1658 : decode code 1658 = .ok (.iload_n 3, 1) := by decide +kernel
theorem dL_1659 : decode code 1659 = .ok (.iconst 2, 1) := by decide +kernel
theorem dL_1660 : decode code 1660 = .ok (.iadd, 1) := by decide +kernel
theorem dL_1661 : decode code 1661 = .ok (.iaload, 1) := by decide +kernel
theorem dL_1662 : decode code 1662 = .ok (.invokevirtual 218, 3) := by decide +kernel
theorem dL_1665 : decode code 1665 = .ok (.if_icmp .eq 295, 3) := by decide +kernel
theorem dL_1668 : decode code 1668 = .ok (.iconst 0, 1) := by decide +kernel
theorem dL_1669 : decode code 1669 = .ok (.ireturn, 1) := by decide +kernel
theorem dL_1670 : decode code 1670 = .ok (.aload_n 1, 1) := by decide +kernel
theorem dL_1671 : decode code 1671 = .ok (.aload_n 0, 1) := by decide +kernel
theorem dL_1672 : decode code 1672 = .ok (.iload_n 3, 1) := by decide +kernel
theorem dL_1673 : decode code 1673 = .ok (.iconst 1, 1) := by decide +kernel
theorem dL_1674 : decode code 1674 = .ok (.iadd, 1) := by decide +kernel
theorem dL_1675 : decode code 1675 = .ok (.iaload, 1) := by decide +kernel
theorem dL_1676 : decode code 1676 = .ok (.aload_n 0, 1) := by decide +kernel
theorem dL_1677 : decode code 1677 = .ok (.iload_n 3, 1) := by decide +kernel
theorem dL_1678 : decode code 1678 = .ok (.iconst 2, 1) := by decide +kernel
theorem dL_1679 : decode code 1679 = .ok (.iadd, 1) := by decide +kernel
theorem dL_1680 : decode code 1680 = .ok (.iaload, 1) := by decide +kernel
theorem dL_1681 : decode code 1681 = .ok (.invokevirtual 219, 3) := by decide +kernel
theorem dL_1684 : decode code 1684 = .ok (.aload_n 2, 1) := by decide +kernel
theorem dL_1685 : decode code 1685 = .ok (.aload_n 0, 1) := by decide +kernel
theorem dL_1686 : decode code 1686 = .ok (.iload_n 3, 1) := by decide +kernel
theorem dL_1687 : decode code 1687 = .ok (.iconst 1, 1) := by decide +kernel
theorem dL_1688 : decode code 1688 = .ok (.iadd, 1) := by decide +kernel
theorem dL_1689 : decode code 1689 = .ok (.iaload, 1) := by decide +kernel
theorem dL_1690 : decode code 1690 = .ok (.aload_n 0, 1) := by decide +kernel
theorem dL_1691 : decode code 1691 = .ok (.iload_n 3, 1) := by decide +kernel
theorem dL_1692 : decode code 1692 = .ok (.iconst 2, 1) := by decide +kernel
theorem dL_1693 : decode code 1693 = .ok (.iadd, 1) := by decide +kernel
theorem dL_1694 : decode code 1694 = .ok (.iaload, 1) := by decide +kernel
theorem dL_1695 : decode code 1695 = .ok (.invokevirtual 222, 3) := by decide +kernel
theorem dL_1698 : decode code 1698 = .ok (.if_icmp .eq 262, 3) := by decide +kernel
theorem dL_1701 : decode code 1701 = .ok (.iconst 0, 1) := by decide +kernel
theorem dL_1702 : decode code 1702 = .ok (.ireturn, 1) := by decide +kernel
theorem dL_1703 : decode code 1703 = .ok (.aload_n 1, 1) := by decide +kernel
theorem dL_1704 : decode code 1704 = .ok (.aload_n 0, 1) := by decide +kernel
theorem dL_1705 : decode code 1705 = .ok (.iload_n 3, 1) := by decide +kernel
theorem dL_1706 : decode code 1706 = .ok (.iconst 1, 1) := by decide +kernel
theorem dL_1707 : decode code 1707 = .ok (.iadd, 1) := by decide +kernel
theorem dL_1708 : decode code 1708 = .ok (.iaload, 1) := by decide +kernel
theorem dL_1709 : decode code 1709 = .ok (.aload_n 0, 1) := by decide +kernel
theorem dL_1710 : decode code 1710 = .ok (.iload_n 3, 1) := by decide +kernel
theorem dL_1711 : decode code 1711 = .ok (.iconst 2, 1) := by decide +kernel
theorem dL_1712 : decode code 1712 = .ok (.iadd, 1) := by decide +kernel
theorem dL_1713 : decode code 1713 = .ok (.iaload, 1) := by decide +kernel
theorem dL_1714 : decode code 1714 = .ok (.invokevirtual 223, 3) := by decide +kernel
theorem dL_1717 : decode code 1717 = .ok (.aload_n 2, 1) := by decide +kernel
theorem dL_1718 : decode code 1718 = .ok (.aload_n 0, 1) := by decide +kernel
theorem dL_1719 : decode code 1719 = .ok (.iload_n 3, 1) := by decide +kernel
theorem dL_1720 : decode code 1720 = .ok (.iconst 1, 1) := by decide +kernel
theorem dL_1721 : decode code 1721 = .ok (.iadd, 1) := by decide +kernel
theorem dL_1722 : decode code 1722 = .ok (.iaload, 1) := by decide +kernel
theorem dL_1723 : decode code 1723 = .ok (.aload_n 0, 1) := by decide +kernel
theorem dL_1724 : decode code 1724 = .ok (.iload_n 3, 1) := by decide +kernel
theorem dL_1725 : decode code 1725 = .ok (.iconst 2, 1) := by decide +kernel
theorem dL_1726 : decode code 1726 = .ok (.iadd, 1) := by decide +kernel
theorem dL_1727 : decode code 1727 = .ok (.iaload, 1) := by decide +kernel
theorem dL_1728 : decode code 1728 = .ok (.invokevirtual 226, 3) := by decide +kernel
theorem dL_1731 : decode code 1731 = .ok (.if_icmp .eq 229, 3) := by decide +kernel
theorem dL_1734 : decode code 1734 = .ok (.iconst 0, 1) := by decide +kernel
theorem dL_1735 : decode code 1735 = .ok (.ireturn, 1) := by decide +kernel
theorem dL_1736 : decode code 1736 = .ok (.aload_n 1, 1) := by decide +kernel
theorem dL_1737 : decode code 1737 = .ok (.aload_n 0, 1) := by decide +kernel
theorem dL_1738 : decode code 1738 = .ok (.iload_n 3, 1) := by decide +kernel
theorem dL_1739 : decode code 1739 = .ok (.iconst 1, 1) := by decide +kernel
theorem dL_1740 : decode code 1740 = .ok (.iadd, 1) := by decide +kernel
theorem dL_1741 : decode code 1741 = .ok (.iaload, 1) := by decide +kernel
theorem dL_1742 : decode code 1742 = .ok (.aload_n 0, 1) := by decide +kernel
theorem dL_1743 : decode code 1743 = .ok (.iload_n 3, 1) := by decide +kernel
theorem dL_1744 : decode code 1744 = .ok (.iconst 2, 1) := by decide +kernel
theorem dL_1745 : decode code 1745 = .ok (.iadd, 1) := by decide +kernel
theorem dL_1746 : decode code 1746 = .ok (.iaload, 1) := by decide +kernel
theorem dL_1747 : decode code 1747 = .ok (.invokevirtual 227, 3) := by decide +kernel
theorem dL_1750 : decode code 1750 = .ok (.aload_n 2, 1) := by decide +kernel
theorem dL_1751 : decode code 1751 = .ok (.aload_n 0, 1) := by decide +kernel
theorem dL_1752 : decode code 1752 = .ok (.iload_n 3, 1) := by decide +kernel
theorem dL_1753 : decode code 1753 = .ok (.iconst 1, 1) := by decide +kernel
theorem dL_1754 : decode code 1754 = .ok (.iadd, 1) := by decide +kernel
theorem dL_1755 : decode code 1755 = .ok (.iaload, 1) := by decide +kernel
theorem dL_1756 : decode code 1756 = .ok (.aload_n 0, 1) := by decide +kernel
theorem dL_1757 : decode code 1757 = .ok (.iload_n 3, 1) := by decide +kernel
theorem dL_1758 : decode code 1758 = .ok (.iconst 2, 1) := by decide +kernel
theorem dL_1759 : decode code 1759 = .ok (.iadd, 1) := by decide +kernel
theorem dL_1760 : decode code 1760 = .ok (.iaload, 1) := by decide +kernel
theorem dL_1761 : decode code 1761 = .ok (.invokevirtual 230, 3) := by decide +kernel
theorem dL_1764 : decode code 1764 = .ok (.if_icmp .eq 196, 3) := by decide +kernel
theorem dL_1767 : decode code 1767 = .ok (.iconst 0, 1) := by decide +kernel
theorem dL_1768 : decode code 1768 = .ok (.ireturn, 1) := by decide +kernel
theorem dL_1769 : decode code 1769 = .ok (.aload_n 1, 1) := by decide +kernel
theorem dL_1770 : decode code 1770 = .ok (.aload_n 0, 1) := by decide +kernel
theorem dL_1771 : decode code 1771 = .ok (.iload_n 3, 1) := by decide +kernel
theorem dL_1772 : decode code 1772 = .ok (.iconst 1, 1) := by decide +kernel
theorem dL_1773 : decode code 1773 = .ok (.iadd, 1) := by decide +kernel
theorem dL_1774 : decode code 1774 = .ok (.iaload, 1) := by decide +kernel
theorem dL_1775 : decode code 1775 = .ok (.aload_n 0, 1) := by decide +kernel
theorem dL_1776 : decode code 1776 = .ok (.iload_n 3, 1) := by decide +kernel
theorem dL_1777 : decode code 1777 = .ok (.iconst 2, 1) := by decide +kernel
theorem dL_1778 : decode code 1778 = .ok (.iadd, 1) := by decide +kernel
theorem dL_1779 : decode code 1779 = .ok (.iaload, 1) := by decide +kernel
theorem dL_1780 : decode code 1780 = .ok (.aload_n 0, 1) := by decide +kernel
theorem dL_1781 : decode code 1781 = .ok (.iload_n 3, 1) := by decide +kernel
theorem dL_1782 : decode code 1782 = .ok (.iconst 3, 1) := by decide +kernel
theorem dL_1783 : decode code 1783 = .ok (.iadd, 1) := by decide +kernel
theorem dL_1784 : decode code 1784 = .ok (.iaload, 1) := by decide +kernel
theorem dL_1785 : decode code 1785 = .ok (.invokevirtual 231, 3) := by decide +kernel
theorem dL_1788 : decode code 1788 = .ok (.aload_n 2, 1) := by decide +kernel
theorem dL_1789 : decode code 1789 = .ok (.aload_n 0, 1) := by decide +kernel
theorem dL_1790 : decode code 1790 = .ok (.iload_n 3, 1) := by decide +kernel
theorem dL_1791 : decode code 1791 = .ok (.iconst 1, 1) := by decide +kernel
theorem dL_1792 : decode code 1792 = .ok (.iadd, 1) := by decide +kernel
theorem dL_1793 : decode code 1793 = .ok (.iaload, 1) := by decide +kernel
theorem dL_1794 : decode code 1794 = .ok (.aload_n 0, 1) := by decide +kernel
theorem dL_1795 : decode code 1795 = .ok (.iload_n 3, 1) := by decide +kernel
theorem dL_1796 : decode code 1796 = .ok (.iconst 2, 1) := by decide +kernel
theorem dL_1797 : decode code 1797 = .ok (.iadd, 1) := by decide +kernel
theorem dL_1798 : decode code 1798 = .ok (.iaload, 1) := by decide +kernel
theorem dL_1799 : decode code 1799 = .ok (.aload_n 0, 1) := by decide +kernel
theorem dL_1800 : decode code 1800 = .ok (.iload_n 3, 1) := by decide +kernel
theorem dL_1801 : decode code 1801 = .ok (.iconst 3, 1) := by decide +kernel
theorem dL_1802 : decode code 1802 = .ok (.iadd, 1) := by decide +kernel
theorem dL_1803 : decode code 1803 = .ok (.iaload, 1) := by decide +kernel
theorem dL_1804 : decode code 1804 = .ok (.invokevirtual 234, 3) := by decide +kernel
theorem dL_1807 : decode code 1807 = .ok (.if_icmp .eq 153, 3) := by decide +kernel
theorem dL_1810 : decode code 1810 = .ok (.iconst 0, 1) := by decide +kernel
theorem dL_1811 : decode code 1811 = .ok (.ireturn, 1) := by decide +kernel
theorem dL_1812 : decode code 1812 = .ok (.aload_n 1, 1) := by decide +kernel
theorem dL_1813 : decode code 1813 = .ok (.aload_n 0, 1) := by decide +kernel
theorem dL_1814 : decode code 1814 = .ok (.iload_n 3, 1) := by decide +kernel
theorem dL_1815 : decode code 1815 = .ok (.iconst 1, 1) := by decide +kernel
theorem dL_1816 : decode code 1816 = .ok (.iadd, 1) := by decide +kernel
theorem dL_1817 : decode code 1817 = .ok (.iaload, 1) := by decide +kernel
theorem dL_1818 : decode code 1818 = .ok (.aload_n 0, 1) := by decide +kernel
theorem dL_1819 : decode code 1819 = .ok (.iload_n 3, 1) := by decide +kernel
theorem dL_1820 : decode code 1820 = .ok (.iconst 2, 1) := by decide +kernel
theorem dL_1821 : decode code 1821 = .ok (.iadd, 1) := by decide +kernel
theorem dL_1822 : decode code 1822 = .ok (.iaload, 1) := by decide +kernel
theorem dL_1823 : decode code 1823 = .ok (.invokevirtual 235, 3) := by decide +kernel
theorem dL_1826 : decode code 1826 = .ok (.aload_n 2, 1) := by decide +kernel
theorem dL_1827 : decode code 1827 = .ok (.aload_n 0, 1) := by decide +kernel
theorem dL_1828 : decode code 1828 = .ok (.iload_n 3, 1) := by decide +kernel
theorem dL_1829 : decode code 1829 = .ok (.iconst 1, 1) := by decide +kernel
theorem dL_1830 : decode code 1830 = .ok (.iadd, 1) := by decide +kernel
theorem dL_1831 : decode code 1831 = .ok (.iaload, 1) := by decide +kernel
theorem dL_1832 : decode code 1832 = .ok (.aload_n 0, 1) := by decide +kernel
theorem dL_1833 : decode code 1833 = .ok (.iload_n 3, 1) := by decide +kernel
theorem dL_1834 : decode code 1834 = .ok (.iconst 2, 1) := by decide +kernel
theorem dL_1835 : decode code 1835 = .ok (.iadd, 1) := by decide +kernel
theorem dL_1836 : decode code 1836 = .ok (.iaload, 1) := by decide +kernel
theorem dL_1837 : decode code 1837 = .ok (.invokevirtual 238, 3) := by decide +kernel
theorem dL_1840 : decode code 1840 = .ok (.if_icmp .eq 120, 3) := by decide +kernel
theorem dL_1843 : decode code 1843 = .ok (.iconst 0, 1) := by decide +kernel
theorem dL_1844 : decode code 1844 = .ok (.ireturn, 1) := by decide +kernel
theorem dL_1845 : decode code 1845 = .ok (.aload_n 1, 1) := by decide +kernel
theorem dL_1846 : decode code 1846 = .ok (.aload_n 0, 1) := by decide +kernel
theorem dL_1847 : decode code 1847 = .ok (.iload_n 3, 1) := by decide +kernel
theorem dL_1848 : decode code 1848 = .ok (.iconst 1, 1) := by decide +kernel
theorem dL_1849 : decode code 1849 = .ok (.iadd, 1) := by decide +kernel
theorem dL_1850 : decode code 1850 = .ok (.iaload, 1) := by decide +kernel
theorem dL_1851 : decode code 1851 = .ok (.invokevirtual 239, 3) := by decide +kernel
theorem dL_1854 : decode code 1854 = .ok (.aload_n 2, 1) := by decide +kernel
theorem dL_1855 : decode code 1855 = .ok (.aload_n 0, 1) := by decide +kernel
theorem dL_1856 : decode code 1856 = .ok (.iload_n 3, 1) := by decide +kernel
theorem dL_1857 : decode code 1857 = .ok (.iconst 1, 1) := by decide +kernel
theorem dL_1858 : decode code 1858 = .ok (.iadd, 1) := by decide +kernel
theorem dL_1859 : decode code 1859 = .ok (.iaload, 1) := by decide +kernel
theorem dL_1860 : decode code 1860 = .ok (.invokevirtual 242, 3) := by decide +kernel
theorem dL_1863 : decode code 1863 = .ok (.if_icmp .eq 97, 3) := by decide +kernel
theorem dL_1866 : decode code 1866 = .ok (.iconst 0, 1) := by decide +kernel
theorem dL_1867 : decode code 1867 = .ok (.ireturn, 1) := by decide +kernel
theorem dL_1868 : decode code 1868 = .ok (.aload_n 1, 1) := by decide +kernel
theorem dL_1869 : decode code 1869 = .ok (.aload_n 0, 1) := by decide +kernel
theorem dL_1870 : decode code 1870 = .ok (.iload_n 3, 1) := by decide +kernel
theorem dL_1871 : decode code 1871 = .ok (.iconst 1, 1) := by decide +kernel
theorem dL_1872 : decode code 1872 = .ok (.iadd, 1) := by decide +kernel
theorem dL_1873 : decode code 1873 = .ok (.iaload, 1) := by decide +kernel
theorem dL_1874 : decode code 1874 = .ok (.invokevirtual 243, 3) := by decide +kernel
theorem dL_1877 : decode code 1877 = .ok (.aload_n 2, 1) := by decide +kernel
theorem dL_1878 : decode code 1878 = .ok (.aload_n 0, 1) := by decide +kernel
theorem dL_1879 : decode code 1879 = .ok (.iload_n 3, 1) := by decide +kernel
theorem dL_1880 : decode code 1880 = .ok (.iconst 1, 1) := by decide +kernel
theorem dL_1881 : decode code 1881 = .ok (.iadd, 1) := by decide +kernel
theorem dL_1882 : decode code 1882 = .ok (.iaload, 1) := by decide +kernel
theorem dL_1883 : decode code 1883 = .ok (.invokevirtual 246, 3) := by decide +kernel
theorem dL_1886 : decode code 1886 = .ok (.if_icmp .eq 74, 3) := by decide +kernel
theorem dL_1889 : decode code 1889 = .ok (.iconst 0, 1) := by decide +kernel
theorem dL_1890 : decode code 1890 = .ok (.ireturn, 1) := by decide +kernel
theorem dL_1891 : decode code 1891 = .ok (.aload_n 1, 1) := by decide +kernel
theorem dL_1892 : decode code 1892 = .ok (.aload_n 0, 1) := by decide +kernel
theorem dL_1893 : decode code 1893 = .ok (.iload_n 3, 1) := by decide +kernel
theorem dL_1894 : decode code 1894 = .ok (.iconst 1, 1) := by decide +kernel
theorem dL_1895 : decode code 1895 = .ok (.iadd, 1) := by decide +kernel
theorem dL_1896 : decode code 1896 = .ok (.iaload, 1) := by decide +kernel
theorem dL_1897 : decode code 1897 = .ok (.invokevirtual 247, 3) := by decide +kernel
theorem dL_1900 : decode code 1900 = .ok (.aload_n 2, 1) := by decide +kernel
theorem dL_1901 : decode code 1901 = .ok (.aload_n 0, 1) := by decide +kernel
theorem dL_1902 : decode code 1902 = .ok (.iload_n 3, 1) := by decide +kernel
theorem dL_1903 : decode code 1903 = .ok (.iconst 1, 1) := by decide +kernel
theorem dL_1904 : decode code 1904 = .ok (.iadd, 1) := by decide +kernel
theorem dL_1905 : decode code 1905 = .ok (.iaload, 1) := by decide +kernel
theorem dL_1906 : decode code 1906 = .ok (.invokevirtual 250, 3) := by decide +kernel
theorem dL_1909 : decode code 1909 = .ok (.if_icmp .eq 51, 3) := by decide +kernel
theorem dL_1912 : decode code 1912 = .ok (.iconst 0, 1) := by decide +kernel
theorem dL_1913 : decode code 1913 = .ok (.ireturn, 1) := by decide +kernel
theorem dL_1914 : decode code 1914 = .ok (.aload_n 1, 1) := by decide +kernel
theorem dL_1915 : decode code 1915 = .ok (.aload_n 0, 1) := by decide +kernel
theorem dL_1916 : decode code 1916 = .ok (.iload_n 3, 1) := by decide +kernel
theorem dL_1917 : decode code 1917 = .ok (.iconst 1, 1) := by decide +kernel
theorem dL_1918 : decode code 1918 = .ok (.iadd, 1) := by decide +kernel
theorem dL_1919 : decode code 1919 = .ok (.iaload, 1) := by decide +kernel
theorem dL_1920 : decode code 1920 = .ok (.invokevirtual 251, 3) := by decide +kernel
theorem dL_1923 : decode code 1923 = .ok (.aload_n 2, 1) := by decide +kernel
theorem dL_1924 : decode code 1924 = .ok (.aload_n 0, 1) := by decide +kernel
theorem dL_1925 : decode code 1925 = .ok (.iload_n 3, 1) := by decide +kernel
theorem dL_1926 : decode code 1926 = .ok (.iconst 1, 1) := by decide +kernel
theorem dL_1927 : decode code 1927 = .ok (.iadd, 1) := by decide +kernel
theorem dL_1928 : decode code 1928 = .ok (.iaload, 1) := by decide +kernel
theorem dL_1929 : decode code 1929 = .ok (.invokevirtual 254, 3) := by decide +kernel
theorem dL_1932 : decode code 1932 = .ok (.if_icmp .eq 28, 3) := by decide +kernel
theorem dL_1935 : decode code 1935 = .ok (.iconst 0, 1) := by decide +kernel
theorem dL_1936 : decode code 1936 = .ok (.ireturn, 1) := by decide +kernel
theorem dL_1937 : decode code 1937 = .ok (.aload_n 1, 1) := by decide +kernel
theorem dL_1938 : decode code 1938 = .ok (.aload_n 0, 1) := by decide +kernel
theorem dL_1939 : decode code 1939 = .ok (.iload_n 3, 1) := by decide +kernel
theorem dL_1940 : decode code 1940 = .ok (.iconst 1, 1) := by decide +kernel
theorem dL_1941 : decode code 1941 = .ok (.iadd, 1) := by decide +kernel
theorem dL_1942 : decode code 1942 = .ok (.iaload, 1) := by decide +kernel
theorem dL_1943 : decode code 1943 = .ok (.invokevirtual 255, 3) := by decide +kernel
theorem dL_1946 : decode code 1946 = .ok (.aload_n 2, 1) := by decide +kernel
theorem dL_1947 : decode code 1947 = .ok (.aload_n 0, 1) := by decide +kernel
theorem dL_1948 : decode code 1948 = .ok (.iload_n 3, 1) := by decide +kernel
theorem dL_1949 : decode code 1949 = .ok (.iconst 1, 1) := by decide +kernel
theorem dL_1950 : decode code 1950 = .ok (.iadd, 1) := by decide +kernel
theorem dL_1951 : decode code 1951 = .ok (.iaload, 1) := by decide +kernel
theorem dL_1952 : decode code 1952 = .ok (.invokevirtual 258, 3) := by decide +kernel
theorem dL_1955 : decode code 1955 = .ok (.if_icmp .eq 5, 3) := by decide +kernel
theorem dL_1958 : decode code 1958 = .ok (.iconst 0, 1) := by decide +kernel
theorem dL_1959 : decode code 1959 = .ok (.ireturn, 1) := by decide +kernel
theorem dL_1960 : decode code 1960 = .ok (.iinc 3 4, 3) := by decide +kernel
theorem dL_1963 : decode code 1963 = .ok (.goto (-1945), 3) := by decide +kernel
theorem dL_1966 : decode code 1966 = .ok (.iconst 1, 1) := by decide +kernel
theorem dL_1967 : decode code 1967 = .ok (.ireturn, 1) := by decide +kernel
