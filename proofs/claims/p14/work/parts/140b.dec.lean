theorem dq_dL_law_1220_0 : (decode cL_law 1220 = .ok (.iaload, 1)) ∧ (decode cL_law 1221 = .ok (.invokevirtual 124, 3)) ∧ (decode cL_law 1224 = .ok (.pop, 1)) ∧ (decode cL_law 1225 = .ok (.aload_n 2, 1)) ∧ (decode cL_law 1226 = .ok (.aload_n 0, 1)) ∧ (decode cL_law 1227 = .ok (.iload_n 3, 1)) ∧ (decode cL_law 1228 = .ok (.iconst 1, 1)) ∧ (decode cL_law 1229 = .ok (.iadd, 1)) ∧ (decode cL_law 1230 = .ok (.iaload, 1)) ∧ (decode cL_law 1231 = .ok (.aload_n 0, 1)) ∧ (decode cL_law 1232 = .ok (.iload_n 3, 1)) ∧ (decode cL_law 1233 = .ok (.iconst 2, 1)) ∧ (decode cL_law 1234 = .ok (.iadd, 1)) ∧ (decode cL_law 1235 = .ok (.iaload, 1)) := by decide +kernel
theorem dL_law_1220 : decode cL_law 1220 = .ok (.iaload, 1) := dq_dL_law_1220_0.1
theorem dL_law_1221 : decode cL_law 1221 = .ok (.invokevirtual 124, 3) := dq_dL_law_1220_0.2.1
theorem dL_law_1224 : decode cL_law 1224 = .ok (.pop, 1) := dq_dL_law_1220_0.2.2.1
theorem dL_law_1225 : decode cL_law 1225 = .ok (.aload_n 2, 1) := dq_dL_law_1220_0.2.2.2.1
theorem dL_law_1226 : decode cL_law 1226 = .ok (.aload_n 0, 1) := dq_dL_law_1220_0.2.2.2.2.1
theorem dL_law_1227 : decode cL_law 1227 = .ok (.iload_n 3, 1) := dq_dL_law_1220_0.2.2.2.2.2.1
theorem dL_law_1228 : decode cL_law 1228 = .ok (.iconst 1, 1) := dq_dL_law_1220_0.2.2.2.2.2.2.1
theorem dL_law_1229 : decode cL_law 1229 = .ok (.iadd, 1) := dq_dL_law_1220_0.2.2.2.2.2.2.2.1
theorem dL_law_1230 : decode cL_law 1230 = .ok (.iaload, 1) := dq_dL_law_1220_0.2.2.2.2.2.2.2.2.1
theorem dL_law_1231 : decode cL_law 1231 = .ok (.aload_n 0, 1) := dq_dL_law_1220_0.2.2.2.2.2.2.2.2.2.1
theorem dL_law_1232 : decode cL_law 1232 = .ok (.iload_n 3, 1) := dq_dL_law_1220_0.2.2.2.2.2.2.2.2.2.2.1
theorem dL_law_1233 : decode cL_law 1233 = .ok (.iconst 2, 1) := dq_dL_law_1220_0.2.2.2.2.2.2.2.2.2.2.2.1
theorem dL_law_1234 : decode cL_law 1234 = .ok (.iadd, 1) := dq_dL_law_1220_0.2.2.2.2.2.2.2.2.2.2.2.2.1
theorem dL_law_1235 : decode cL_law 1235 = .ok (.iaload, 1) := dq_dL_law_1220_0.2.2.2.2.2.2.2.2.2.2.2.2.2
theorem dq_dL_law_1236_1 : (decode cL_law 1236 = .ok (.invokevirtual 128, 3)) ∧ (decode cL_law 1239 = .ok (.pop, 1)) ∧ (decode cL_law 1240 = .ok (.goto 238, 3)) ∧ (decode cL_law 1243 = .ok (.aload_n 1, 1)) ∧ (decode cL_law 1244 = .ok (.aload_n 0, 1)) ∧ (decode cL_law 1245 = .ok (.iload_n 3, 1)) ∧ (decode cL_law 1246 = .ok (.iconst 1, 1)) ∧ (decode cL_law 1247 = .ok (.iadd, 1)) ∧ (decode cL_law 1248 = .ok (.iaload, 1)) ∧ (decode cL_law 1249 = .ok (.aload_n 0, 1)) ∧ (decode cL_law 1250 = .ok (.iload_n 3, 1)) ∧ (decode cL_law 1251 = .ok (.iconst 2, 1)) ∧ (decode cL_law 1252 = .ok (.iadd, 1)) ∧ (decode cL_law 1253 = .ok (.iaload, 1)) := by decide +kernel
theorem dL_law_1236 : decode cL_law 1236 = .ok (.invokevirtual 128, 3) := dq_dL_law_1236_1.1
theorem dL_law_1239 : decode cL_law 1239 = .ok (.pop, 1) := dq_dL_law_1236_1.2.1
theorem dL_law_1240 : decode cL_law 1240 = .ok (.goto 238, 3) := dq_dL_law_1236_1.2.2.1
theorem dL_law_1243 : decode cL_law 1243 = .ok (.aload_n 1, 1) := dq_dL_law_1236_1.2.2.2.1
theorem dL_law_1244 : decode cL_law 1244 = .ok (.aload_n 0, 1) := dq_dL_law_1236_1.2.2.2.2.1
theorem dL_law_1245 : decode cL_law 1245 = .ok (.iload_n 3, 1) := dq_dL_law_1236_1.2.2.2.2.2.1
theorem dL_law_1246 : decode cL_law 1246 = .ok (.iconst 1, 1) := dq_dL_law_1236_1.2.2.2.2.2.2.1
theorem dL_law_1247 : decode cL_law 1247 = .ok (.iadd, 1) := dq_dL_law_1236_1.2.2.2.2.2.2.2.1
theorem dL_law_1248 : decode cL_law 1248 = .ok (.iaload, 1) := dq_dL_law_1236_1.2.2.2.2.2.2.2.2.1
theorem dL_law_1249 : decode cL_law 1249 = .ok (.aload_n 0, 1) := dq_dL_law_1236_1.2.2.2.2.2.2.2.2.2.1
theorem dL_law_1250 : decode cL_law 1250 = .ok (.iload_n 3, 1) := dq_dL_law_1236_1.2.2.2.2.2.2.2.2.2.2.1
theorem dL_law_1251 : decode cL_law 1251 = .ok (.iconst 2, 1) := dq_dL_law_1236_1.2.2.2.2.2.2.2.2.2.2.2.1
theorem dL_law_1252 : decode cL_law 1252 = .ok (.iadd, 1) := dq_dL_law_1236_1.2.2.2.2.2.2.2.2.2.2.2.2.1
theorem dL_law_1253 : decode cL_law 1253 = .ok (.iaload, 1) := dq_dL_law_1236_1.2.2.2.2.2.2.2.2.2.2.2.2.2
theorem dq_dL_law_1254_2 : (decode cL_law 1254 = .ok (.aload_n 0, 1)) ∧ (decode cL_law 1255 = .ok (.iload_n 3, 1)) ∧ (decode cL_law 1256 = .ok (.iconst 3, 1)) ∧ (decode cL_law 1257 = .ok (.iadd, 1)) ∧ (decode cL_law 1258 = .ok (.iaload, 1)) ∧ (decode cL_law 1259 = .ok (.invokevirtual 129, 3)) ∧ (decode cL_law 1262 = .ok (.pop, 1)) ∧ (decode cL_law 1263 = .ok (.aload_n 2, 1)) ∧ (decode cL_law 1264 = .ok (.aload_n 0, 1)) ∧ (decode cL_law 1265 = .ok (.iload_n 3, 1)) ∧ (decode cL_law 1266 = .ok (.iconst 1, 1)) ∧ (decode cL_law 1267 = .ok (.iadd, 1)) ∧ (decode cL_law 1268 = .ok (.iaload, 1)) ∧ (decode cL_law 1269 = .ok (.aload_n 0, 1)) := by decide +kernel
theorem dL_law_1254 : decode cL_law 1254 = .ok (.aload_n 0, 1) := dq_dL_law_1254_2.1
theorem dL_law_1255 : decode cL_law 1255 = .ok (.iload_n 3, 1) := dq_dL_law_1254_2.2.1
theorem dL_law_1256 : decode cL_law 1256 = .ok (.iconst 3, 1) := dq_dL_law_1254_2.2.2.1
theorem dL_law_1257 : decode cL_law 1257 = .ok (.iadd, 1) := dq_dL_law_1254_2.2.2.2.1
theorem dL_law_1258 : decode cL_law 1258 = .ok (.iaload, 1) := dq_dL_law_1254_2.2.2.2.2.1
theorem dL_law_1259 : decode cL_law 1259 = .ok (.invokevirtual 129, 3) := dq_dL_law_1254_2.2.2.2.2.2.1
theorem dL_law_1262 : decode cL_law 1262 = .ok (.pop, 1) := dq_dL_law_1254_2.2.2.2.2.2.2.1
theorem dL_law_1263 : decode cL_law 1263 = .ok (.aload_n 2, 1) := dq_dL_law_1254_2.2.2.2.2.2.2.2.1
theorem dL_law_1264 : decode cL_law 1264 = .ok (.aload_n 0, 1) := dq_dL_law_1254_2.2.2.2.2.2.2.2.2.1
theorem dL_law_1265 : decode cL_law 1265 = .ok (.iload_n 3, 1) := dq_dL_law_1254_2.2.2.2.2.2.2.2.2.2.1
theorem dL_law_1266 : decode cL_law 1266 = .ok (.iconst 1, 1) := dq_dL_law_1254_2.2.2.2.2.2.2.2.2.2.2.1
theorem dL_law_1267 : decode cL_law 1267 = .ok (.iadd, 1) := dq_dL_law_1254_2.2.2.2.2.2.2.2.2.2.2.2.1
theorem dL_law_1268 : decode cL_law 1268 = .ok (.iaload, 1) := dq_dL_law_1254_2.2.2.2.2.2.2.2.2.2.2.2.2.1
theorem dL_law_1269 : decode cL_law 1269 = .ok (.aload_n 0, 1) := dq_dL_law_1254_2.2.2.2.2.2.2.2.2.2.2.2.2.2
theorem dq_dL_law_1270_3 : (decode cL_law 1270 = .ok (.iload_n 3, 1)) ∧ (decode cL_law 1271 = .ok (.iconst 2, 1)) ∧ (decode cL_law 1272 = .ok (.iadd, 1)) ∧ (decode cL_law 1273 = .ok (.iaload, 1)) ∧ (decode cL_law 1274 = .ok (.aload_n 0, 1)) ∧ (decode cL_law 1275 = .ok (.iload_n 3, 1)) ∧ (decode cL_law 1276 = .ok (.iconst 3, 1)) ∧ (decode cL_law 1277 = .ok (.iadd, 1)) ∧ (decode cL_law 1278 = .ok (.iaload, 1)) ∧ (decode cL_law 1279 = .ok (.invokevirtual 132, 3)) ∧ (decode cL_law 1282 = .ok (.pop, 1)) ∧ (decode cL_law 1283 = .ok (.goto 195, 3)) ∧ (decode cL_law 1286 = .ok (.aload_n 1, 1)) ∧ (decode cL_law 1287 = .ok (.aload_n 0, 1)) := by decide +kernel
theorem dL_law_1270 : decode cL_law 1270 = .ok (.iload_n 3, 1) := dq_dL_law_1270_3.1
theorem dL_law_1271 : decode cL_law 1271 = .ok (.iconst 2, 1) := dq_dL_law_1270_3.2.1
theorem dL_law_1272 : decode cL_law 1272 = .ok (.iadd, 1) := dq_dL_law_1270_3.2.2.1
theorem dL_law_1273 : decode cL_law 1273 = .ok (.iaload, 1) := dq_dL_law_1270_3.2.2.2.1
theorem dL_law_1274 : decode cL_law 1274 = .ok (.aload_n 0, 1) := dq_dL_law_1270_3.2.2.2.2.1
theorem dL_law_1275 : decode cL_law 1275 = .ok (.iload_n 3, 1) := dq_dL_law_1270_3.2.2.2.2.2.1
theorem dL_law_1276 : decode cL_law 1276 = .ok (.iconst 3, 1) := dq_dL_law_1270_3.2.2.2.2.2.2.1
theorem dL_law_1277 : decode cL_law 1277 = .ok (.iadd, 1) := dq_dL_law_1270_3.2.2.2.2.2.2.2.1
theorem dL_law_1278 : decode cL_law 1278 = .ok (.iaload, 1) := dq_dL_law_1270_3.2.2.2.2.2.2.2.2.1
theorem dL_law_1279 : decode cL_law 1279 = .ok (.invokevirtual 132, 3) := dq_dL_law_1270_3.2.2.2.2.2.2.2.2.2.1
theorem dL_law_1282 : decode cL_law 1282 = .ok (.pop, 1) := dq_dL_law_1270_3.2.2.2.2.2.2.2.2.2.2.1
theorem dL_law_1283 : decode cL_law 1283 = .ok (.goto 195, 3) := dq_dL_law_1270_3.2.2.2.2.2.2.2.2.2.2.2.1
theorem dL_law_1286 : decode cL_law 1286 = .ok (.aload_n 1, 1) := dq_dL_law_1270_3.2.2.2.2.2.2.2.2.2.2.2.2.1
theorem dL_law_1287 : decode cL_law 1287 = .ok (.aload_n 0, 1) := dq_dL_law_1270_3.2.2.2.2.2.2.2.2.2.2.2.2.2
theorem dq_dL_law_1288_4 : (decode cL_law 1288 = .ok (.iload_n 3, 1)) ∧ (decode cL_law 1289 = .ok (.iconst 1, 1)) ∧ (decode cL_law 1290 = .ok (.iadd, 1)) ∧ (decode cL_law 1291 = .ok (.iaload, 1)) ∧ (decode cL_law 1292 = .ok (.aload_n 0, 1)) ∧ (decode cL_law 1293 = .ok (.iload_n 3, 1)) ∧ (decode cL_law 1294 = .ok (.iconst 2, 1)) ∧ (decode cL_law 1295 = .ok (.iadd, 1)) ∧ (decode cL_law 1296 = .ok (.iaload, 1)) ∧ (decode cL_law 1297 = .ok (.aload_n 0, 1)) ∧ (decode cL_law 1298 = .ok (.iload_n 3, 1)) ∧ (decode cL_law 1299 = .ok (.iconst 3, 1)) ∧ (decode cL_law 1300 = .ok (.iadd, 1)) ∧ (decode cL_law 1301 = .ok (.iaload, 1)) := by decide +kernel
theorem dL_law_1288 : decode cL_law 1288 = .ok (.iload_n 3, 1) := dq_dL_law_1288_4.1
theorem dL_law_1289 : decode cL_law 1289 = .ok (.iconst 1, 1) := dq_dL_law_1288_4.2.1
theorem dL_law_1290 : decode cL_law 1290 = .ok (.iadd, 1) := dq_dL_law_1288_4.2.2.1
theorem dL_law_1291 : decode cL_law 1291 = .ok (.iaload, 1) := dq_dL_law_1288_4.2.2.2.1
theorem dL_law_1292 : decode cL_law 1292 = .ok (.aload_n 0, 1) := dq_dL_law_1288_4.2.2.2.2.1
theorem dL_law_1293 : decode cL_law 1293 = .ok (.iload_n 3, 1) := dq_dL_law_1288_4.2.2.2.2.2.1
theorem dL_law_1294 : decode cL_law 1294 = .ok (.iconst 2, 1) := dq_dL_law_1288_4.2.2.2.2.2.2.1
theorem dL_law_1295 : decode cL_law 1295 = .ok (.iadd, 1) := dq_dL_law_1288_4.2.2.2.2.2.2.2.1
theorem dL_law_1296 : decode cL_law 1296 = .ok (.iaload, 1) := dq_dL_law_1288_4.2.2.2.2.2.2.2.2.1
theorem dL_law_1297 : decode cL_law 1297 = .ok (.aload_n 0, 1) := dq_dL_law_1288_4.2.2.2.2.2.2.2.2.2.1
theorem dL_law_1298 : decode cL_law 1298 = .ok (.iload_n 3, 1) := dq_dL_law_1288_4.2.2.2.2.2.2.2.2.2.2.1
theorem dL_law_1299 : decode cL_law 1299 = .ok (.iconst 3, 1) := dq_dL_law_1288_4.2.2.2.2.2.2.2.2.2.2.2.1
theorem dL_law_1300 : decode cL_law 1300 = .ok (.iadd, 1) := dq_dL_law_1288_4.2.2.2.2.2.2.2.2.2.2.2.2.1
theorem dL_law_1301 : decode cL_law 1301 = .ok (.iaload, 1) := dq_dL_law_1288_4.2.2.2.2.2.2.2.2.2.2.2.2.2
theorem dq_dL_law_1302_5 : (decode cL_law 1302 = .ok (.aload_n 0, 1)) ∧ (decode cL_law 1303 = .ok (.iload_n 3, 1)) ∧ (decode cL_law 1304 = .ok (.iconst 4, 1)) ∧ (decode cL_law 1305 = .ok (.iadd, 1)) ∧ (decode cL_law 1306 = .ok (.iaload, 1)) ∧ (decode cL_law 1307 = .ok (.aload_n 0, 1)) ∧ (decode cL_law 1308 = .ok (.iload_n 3, 1)) ∧ (decode cL_law 1309 = .ok (.iconst 5, 1)) ∧ (decode cL_law 1310 = .ok (.iadd, 1)) ∧ (decode cL_law 1311 = .ok (.iaload, 1)) ∧ (decode cL_law 1312 = .ok (.invokevirtual 133, 3)) ∧ (decode cL_law 1315 = .ok (.pop2, 1)) ∧ (decode cL_law 1316 = .ok (.aload_n 2, 1)) ∧ (decode cL_law 1317 = .ok (.aload_n 0, 1)) := by decide +kernel
theorem dL_law_1302 : decode cL_law 1302 = .ok (.aload_n 0, 1) := dq_dL_law_1302_5.1
theorem dL_law_1303 : decode cL_law 1303 = .ok (.iload_n 3, 1) := dq_dL_law_1302_5.2.1
theorem dL_law_1304 : decode cL_law 1304 = .ok (.iconst 4, 1) := dq_dL_law_1302_5.2.2.1
theorem dL_law_1305 : decode cL_law 1305 = .ok (.iadd, 1) := dq_dL_law_1302_5.2.2.2.1
theorem dL_law_1306 : decode cL_law 1306 = .ok (.iaload, 1) := dq_dL_law_1302_5.2.2.2.2.1
theorem dL_law_1307 : decode cL_law 1307 = .ok (.aload_n 0, 1) := dq_dL_law_1302_5.2.2.2.2.2.1
theorem dL_law_1308 : decode cL_law 1308 = .ok (.iload_n 3, 1) := dq_dL_law_1302_5.2.2.2.2.2.2.1
theorem dL_law_1309 : decode cL_law 1309 = .ok (.iconst 5, 1) := dq_dL_law_1302_5.2.2.2.2.2.2.2.1
theorem dL_law_1310 : decode cL_law 1310 = .ok (.iadd, 1) := dq_dL_law_1302_5.2.2.2.2.2.2.2.2.1
theorem dL_law_1311 : decode cL_law 1311 = .ok (.iaload, 1) := dq_dL_law_1302_5.2.2.2.2.2.2.2.2.2.1
theorem dL_law_1312 : decode cL_law 1312 = .ok (.invokevirtual 133, 3) := dq_dL_law_1302_5.2.2.2.2.2.2.2.2.2.2.1
theorem dL_law_1315 : decode cL_law 1315 = .ok (.pop2, 1) := dq_dL_law_1302_5.2.2.2.2.2.2.2.2.2.2.2.1
theorem dL_law_1316 : decode cL_law 1316 = .ok (.aload_n 2, 1) := dq_dL_law_1302_5.2.2.2.2.2.2.2.2.2.2.2.2.1
theorem dL_law_1317 : decode cL_law 1317 = .ok (.aload_n 0, 1) := dq_dL_law_1302_5.2.2.2.2.2.2.2.2.2.2.2.2.2
theorem dq_dL_law_1318_6 : (decode cL_law 1318 = .ok (.iload_n 3, 1)) ∧ (decode cL_law 1319 = .ok (.iconst 1, 1)) ∧ (decode cL_law 1320 = .ok (.iadd, 1)) ∧ (decode cL_law 1321 = .ok (.iaload, 1)) ∧ (decode cL_law 1322 = .ok (.aload_n 0, 1)) ∧ (decode cL_law 1323 = .ok (.iload_n 3, 1)) ∧ (decode cL_law 1324 = .ok (.iconst 2, 1)) ∧ (decode cL_law 1325 = .ok (.iadd, 1)) ∧ (decode cL_law 1326 = .ok (.iaload, 1)) ∧ (decode cL_law 1327 = .ok (.aload_n 0, 1)) ∧ (decode cL_law 1328 = .ok (.iload_n 3, 1)) ∧ (decode cL_law 1329 = .ok (.iconst 3, 1)) ∧ (decode cL_law 1330 = .ok (.iadd, 1)) ∧ (decode cL_law 1331 = .ok (.iaload, 1)) := by decide +kernel
theorem dL_law_1318 : decode cL_law 1318 = .ok (.iload_n 3, 1) := dq_dL_law_1318_6.1
theorem dL_law_1319 : decode cL_law 1319 = .ok (.iconst 1, 1) := dq_dL_law_1318_6.2.1
theorem dL_law_1320 : decode cL_law 1320 = .ok (.iadd, 1) := dq_dL_law_1318_6.2.2.1
theorem dL_law_1321 : decode cL_law 1321 = .ok (.iaload, 1) := dq_dL_law_1318_6.2.2.2.1
theorem dL_law_1322 : decode cL_law 1322 = .ok (.aload_n 0, 1) := dq_dL_law_1318_6.2.2.2.2.1
theorem dL_law_1323 : decode cL_law 1323 = .ok (.iload_n 3, 1) := dq_dL_law_1318_6.2.2.2.2.2.1
theorem dL_law_1324 : decode cL_law 1324 = .ok (.iconst 2, 1) := dq_dL_law_1318_6.2.2.2.2.2.2.1
theorem dL_law_1325 : decode cL_law 1325 = .ok (.iadd, 1) := dq_dL_law_1318_6.2.2.2.2.2.2.2.1
theorem dL_law_1326 : decode cL_law 1326 = .ok (.iaload, 1) := dq_dL_law_1318_6.2.2.2.2.2.2.2.2.1
theorem dL_law_1327 : decode cL_law 1327 = .ok (.aload_n 0, 1) := dq_dL_law_1318_6.2.2.2.2.2.2.2.2.2.1
theorem dL_law_1328 : decode cL_law 1328 = .ok (.iload_n 3, 1) := dq_dL_law_1318_6.2.2.2.2.2.2.2.2.2.2.1
theorem dL_law_1329 : decode cL_law 1329 = .ok (.iconst 3, 1) := dq_dL_law_1318_6.2.2.2.2.2.2.2.2.2.2.2.1
theorem dL_law_1330 : decode cL_law 1330 = .ok (.iadd, 1) := dq_dL_law_1318_6.2.2.2.2.2.2.2.2.2.2.2.2.1
theorem dL_law_1331 : decode cL_law 1331 = .ok (.iaload, 1) := dq_dL_law_1318_6.2.2.2.2.2.2.2.2.2.2.2.2.2
theorem dq_dL_law_1332_7 : (decode cL_law 1332 = .ok (.aload_n 0, 1)) ∧ (decode cL_law 1333 = .ok (.iload_n 3, 1)) ∧ (decode cL_law 1334 = .ok (.iconst 4, 1)) ∧ (decode cL_law 1335 = .ok (.iadd, 1)) ∧ (decode cL_law 1336 = .ok (.iaload, 1)) ∧ (decode cL_law 1337 = .ok (.aload_n 0, 1)) ∧ (decode cL_law 1338 = .ok (.iload_n 3, 1)) ∧ (decode cL_law 1339 = .ok (.iconst 5, 1)) ∧ (decode cL_law 1340 = .ok (.iadd, 1)) ∧ (decode cL_law 1341 = .ok (.iaload, 1)) ∧ (decode cL_law 1342 = .ok (.invokevirtual 137, 3)) ∧ (decode cL_law 1345 = .ok (.pop2, 1)) ∧ (decode cL_law 1346 = .ok (.goto 132, 3)) ∧ (decode cL_law 1349 = .ok (.aload_n 1, 1)) := by decide +kernel
theorem dL_law_1332 : decode cL_law 1332 = .ok (.aload_n 0, 1) := dq_dL_law_1332_7.1
theorem dL_law_1333 : decode cL_law 1333 = .ok (.iload_n 3, 1) := dq_dL_law_1332_7.2.1
theorem dL_law_1334 : decode cL_law 1334 = .ok (.iconst 4, 1) := dq_dL_law_1332_7.2.2.1
theorem dL_law_1335 : decode cL_law 1335 = .ok (.iadd, 1) := dq_dL_law_1332_7.2.2.2.1
theorem dL_law_1336 : decode cL_law 1336 = .ok (.iaload, 1) := dq_dL_law_1332_7.2.2.2.2.1
theorem dL_law_1337 : decode cL_law 1337 = .ok (.aload_n 0, 1) := dq_dL_law_1332_7.2.2.2.2.2.1
theorem dL_law_1338 : decode cL_law 1338 = .ok (.iload_n 3, 1) := dq_dL_law_1332_7.2.2.2.2.2.2.1
theorem dL_law_1339 : decode cL_law 1339 = .ok (.iconst 5, 1) := dq_dL_law_1332_7.2.2.2.2.2.2.2.1
theorem dL_law_1340 : decode cL_law 1340 = .ok (.iadd, 1) := dq_dL_law_1332_7.2.2.2.2.2.2.2.2.1
theorem dL_law_1341 : decode cL_law 1341 = .ok (.iaload, 1) := dq_dL_law_1332_7.2.2.2.2.2.2.2.2.2.1
theorem dL_law_1342 : decode cL_law 1342 = .ok (.invokevirtual 137, 3) := dq_dL_law_1332_7.2.2.2.2.2.2.2.2.2.2.1
theorem dL_law_1345 : decode cL_law 1345 = .ok (.pop2, 1) := dq_dL_law_1332_7.2.2.2.2.2.2.2.2.2.2.2.1
theorem dL_law_1346 : decode cL_law 1346 = .ok (.goto 132, 3) := dq_dL_law_1332_7.2.2.2.2.2.2.2.2.2.2.2.2.1
theorem dL_law_1349 : decode cL_law 1349 = .ok (.aload_n 1, 1) := dq_dL_law_1332_7.2.2.2.2.2.2.2.2.2.2.2.2.2
theorem dq_dL_law_1350_8 : (decode cL_law 1350 = .ok (.aload_n 0, 1)) ∧ (decode cL_law 1351 = .ok (.iload_n 3, 1)) ∧ (decode cL_law 1352 = .ok (.iconst 1, 1)) ∧ (decode cL_law 1353 = .ok (.iadd, 1)) ∧ (decode cL_law 1354 = .ok (.iaload, 1)) ∧ (decode cL_law 1355 = .ok (.aload_n 0, 1)) ∧ (decode cL_law 1356 = .ok (.iload_n 3, 1)) ∧ (decode cL_law 1357 = .ok (.iconst 2, 1)) ∧ (decode cL_law 1358 = .ok (.iadd, 1)) ∧ (decode cL_law 1359 = .ok (.iaload, 1)) ∧ (decode cL_law 1360 = .ok (.aload_n 0, 1)) ∧ (decode cL_law 1361 = .ok (.iload_n 3, 1)) ∧ (decode cL_law 1362 = .ok (.iconst 3, 1)) ∧ (decode cL_law 1363 = .ok (.iadd, 1)) := by decide +kernel
theorem dL_law_1350 : decode cL_law 1350 = .ok (.aload_n 0, 1) := dq_dL_law_1350_8.1
theorem dL_law_1351 : decode cL_law 1351 = .ok (.iload_n 3, 1) := dq_dL_law_1350_8.2.1
theorem dL_law_1352 : decode cL_law 1352 = .ok (.iconst 1, 1) := dq_dL_law_1350_8.2.2.1
theorem dL_law_1353 : decode cL_law 1353 = .ok (.iadd, 1) := dq_dL_law_1350_8.2.2.2.1
theorem dL_law_1354 : decode cL_law 1354 = .ok (.iaload, 1) := dq_dL_law_1350_8.2.2.2.2.1
theorem dL_law_1355 : decode cL_law 1355 = .ok (.aload_n 0, 1) := dq_dL_law_1350_8.2.2.2.2.2.1
theorem dL_law_1356 : decode cL_law 1356 = .ok (.iload_n 3, 1) := dq_dL_law_1350_8.2.2.2.2.2.2.1
theorem dL_law_1357 : decode cL_law 1357 = .ok (.iconst 2, 1) := dq_dL_law_1350_8.2.2.2.2.2.2.2.1
theorem dL_law_1358 : decode cL_law 1358 = .ok (.iadd, 1) := dq_dL_law_1350_8.2.2.2.2.2.2.2.2.1
theorem dL_law_1359 : decode cL_law 1359 = .ok (.iaload, 1) := dq_dL_law_1350_8.2.2.2.2.2.2.2.2.2.1
theorem dL_law_1360 : decode cL_law 1360 = .ok (.aload_n 0, 1) := dq_dL_law_1350_8.2.2.2.2.2.2.2.2.2.2.1
theorem dL_law_1361 : decode cL_law 1361 = .ok (.iload_n 3, 1) := dq_dL_law_1350_8.2.2.2.2.2.2.2.2.2.2.2.1
theorem dL_law_1362 : decode cL_law 1362 = .ok (.iconst 3, 1) := dq_dL_law_1350_8.2.2.2.2.2.2.2.2.2.2.2.2.1
theorem dL_law_1363 : decode cL_law 1363 = .ok (.iadd, 1) := dq_dL_law_1350_8.2.2.2.2.2.2.2.2.2.2.2.2.2
theorem dq_dL_law_1364_9 : (decode cL_law 1364 = .ok (.iaload, 1)) ∧ (decode cL_law 1365 = .ok (.aload_n 0, 1)) ∧ (decode cL_law 1366 = .ok (.iload_n 3, 1)) ∧ (decode cL_law 1367 = .ok (.iconst 4, 1)) ∧ (decode cL_law 1368 = .ok (.iadd, 1)) ∧ (decode cL_law 1369 = .ok (.iaload, 1)) ∧ (decode cL_law 1370 = .ok (.aload_n 0, 1)) ∧ (decode cL_law 1371 = .ok (.iload_n 3, 1)) ∧ (decode cL_law 1372 = .ok (.iconst 5, 1)) ∧ (decode cL_law 1373 = .ok (.iadd, 1)) ∧ (decode cL_law 1374 = .ok (.iaload, 1)) ∧ (decode cL_law 1375 = .ok (.invokevirtual 138, 3)) ∧ (decode cL_law 1378 = .ok (.pop, 1)) ∧ (decode cL_law 1379 = .ok (.aload_n 2, 1)) := by decide +kernel
theorem dL_law_1364 : decode cL_law 1364 = .ok (.iaload, 1) := dq_dL_law_1364_9.1
theorem dL_law_1365 : decode cL_law 1365 = .ok (.aload_n 0, 1) := dq_dL_law_1364_9.2.1
theorem dL_law_1366 : decode cL_law 1366 = .ok (.iload_n 3, 1) := dq_dL_law_1364_9.2.2.1
theorem dL_law_1367 : decode cL_law 1367 = .ok (.iconst 4, 1) := dq_dL_law_1364_9.2.2.2.1
theorem dL_law_1368 : decode cL_law 1368 = .ok (.iadd, 1) := dq_dL_law_1364_9.2.2.2.2.1
theorem dL_law_1369 : decode cL_law 1369 = .ok (.iaload, 1) := dq_dL_law_1364_9.2.2.2.2.2.1
theorem dL_law_1370 : decode cL_law 1370 = .ok (.aload_n 0, 1) := dq_dL_law_1364_9.2.2.2.2.2.2.1
theorem dL_law_1371 : decode cL_law 1371 = .ok (.iload_n 3, 1) := dq_dL_law_1364_9.2.2.2.2.2.2.2.1
theorem dL_law_1372 : decode cL_law 1372 = .ok (.iconst 5, 1) := dq_dL_law_1364_9.2.2.2.2.2.2.2.2.1
theorem dL_law_1373 : decode cL_law 1373 = .ok (.iadd, 1) := dq_dL_law_1364_9.2.2.2.2.2.2.2.2.2.1
theorem dL_law_1374 : decode cL_law 1374 = .ok (.iaload, 1) := dq_dL_law_1364_9.2.2.2.2.2.2.2.2.2.2.1
theorem dL_law_1375 : decode cL_law 1375 = .ok (.invokevirtual 138, 3) := dq_dL_law_1364_9.2.2.2.2.2.2.2.2.2.2.2.1
theorem dL_law_1378 : decode cL_law 1378 = .ok (.pop, 1) := dq_dL_law_1364_9.2.2.2.2.2.2.2.2.2.2.2.2.1
theorem dL_law_1379 : decode cL_law 1379 = .ok (.aload_n 2, 1) := dq_dL_law_1364_9.2.2.2.2.2.2.2.2.2.2.2.2.2
theorem dq_dL_law_1380_10 : (decode cL_law 1380 = .ok (.aload_n 0, 1)) ∧ (decode cL_law 1381 = .ok (.iload_n 3, 1)) ∧ (decode cL_law 1382 = .ok (.iconst 1, 1)) ∧ (decode cL_law 1383 = .ok (.iadd, 1)) ∧ (decode cL_law 1384 = .ok (.iaload, 1)) ∧ (decode cL_law 1385 = .ok (.aload_n 0, 1)) ∧ (decode cL_law 1386 = .ok (.iload_n 3, 1)) ∧ (decode cL_law 1387 = .ok (.iconst 2, 1)) ∧ (decode cL_law 1388 = .ok (.iadd, 1)) ∧ (decode cL_law 1389 = .ok (.iaload, 1)) ∧ (decode cL_law 1390 = .ok (.aload_n 0, 1)) ∧ (decode cL_law 1391 = .ok (.iload_n 3, 1)) ∧ (decode cL_law 1392 = .ok (.iconst 3, 1)) ∧ (decode cL_law 1393 = .ok (.iadd, 1)) := by decide +kernel
theorem dL_law_1380 : decode cL_law 1380 = .ok (.aload_n 0, 1) := dq_dL_law_1380_10.1
theorem dL_law_1381 : decode cL_law 1381 = .ok (.iload_n 3, 1) := dq_dL_law_1380_10.2.1
theorem dL_law_1382 : decode cL_law 1382 = .ok (.iconst 1, 1) := dq_dL_law_1380_10.2.2.1
theorem dL_law_1383 : decode cL_law 1383 = .ok (.iadd, 1) := dq_dL_law_1380_10.2.2.2.1
theorem dL_law_1384 : decode cL_law 1384 = .ok (.iaload, 1) := dq_dL_law_1380_10.2.2.2.2.1
theorem dL_law_1385 : decode cL_law 1385 = .ok (.aload_n 0, 1) := dq_dL_law_1380_10.2.2.2.2.2.1
theorem dL_law_1386 : decode cL_law 1386 = .ok (.iload_n 3, 1) := dq_dL_law_1380_10.2.2.2.2.2.2.1
theorem dL_law_1387 : decode cL_law 1387 = .ok (.iconst 2, 1) := dq_dL_law_1380_10.2.2.2.2.2.2.2.1
theorem dL_law_1388 : decode cL_law 1388 = .ok (.iadd, 1) := dq_dL_law_1380_10.2.2.2.2.2.2.2.2.1
theorem dL_law_1389 : decode cL_law 1389 = .ok (.iaload, 1) := dq_dL_law_1380_10.2.2.2.2.2.2.2.2.2.1
theorem dL_law_1390 : decode cL_law 1390 = .ok (.aload_n 0, 1) := dq_dL_law_1380_10.2.2.2.2.2.2.2.2.2.2.1
theorem dL_law_1391 : decode cL_law 1391 = .ok (.iload_n 3, 1) := dq_dL_law_1380_10.2.2.2.2.2.2.2.2.2.2.2.1
theorem dL_law_1392 : decode cL_law 1392 = .ok (.iconst 3, 1) := dq_dL_law_1380_10.2.2.2.2.2.2.2.2.2.2.2.2.1
theorem dL_law_1393 : decode cL_law 1393 = .ok (.iadd, 1) := dq_dL_law_1380_10.2.2.2.2.2.2.2.2.2.2.2.2.2
theorem dq_dL_law_1394_11 : (decode cL_law 1394 = .ok (.iaload, 1)) ∧ (decode cL_law 1395 = .ok (.aload_n 0, 1)) ∧ (decode cL_law 1396 = .ok (.iload_n 3, 1)) ∧ (decode cL_law 1397 = .ok (.iconst 4, 1)) ∧ (decode cL_law 1398 = .ok (.iadd, 1)) ∧ (decode cL_law 1399 = .ok (.iaload, 1)) ∧ (decode cL_law 1400 = .ok (.aload_n 0, 1)) ∧ (decode cL_law 1401 = .ok (.iload_n 3, 1)) ∧ (decode cL_law 1402 = .ok (.iconst 5, 1)) ∧ (decode cL_law 1403 = .ok (.iadd, 1)) ∧ (decode cL_law 1404 = .ok (.iaload, 1)) ∧ (decode cL_law 1405 = .ok (.invokevirtual 141, 3)) ∧ (decode cL_law 1408 = .ok (.pop, 1)) ∧ (decode cL_law 1409 = .ok (.goto 69, 3)) := by decide +kernel
theorem dL_law_1394 : decode cL_law 1394 = .ok (.iaload, 1) := dq_dL_law_1394_11.1
theorem dL_law_1395 : decode cL_law 1395 = .ok (.aload_n 0, 1) := dq_dL_law_1394_11.2.1
theorem dL_law_1396 : decode cL_law 1396 = .ok (.iload_n 3, 1) := dq_dL_law_1394_11.2.2.1
theorem dL_law_1397 : decode cL_law 1397 = .ok (.iconst 4, 1) := dq_dL_law_1394_11.2.2.2.1
theorem dL_law_1398 : decode cL_law 1398 = .ok (.iadd, 1) := dq_dL_law_1394_11.2.2.2.2.1
theorem dL_law_1399 : decode cL_law 1399 = .ok (.iaload, 1) := dq_dL_law_1394_11.2.2.2.2.2.1
theorem dL_law_1400 : decode cL_law 1400 = .ok (.aload_n 0, 1) := dq_dL_law_1394_11.2.2.2.2.2.2.1
theorem dL_law_1401 : decode cL_law 1401 = .ok (.iload_n 3, 1) := dq_dL_law_1394_11.2.2.2.2.2.2.2.1
theorem dL_law_1402 : decode cL_law 1402 = .ok (.iconst 5, 1) := dq_dL_law_1394_11.2.2.2.2.2.2.2.2.1
theorem dL_law_1403 : decode cL_law 1403 = .ok (.iadd, 1) := dq_dL_law_1394_11.2.2.2.2.2.2.2.2.2.1
theorem dL_law_1404 : decode cL_law 1404 = .ok (.iaload, 1) := dq_dL_law_1394_11.2.2.2.2.2.2.2.2.2.2.1
theorem dL_law_1405 : decode cL_law 1405 = .ok (.invokevirtual 141, 3) := dq_dL_law_1394_11.2.2.2.2.2.2.2.2.2.2.2.1
theorem dL_law_1408 : decode cL_law 1408 = .ok (.pop, 1) := dq_dL_law_1394_11.2.2.2.2.2.2.2.2.2.2.2.2.1
theorem dL_law_1409 : decode cL_law 1409 = .ok (.goto 69, 3) := dq_dL_law_1394_11.2.2.2.2.2.2.2.2.2.2.2.2.2
theorem dq_dL_law_1412_12 : (decode cL_law 1412 = .ok (.aload_n 1, 1)) ∧ (decode cL_law 1413 = .ok (.aload_n 0, 1)) ∧ (decode cL_law 1414 = .ok (.iload_n 3, 1)) ∧ (decode cL_law 1415 = .ok (.iconst 1, 1)) ∧ (decode cL_law 1416 = .ok (.iadd, 1)) ∧ (decode cL_law 1417 = .ok (.iaload, 1)) ∧ (decode cL_law 1418 = .ok (.aload_n 0, 1)) ∧ (decode cL_law 1419 = .ok (.iload_n 3, 1)) ∧ (decode cL_law 1420 = .ok (.iconst 2, 1)) ∧ (decode cL_law 1421 = .ok (.iadd, 1)) ∧ (decode cL_law 1422 = .ok (.iaload, 1)) ∧ (decode cL_law 1423 = .ok (.aload_n 0, 1)) ∧ (decode cL_law 1424 = .ok (.iload_n 3, 1)) ∧ (decode cL_law 1425 = .ok (.iconst 3, 1)) := by decide +kernel
theorem dL_law_1412 : decode cL_law 1412 = .ok (.aload_n 1, 1) := dq_dL_law_1412_12.1
theorem dL_law_1413 : decode cL_law 1413 = .ok (.aload_n 0, 1) := dq_dL_law_1412_12.2.1
theorem dL_law_1414 : decode cL_law 1414 = .ok (.iload_n 3, 1) := dq_dL_law_1412_12.2.2.1
theorem dL_law_1415 : decode cL_law 1415 = .ok (.iconst 1, 1) := dq_dL_law_1412_12.2.2.2.1
theorem dL_law_1416 : decode cL_law 1416 = .ok (.iadd, 1) := dq_dL_law_1412_12.2.2.2.2.1
theorem dL_law_1417 : decode cL_law 1417 = .ok (.iaload, 1) := dq_dL_law_1412_12.2.2.2.2.2.1
theorem dL_law_1418 : decode cL_law 1418 = .ok (.aload_n 0, 1) := dq_dL_law_1412_12.2.2.2.2.2.2.1
theorem dL_law_1419 : decode cL_law 1419 = .ok (.iload_n 3, 1) := dq_dL_law_1412_12.2.2.2.2.2.2.2.1
theorem dL_law_1420 : decode cL_law 1420 = .ok (.iconst 2, 1) := dq_dL_law_1412_12.2.2.2.2.2.2.2.2.1
theorem dL_law_1421 : decode cL_law 1421 = .ok (.iadd, 1) := dq_dL_law_1412_12.2.2.2.2.2.2.2.2.2.1
theorem dL_law_1422 : decode cL_law 1422 = .ok (.iaload, 1) := dq_dL_law_1412_12.2.2.2.2.2.2.2.2.2.2.1
theorem dL_law_1423 : decode cL_law 1423 = .ok (.aload_n 0, 1) := dq_dL_law_1412_12.2.2.2.2.2.2.2.2.2.2.2.1
theorem dL_law_1424 : decode cL_law 1424 = .ok (.iload_n 3, 1) := dq_dL_law_1412_12.2.2.2.2.2.2.2.2.2.2.2.2.1
theorem dL_law_1425 : decode cL_law 1425 = .ok (.iconst 3, 1) := dq_dL_law_1412_12.2.2.2.2.2.2.2.2.2.2.2.2.2
theorem dq_dL_law_1426_13 : (decode cL_law 1426 = .ok (.iadd, 1)) ∧ (decode cL_law 1427 = .ok (.iaload, 1)) ∧ (decode cL_law 1428 = .ok (.invokevirtual 142, 3)) ∧ (decode cL_law 1431 = .ok (.pop, 1)) ∧ (decode cL_law 1432 = .ok (.aload_n 2, 1)) ∧ (decode cL_law 1433 = .ok (.aload_n 0, 1)) ∧ (decode cL_law 1434 = .ok (.iload_n 3, 1)) ∧ (decode cL_law 1435 = .ok (.iconst 1, 1)) ∧ (decode cL_law 1436 = .ok (.iadd, 1)) ∧ (decode cL_law 1437 = .ok (.iaload, 1)) ∧ (decode cL_law 1438 = .ok (.aload_n 0, 1)) ∧ (decode cL_law 1439 = .ok (.iload_n 3, 1)) ∧ (decode cL_law 1440 = .ok (.iconst 2, 1)) ∧ (decode cL_law 1441 = .ok (.iadd, 1)) := by decide +kernel
theorem dL_law_1426 : decode cL_law 1426 = .ok (.iadd, 1) := dq_dL_law_1426_13.1
theorem dL_law_1427 : decode cL_law 1427 = .ok (.iaload, 1) := dq_dL_law_1426_13.2.1
theorem dL_law_1428 : decode cL_law 1428 = .ok (.invokevirtual 142, 3) := dq_dL_law_1426_13.2.2.1
theorem dL_law_1431 : decode cL_law 1431 = .ok (.pop, 1) := dq_dL_law_1426_13.2.2.2.1
theorem dL_law_1432 : decode cL_law 1432 = .ok (.aload_n 2, 1) := dq_dL_law_1426_13.2.2.2.2.1
theorem dL_law_1433 : decode cL_law 1433 = .ok (.aload_n 0, 1) := dq_dL_law_1426_13.2.2.2.2.2.1
theorem dL_law_1434 : decode cL_law 1434 = .ok (.iload_n 3, 1) := dq_dL_law_1426_13.2.2.2.2.2.2.1
theorem dL_law_1435 : decode cL_law 1435 = .ok (.iconst 1, 1) := dq_dL_law_1426_13.2.2.2.2.2.2.2.1
theorem dL_law_1436 : decode cL_law 1436 = .ok (.iadd, 1) := dq_dL_law_1426_13.2.2.2.2.2.2.2.2.1
theorem dL_law_1437 : decode cL_law 1437 = .ok (.iaload, 1) := dq_dL_law_1426_13.2.2.2.2.2.2.2.2.2.1
theorem dL_law_1438 : decode cL_law 1438 = .ok (.aload_n 0, 1) := dq_dL_law_1426_13.2.2.2.2.2.2.2.2.2.2.1
theorem dL_law_1439 : decode cL_law 1439 = .ok (.iload_n 3, 1) := dq_dL_law_1426_13.2.2.2.2.2.2.2.2.2.2.2.1
theorem dL_law_1440 : decode cL_law 1440 = .ok (.iconst 2, 1) := dq_dL_law_1426_13.2.2.2.2.2.2.2.2.2.2.2.2.1
theorem dL_law_1441 : decode cL_law 1441 = .ok (.iadd, 1) := dq_dL_law_1426_13.2.2.2.2.2.2.2.2.2.2.2.2.2
theorem dq_dL_law_1442_14 : (decode cL_law 1442 = .ok (.iaload, 1)) ∧ (decode cL_law 1443 = .ok (.aload_n 0, 1)) ∧ (decode cL_law 1444 = .ok (.iload_n 3, 1)) ∧ (decode cL_law 1445 = .ok (.iconst 3, 1)) ∧ (decode cL_law 1446 = .ok (.iadd, 1)) ∧ (decode cL_law 1447 = .ok (.iaload, 1)) ∧ (decode cL_law 1448 = .ok (.invokevirtual 145, 3)) ∧ (decode cL_law 1451 = .ok (.pop, 1)) ∧ (decode cL_law 1452 = .ok (.goto 26, 3)) ∧ (decode cL_law 1455 = .ok (.aload_n 1, 1)) ∧ (decode cL_law 1456 = .ok (.aload_n 0, 1)) ∧ (decode cL_law 1457 = .ok (.iload_n 3, 1)) ∧ (decode cL_law 1458 = .ok (.iconst 1, 1)) ∧ (decode cL_law 1459 = .ok (.iadd, 1)) := by decide +kernel
theorem dL_law_1442 : decode cL_law 1442 = .ok (.iaload, 1) := dq_dL_law_1442_14.1
theorem dL_law_1443 : decode cL_law 1443 = .ok (.aload_n 0, 1) := dq_dL_law_1442_14.2.1
theorem dL_law_1444 : decode cL_law 1444 = .ok (.iload_n 3, 1) := dq_dL_law_1442_14.2.2.1
theorem dL_law_1445 : decode cL_law 1445 = .ok (.iconst 3, 1) := dq_dL_law_1442_14.2.2.2.1
theorem dL_law_1446 : decode cL_law 1446 = .ok (.iadd, 1) := dq_dL_law_1442_14.2.2.2.2.1
theorem dL_law_1447 : decode cL_law 1447 = .ok (.iaload, 1) := dq_dL_law_1442_14.2.2.2.2.2.1
theorem dL_law_1448 : decode cL_law 1448 = .ok (.invokevirtual 145, 3) := dq_dL_law_1442_14.2.2.2.2.2.2.1
theorem dL_law_1451 : decode cL_law 1451 = .ok (.pop, 1) := dq_dL_law_1442_14.2.2.2.2.2.2.2.1
theorem dL_law_1452 : decode cL_law 1452 = .ok (.goto 26, 3) := dq_dL_law_1442_14.2.2.2.2.2.2.2.2.1
theorem dL_law_1455 : decode cL_law 1455 = .ok (.aload_n 1, 1) := dq_dL_law_1442_14.2.2.2.2.2.2.2.2.2.1
theorem dL_law_1456 : decode cL_law 1456 = .ok (.aload_n 0, 1) := dq_dL_law_1442_14.2.2.2.2.2.2.2.2.2.2.1
theorem dL_law_1457 : decode cL_law 1457 = .ok (.iload_n 3, 1) := dq_dL_law_1442_14.2.2.2.2.2.2.2.2.2.2.2.1
theorem dL_law_1458 : decode cL_law 1458 = .ok (.iconst 1, 1) := dq_dL_law_1442_14.2.2.2.2.2.2.2.2.2.2.2.2.1
theorem dL_law_1459 : decode cL_law 1459 = .ok (.iadd, 1) := dq_dL_law_1442_14.2.2.2.2.2.2.2.2.2.2.2.2.2
theorem dq_dL_law_1460_15 : (decode cL_law 1460 = .ok (.iaload, 1)) ∧ (decode cL_law 1461 = .ok (.invokevirtual 146, 3)) ∧ (decode cL_law 1464 = .ok (.pop, 1)) ∧ (decode cL_law 1465 = .ok (.aload_n 2, 1)) ∧ (decode cL_law 1466 = .ok (.aload_n 0, 1)) ∧ (decode cL_law 1467 = .ok (.iload_n 3, 1)) ∧ (decode cL_law 1468 = .ok (.iconst 1, 1)) ∧ (decode cL_law 1469 = .ok (.iadd, 1)) ∧ (decode cL_law 1470 = .ok (.iaload, 1)) ∧ (decode cL_law 1471 = .ok (.invokevirtual 149, 3)) ∧ (decode cL_law 1474 = .ok (.pop, 1)) ∧ (decode cL_law 1475 = .ok (.goto 3, 3)) ∧ (decode cL_law 1478 = .ok (.iinc 3 6, 3)) ∧ (decode cL_law 1481 = .ok (.goto (-1463), 3)) := by decide +kernel
theorem dL_law_1460 : decode cL_law 1460 = .ok (.iaload, 1) := dq_dL_law_1460_15.1
theorem dL_law_1461 : decode cL_law 1461 = .ok (.invokevirtual 146, 3) := dq_dL_law_1460_15.2.1
theorem dL_law_1464 : decode cL_law 1464 = .ok (.pop, 1) := dq_dL_law_1460_15.2.2.1
theorem dL_law_1465 : decode cL_law 1465 = .ok (.aload_n 2, 1) := dq_dL_law_1460_15.2.2.2.1
theorem dL_law_1466 : decode cL_law 1466 = .ok (.aload_n 0, 1) := dq_dL_law_1460_15.2.2.2.2.1
theorem dL_law_1467 : decode cL_law 1467 = .ok (.iload_n 3, 1) := dq_dL_law_1460_15.2.2.2.2.2.1
theorem dL_law_1468 : decode cL_law 1468 = .ok (.iconst 1, 1) := dq_dL_law_1460_15.2.2.2.2.2.2.1
theorem dL_law_1469 : decode cL_law 1469 = .ok (.iadd, 1) := dq_dL_law_1460_15.2.2.2.2.2.2.2.1
theorem dL_law_1470 : decode cL_law 1470 = .ok (.iaload, 1) := dq_dL_law_1460_15.2.2.2.2.2.2.2.2.1
theorem dL_law_1471 : decode cL_law 1471 = .ok (.invokevirtual 149, 3) := dq_dL_law_1460_15.2.2.2.2.2.2.2.2.2.1
theorem dL_law_1474 : decode cL_law 1474 = .ok (.pop, 1) := dq_dL_law_1460_15.2.2.2.2.2.2.2.2.2.2.1
theorem dL_law_1475 : decode cL_law 1475 = .ok (.goto 3, 3) := dq_dL_law_1460_15.2.2.2.2.2.2.2.2.2.2.2.1
theorem dL_law_1478 : decode cL_law 1478 = .ok (.iinc 3 6, 3) := dq_dL_law_1460_15.2.2.2.2.2.2.2.2.2.2.2.2.1
theorem dL_law_1481 : decode cL_law 1481 = .ok (.goto (-1463), 3) := dq_dL_law_1460_15.2.2.2.2.2.2.2.2.2.2.2.2.2
theorem dq_dL_law_1484_16 : (decode cL_law 1484 = .ok (.iconst 1, 1)) ∧ (decode cL_law 1485 = .ok (.ireturn, 1)) := by decide +kernel
theorem dL_law_1484 : decode cL_law 1484 = .ok (.iconst 1, 1) := dq_dL_law_1484_16.1
theorem dL_law_1485 : decode cL_law 1485 = .ok (.ireturn, 1) := dq_dL_law_1484_16.2
theorem dq_dX0_init_0_0 : (decode cX0_init 0 = .ok (.aload_n 0, 1)) ∧ (decode cX0_init 1 = .ok (.invokespecial 3, 3)) ∧ (decode cX0_init 4 = .ok (.aload_n 0, 1)) ∧ (decode cX0_init 5 = .ok (.bipush 40, 2)) ∧ (decode cX0_init 7 = .ok (.newarray .int, 2)) ∧ (decode cX0_init 9 = .ok (.putfield 9, 3)) ∧ (decode cX0_init 12 = .ok (.aload_n 0, 1)) ∧ (decode cX0_init 13 = .ok (.bipush 40, 2)) ∧ (decode cX0_init 15 = .ok (.newarray .int, 2)) ∧ (decode cX0_init 17 = .ok (.putfield 15, 3)) ∧ (decode cX0_init 20 = .ok (.aload_n 0, 1)) ∧ (decode cX0_init 21 = .ok (.iconst 0, 1)) ∧ (decode cX0_init 22 = .ok (.putfield 18, 3)) ∧ (decode cX0_init 25 = .ok (.aload_n 0, 1)) := by decide +kernel
theorem dX0_init_0 : decode cX0_init 0 = .ok (.aload_n 0, 1) := dq_dX0_init_0_0.1
theorem dX0_init_1 : decode cX0_init 1 = .ok (.invokespecial 3, 3) := dq_dX0_init_0_0.2.1
theorem dX0_init_4 : decode cX0_init 4 = .ok (.aload_n 0, 1) := dq_dX0_init_0_0.2.2.1
theorem dX0_init_5 : decode cX0_init 5 = .ok (.bipush 40, 2) := dq_dX0_init_0_0.2.2.2.1
theorem dX0_init_7 : decode cX0_init 7 = .ok (.newarray .int, 2) := dq_dX0_init_0_0.2.2.2.2.1
theorem dX0_init_9 : decode cX0_init 9 = .ok (.putfield 9, 3) := dq_dX0_init_0_0.2.2.2.2.2.1
theorem dX0_init_12 : decode cX0_init 12 = .ok (.aload_n 0, 1) := dq_dX0_init_0_0.2.2.2.2.2.2.1
theorem dX0_init_13 : decode cX0_init 13 = .ok (.bipush 40, 2) := dq_dX0_init_0_0.2.2.2.2.2.2.2.1
theorem dX0_init_15 : decode cX0_init 15 = .ok (.newarray .int, 2) := dq_dX0_init_0_0.2.2.2.2.2.2.2.2.1
theorem dX0_init_17 : decode cX0_init 17 = .ok (.putfield 15, 3) := dq_dX0_init_0_0.2.2.2.2.2.2.2.2.2.1
theorem dX0_init_20 : decode cX0_init 20 = .ok (.aload_n 0, 1) := dq_dX0_init_0_0.2.2.2.2.2.2.2.2.2.2.1
theorem dX0_init_21 : decode cX0_init 21 = .ok (.iconst 0, 1) := dq_dX0_init_0_0.2.2.2.2.2.2.2.2.2.2.2.1
theorem dX0_init_22 : decode cX0_init 22 = .ok (.putfield 18, 3) := dq_dX0_init_0_0.2.2.2.2.2.2.2.2.2.2.2.2.1
theorem dX0_init_25 : decode cX0_init 25 = .ok (.aload_n 0, 1) := dq_dX0_init_0_0.2.2.2.2.2.2.2.2.2.2.2.2.2
theorem dq_dX0_init_26_1 : (decode cX0_init 26 = .ok (.iconst 0, 1)) ∧ (decode cX0_init 27 = .ok (.putfield 22, 3)) ∧ (decode cX0_init 30 = .ok (.aload_n 0, 1)) ∧ (decode cX0_init 31 = .ok (.iconst (-1), 1)) ∧ (decode cX0_init 32 = .ok (.putfield 25, 3)) ∧ (decode cX0_init 35 = .ok (.aload_n 0, 1)) ∧ (decode cX0_init 36 = .ok (.iconst (-1), 1)) ∧ (decode cX0_init 37 = .ok (.putfield 28, 3)) ∧ (decode cX0_init 40 = .ok (.return_, 1)) := by decide +kernel
theorem dX0_init_26 : decode cX0_init 26 = .ok (.iconst 0, 1) := dq_dX0_init_26_1.1
theorem dX0_init_27 : decode cX0_init 27 = .ok (.putfield 22, 3) := dq_dX0_init_26_1.2.1
theorem dX0_init_30 : decode cX0_init 30 = .ok (.aload_n 0, 1) := dq_dX0_init_26_1.2.2.1
theorem dX0_init_31 : decode cX0_init 31 = .ok (.iconst (-1), 1) := dq_dX0_init_26_1.2.2.2.1
theorem dX0_init_32 : decode cX0_init 32 = .ok (.putfield 25, 3) := dq_dX0_init_26_1.2.2.2.2.1
theorem dX0_init_35 : decode cX0_init 35 = .ok (.aload_n 0, 1) := dq_dX0_init_26_1.2.2.2.2.2.1
theorem dX0_init_36 : decode cX0_init 36 = .ok (.iconst (-1), 1) := dq_dX0_init_26_1.2.2.2.2.2.2.1
theorem dX0_init_37 : decode cX0_init 37 = .ok (.putfield 28, 3) := dq_dX0_init_26_1.2.2.2.2.2.2.2.1
theorem dX0_init_40 : decode cX0_init 40 = .ok (.return_, 1) := dq_dX0_init_26_1.2.2.2.2.2.2.2.2
theorem dq_dX1_init_0_0 : (decode cX1_init 0 = .ok (.aload_n 0, 1)) ∧ (decode cX1_init 1 = .ok (.invokespecial 3, 3)) ∧ (decode cX1_init 4 = .ok (.aload_n 0, 1)) ∧ (decode cX1_init 5 = .ok (.bipush 40, 2)) ∧ (decode cX1_init 7 = .ok (.newarray .int, 2)) ∧ (decode cX1_init 9 = .ok (.putfield 9, 3)) ∧ (decode cX1_init 12 = .ok (.aload_n 0, 1)) ∧ (decode cX1_init 13 = .ok (.bipush 6, 2)) ∧ (decode cX1_init 15 = .ok (.newarray .int, 2)) ∧ (decode cX1_init 17 = .ok (.putfield 15, 3)) ∧ (decode cX1_init 20 = .ok (.aload_n 0, 1)) ∧ (decode cX1_init 21 = .ok (.sipush 287, 3)) ∧ (decode cX1_init 24 = .ok (.newarray .int, 2)) ∧ (decode cX1_init 26 = .ok (.putfield 18, 3)) := by decide +kernel
theorem dX1_init_0 : decode cX1_init 0 = .ok (.aload_n 0, 1) := dq_dX1_init_0_0.1
theorem dX1_init_1 : decode cX1_init 1 = .ok (.invokespecial 3, 3) := dq_dX1_init_0_0.2.1
theorem dX1_init_4 : decode cX1_init 4 = .ok (.aload_n 0, 1) := dq_dX1_init_0_0.2.2.1
theorem dX1_init_5 : decode cX1_init 5 = .ok (.bipush 40, 2) := dq_dX1_init_0_0.2.2.2.1
theorem dX1_init_7 : decode cX1_init 7 = .ok (.newarray .int, 2) := dq_dX1_init_0_0.2.2.2.2.1
theorem dX1_init_9 : decode cX1_init 9 = .ok (.putfield 9, 3) := dq_dX1_init_0_0.2.2.2.2.2.1
theorem dX1_init_12 : decode cX1_init 12 = .ok (.aload_n 0, 1) := dq_dX1_init_0_0.2.2.2.2.2.2.1
theorem dX1_init_13 : decode cX1_init 13 = .ok (.bipush 6, 2) := dq_dX1_init_0_0.2.2.2.2.2.2.2.1
theorem dX1_init_15 : decode cX1_init 15 = .ok (.newarray .int, 2) := dq_dX1_init_0_0.2.2.2.2.2.2.2.2.1
theorem dX1_init_17 : decode cX1_init 17 = .ok (.putfield 15, 3) := dq_dX1_init_0_0.2.2.2.2.2.2.2.2.2.1
theorem dX1_init_20 : decode cX1_init 20 = .ok (.aload_n 0, 1) := dq_dX1_init_0_0.2.2.2.2.2.2.2.2.2.2.1
theorem dX1_init_21 : decode cX1_init 21 = .ok (.sipush 287, 3) := dq_dX1_init_0_0.2.2.2.2.2.2.2.2.2.2.2.1
theorem dX1_init_24 : decode cX1_init 24 = .ok (.newarray .int, 2) := dq_dX1_init_0_0.2.2.2.2.2.2.2.2.2.2.2.2.1
theorem dX1_init_26 : decode cX1_init 26 = .ok (.putfield 18, 3) := dq_dX1_init_0_0.2.2.2.2.2.2.2.2.2.2.2.2.2
theorem dq_dX1_init_29_1 : (decode cX1_init 29 = .ok (.aload_n 0, 1)) ∧ (decode cX1_init 30 = .ok (.iconst 0, 1)) ∧ (decode cX1_init 31 = .ok (.putfield 21, 3)) ∧ (decode cX1_init 34 = .ok (.return_, 1)) := by decide +kernel
theorem dX1_init_29 : decode cX1_init 29 = .ok (.aload_n 0, 1) := dq_dX1_init_29_1.1
theorem dX1_init_30 : decode cX1_init 30 = .ok (.iconst 0, 1) := dq_dX1_init_29_1.2.1
theorem dX1_init_31 : decode cX1_init 31 = .ok (.putfield 21, 3) := dq_dX1_init_29_1.2.2.1
theorem dX1_init_34 : decode cX1_init 34 = .ok (.return_, 1) := dq_dX1_init_29_1.2.2.2
theorem dq_dX2_init_0_0 : (decode cX2_init 0 = .ok (.aload_n 0, 1)) ∧ (decode cX2_init 1 = .ok (.invokespecial 3, 3)) ∧ (decode cX2_init 4 = .ok (.aload_n 0, 1)) ∧ (decode cX2_init 5 = .ok (.bipush 30, 2)) ∧ (decode cX2_init 7 = .ok (.newarray .int, 2)) ∧ (decode cX2_init 9 = .ok (.putfield 9, 3)) ∧ (decode cX2_init 12 = .ok (.aload_n 0, 1)) ∧ (decode cX2_init 13 = .ok (.bipush 30, 2)) ∧ (decode cX2_init 15 = .ok (.newarray .int, 2)) ∧ (decode cX2_init 17 = .ok (.putfield 15, 3)) ∧ (decode cX2_init 20 = .ok (.aload_n 0, 1)) ∧ (decode cX2_init 21 = .ok (.bipush 6, 2)) ∧ (decode cX2_init 23 = .ok (.newarray .int, 2)) ∧ (decode cX2_init 25 = .ok (.putfield 18, 3)) := by decide +kernel
theorem dX2_init_0 : decode cX2_init 0 = .ok (.aload_n 0, 1) := dq_dX2_init_0_0.1
theorem dX2_init_1 : decode cX2_init 1 = .ok (.invokespecial 3, 3) := dq_dX2_init_0_0.2.1
theorem dX2_init_4 : decode cX2_init 4 = .ok (.aload_n 0, 1) := dq_dX2_init_0_0.2.2.1
theorem dX2_init_5 : decode cX2_init 5 = .ok (.bipush 30, 2) := dq_dX2_init_0_0.2.2.2.1
theorem dX2_init_7 : decode cX2_init 7 = .ok (.newarray .int, 2) := dq_dX2_init_0_0.2.2.2.2.1
theorem dX2_init_9 : decode cX2_init 9 = .ok (.putfield 9, 3) := dq_dX2_init_0_0.2.2.2.2.2.1
theorem dX2_init_12 : decode cX2_init 12 = .ok (.aload_n 0, 1) := dq_dX2_init_0_0.2.2.2.2.2.2.1
theorem dX2_init_13 : decode cX2_init 13 = .ok (.bipush 30, 2) := dq_dX2_init_0_0.2.2.2.2.2.2.2.1
theorem dX2_init_15 : decode cX2_init 15 = .ok (.newarray .int, 2) := dq_dX2_init_0_0.2.2.2.2.2.2.2.2.1
theorem dX2_init_17 : decode cX2_init 17 = .ok (.putfield 15, 3) := dq_dX2_init_0_0.2.2.2.2.2.2.2.2.2.1
theorem dX2_init_20 : decode cX2_init 20 = .ok (.aload_n 0, 1) := dq_dX2_init_0_0.2.2.2.2.2.2.2.2.2.2.1
theorem dX2_init_21 : decode cX2_init 21 = .ok (.bipush 6, 2) := dq_dX2_init_0_0.2.2.2.2.2.2.2.2.2.2.2.1
theorem dX2_init_23 : decode cX2_init 23 = .ok (.newarray .int, 2) := dq_dX2_init_0_0.2.2.2.2.2.2.2.2.2.2.2.2.1
theorem dX2_init_25 : decode cX2_init 25 = .ok (.putfield 18, 3) := dq_dX2_init_0_0.2.2.2.2.2.2.2.2.2.2.2.2.2
theorem dq_dX2_init_28_1 : (decode cX2_init 28 = .ok (.aload_n 0, 1)) ∧ (decode cX2_init 29 = .ok (.new 21, 3)) ∧ (decode cX2_init 32 = .ok (.dup, 1)) ∧ (decode cX2_init 33 = .ok (.invokespecial 23, 3)) ∧ (decode cX2_init 36 = .ok (.putfield 24, 3)) ∧ (decode cX2_init 39 = .ok (.aload_n 0, 1)) ∧ (decode cX2_init 40 = .ok (.bipush 6, 2)) ∧ (decode cX2_init 42 = .ok (.anewarray 28, 3)) ∧ (decode cX2_init 45 = .ok (.putfield 30, 3)) ∧ (decode cX2_init 48 = .ok (.aload_n 0, 1)) ∧ (decode cX2_init 49 = .ok (.iconst 0, 1)) ∧ (decode cX2_init 50 = .ok (.putfield 34, 3)) ∧ (decode cX2_init 53 = .ok (.return_, 1)) := by decide +kernel
theorem dX2_init_28 : decode cX2_init 28 = .ok (.aload_n 0, 1) := dq_dX2_init_28_1.1
theorem dX2_init_29 : decode cX2_init 29 = .ok (.new 21, 3) := dq_dX2_init_28_1.2.1
theorem dX2_init_32 : decode cX2_init 32 = .ok (.dup, 1) := dq_dX2_init_28_1.2.2.1
theorem dX2_init_33 : decode cX2_init 33 = .ok (.invokespecial 23, 3) := dq_dX2_init_28_1.2.2.2.1
theorem dX2_init_36 : decode cX2_init 36 = .ok (.putfield 24, 3) := dq_dX2_init_28_1.2.2.2.2.1
theorem dX2_init_39 : decode cX2_init 39 = .ok (.aload_n 0, 1) := dq_dX2_init_28_1.2.2.2.2.2.1
theorem dX2_init_40 : decode cX2_init 40 = .ok (.bipush 6, 2) := dq_dX2_init_28_1.2.2.2.2.2.2.1
theorem dX2_init_42 : decode cX2_init 42 = .ok (.anewarray 28, 3) := dq_dX2_init_28_1.2.2.2.2.2.2.2.1
theorem dX2_init_45 : decode cX2_init 45 = .ok (.putfield 30, 3) := dq_dX2_init_28_1.2.2.2.2.2.2.2.2.1
theorem dX2_init_48 : decode cX2_init 48 = .ok (.aload_n 0, 1) := dq_dX2_init_28_1.2.2.2.2.2.2.2.2.2.1
theorem dX2_init_49 : decode cX2_init 49 = .ok (.iconst 0, 1) := dq_dX2_init_28_1.2.2.2.2.2.2.2.2.2.2.1
theorem dX2_init_50 : decode cX2_init 50 = .ok (.putfield 34, 3) := dq_dX2_init_28_1.2.2.2.2.2.2.2.2.2.2.2.1
theorem dX2_init_53 : decode cX2_init 53 = .ok (.return_, 1) := dq_dX2_init_28_1.2.2.2.2.2.2.2.2.2.2.2.2
theorem dq_dX3_init_0_0 : (decode cX3_init 0 = .ok (.aload_n 0, 1)) ∧ (decode cX3_init 1 = .ok (.invokespecial 3, 3)) ∧ (decode cX3_init 4 = .ok (.aload_n 0, 1)) ∧ (decode cX3_init 5 = .ok (.bipush 40, 2)) ∧ (decode cX3_init 7 = .ok (.newarray .int, 2)) ∧ (decode cX3_init 9 = .ok (.putfield 9, 3)) ∧ (decode cX3_init 12 = .ok (.aload_n 0, 1)) ∧ (decode cX3_init 13 = .ok (.bipush 40, 2)) ∧ (decode cX3_init 15 = .ok (.newarray .int, 2)) ∧ (decode cX3_init 17 = .ok (.putfield 15, 3)) ∧ (decode cX3_init 20 = .ok (.aload_n 0, 1)) ∧ (decode cX3_init 21 = .ok (.bipush 40, 2)) ∧ (decode cX3_init 23 = .ok (.newarray .int, 2)) ∧ (decode cX3_init 25 = .ok (.putfield 18, 3)) := by decide +kernel
theorem dX3_init_0 : decode cX3_init 0 = .ok (.aload_n 0, 1) := dq_dX3_init_0_0.1
theorem dX3_init_1 : decode cX3_init 1 = .ok (.invokespecial 3, 3) := dq_dX3_init_0_0.2.1
theorem dX3_init_4 : decode cX3_init 4 = .ok (.aload_n 0, 1) := dq_dX3_init_0_0.2.2.1
theorem dX3_init_5 : decode cX3_init 5 = .ok (.bipush 40, 2) := dq_dX3_init_0_0.2.2.2.1
theorem dX3_init_7 : decode cX3_init 7 = .ok (.newarray .int, 2) := dq_dX3_init_0_0.2.2.2.2.1
theorem dX3_init_9 : decode cX3_init 9 = .ok (.putfield 9, 3) := dq_dX3_init_0_0.2.2.2.2.2.1
theorem dX3_init_12 : decode cX3_init 12 = .ok (.aload_n 0, 1) := dq_dX3_init_0_0.2.2.2.2.2.2.1
theorem dX3_init_13 : decode cX3_init 13 = .ok (.bipush 40, 2) := dq_dX3_init_0_0.2.2.2.2.2.2.2.1
theorem dX3_init_15 : decode cX3_init 15 = .ok (.newarray .int, 2) := dq_dX3_init_0_0.2.2.2.2.2.2.2.2.1
theorem dX3_init_17 : decode cX3_init 17 = .ok (.putfield 15, 3) := dq_dX3_init_0_0.2.2.2.2.2.2.2.2.2.1
theorem dX3_init_20 : decode cX3_init 20 = .ok (.aload_n 0, 1) := dq_dX3_init_0_0.2.2.2.2.2.2.2.2.2.2.1
theorem dX3_init_21 : decode cX3_init 21 = .ok (.bipush 40, 2) := dq_dX3_init_0_0.2.2.2.2.2.2.2.2.2.2.2.1
theorem dX3_init_23 : decode cX3_init 23 = .ok (.newarray .int, 2) := dq_dX3_init_0_0.2.2.2.2.2.2.2.2.2.2.2.2.1
theorem dX3_init_25 : decode cX3_init 25 = .ok (.putfield 18, 3) := dq_dX3_init_0_0.2.2.2.2.2.2.2.2.2.2.2.2.2
theorem dq_dX3_init_28_1 : (decode cX3_init 28 = .ok (.aload_n 0, 1)) ∧ (decode cX3_init 29 = .ok (.bipush 40, 2)) ∧ (decode cX3_init 31 = .ok (.newarray .int, 2)) ∧ (decode cX3_init 33 = .ok (.putfield 21, 3)) ∧ (decode cX3_init 36 = .ok (.aload_n 0, 1)) ∧ (decode cX3_init 37 = .ok (.iconst 0, 1)) ∧ (decode cX3_init 38 = .ok (.putfield 24, 3)) ∧ (decode cX3_init 41 = .ok (.return_, 1)) := by decide +kernel
theorem dX3_init_28 : decode cX3_init 28 = .ok (.aload_n 0, 1) := dq_dX3_init_28_1.1
theorem dX3_init_29 : decode cX3_init 29 = .ok (.bipush 40, 2) := dq_dX3_init_28_1.2.1
theorem dX3_init_31 : decode cX3_init 31 = .ok (.newarray .int, 2) := dq_dX3_init_28_1.2.2.1
theorem dX3_init_33 : decode cX3_init 33 = .ok (.putfield 21, 3) := dq_dX3_init_28_1.2.2.2.1
theorem dX3_init_36 : decode cX3_init 36 = .ok (.aload_n 0, 1) := dq_dX3_init_28_1.2.2.2.2.1
theorem dX3_init_37 : decode cX3_init 37 = .ok (.iconst 0, 1) := dq_dX3_init_28_1.2.2.2.2.2.1
theorem dX3_init_38 : decode cX3_init 38 = .ok (.putfield 24, 3) := dq_dX3_init_28_1.2.2.2.2.2.2.1
theorem dX3_init_41 : decode cX3_init 41 = .ok (.return_, 1) := dq_dX3_init_28_1.2.2.2.2.2.2.2
theorem dq_dX4_init_0_0 : (decode cX4_init 0 = .ok (.aload_n 0, 1)) ∧ (decode cX4_init 1 = .ok (.invokespecial 3, 3)) ∧ (decode cX4_init 4 = .ok (.aload_n 0, 1)) ∧ (decode cX4_init 5 = .ok (.sipush 1440, 3)) ∧ (decode cX4_init 8 = .ok (.newarray .int, 2)) ∧ (decode cX4_init 10 = .ok (.putfield 9, 3)) ∧ (decode cX4_init 13 = .ok (.aload_n 0, 1)) ∧ (decode cX4_init 14 = .ok (.sipush 1440, 3)) ∧ (decode cX4_init 17 = .ok (.newarray .int, 2)) ∧ (decode cX4_init 19 = .ok (.putfield 15, 3)) ∧ (decode cX4_init 22 = .ok (.aload_n 0, 1)) ∧ (decode cX4_init 23 = .ok (.sipush 1440, 3)) ∧ (decode cX4_init 26 = .ok (.newarray .int, 2)) ∧ (decode cX4_init 28 = .ok (.putfield 18, 3)) := by decide +kernel
theorem dX4_init_0 : decode cX4_init 0 = .ok (.aload_n 0, 1) := dq_dX4_init_0_0.1
theorem dX4_init_1 : decode cX4_init 1 = .ok (.invokespecial 3, 3) := dq_dX4_init_0_0.2.1
theorem dX4_init_4 : decode cX4_init 4 = .ok (.aload_n 0, 1) := dq_dX4_init_0_0.2.2.1
theorem dX4_init_5 : decode cX4_init 5 = .ok (.sipush 1440, 3) := dq_dX4_init_0_0.2.2.2.1
theorem dX4_init_8 : decode cX4_init 8 = .ok (.newarray .int, 2) := dq_dX4_init_0_0.2.2.2.2.1
theorem dX4_init_10 : decode cX4_init 10 = .ok (.putfield 9, 3) := dq_dX4_init_0_0.2.2.2.2.2.1
theorem dX4_init_13 : decode cX4_init 13 = .ok (.aload_n 0, 1) := dq_dX4_init_0_0.2.2.2.2.2.2.1
theorem dX4_init_14 : decode cX4_init 14 = .ok (.sipush 1440, 3) := dq_dX4_init_0_0.2.2.2.2.2.2.2.1
theorem dX4_init_17 : decode cX4_init 17 = .ok (.newarray .int, 2) := dq_dX4_init_0_0.2.2.2.2.2.2.2.2.1
theorem dX4_init_19 : decode cX4_init 19 = .ok (.putfield 15, 3) := dq_dX4_init_0_0.2.2.2.2.2.2.2.2.2.1
theorem dX4_init_22 : decode cX4_init 22 = .ok (.aload_n 0, 1) := dq_dX4_init_0_0.2.2.2.2.2.2.2.2.2.2.1
theorem dX4_init_23 : decode cX4_init 23 = .ok (.sipush 1440, 3) := dq_dX4_init_0_0.2.2.2.2.2.2.2.2.2.2.2.1
theorem dX4_init_26 : decode cX4_init 26 = .ok (.newarray .int, 2) := dq_dX4_init_0_0.2.2.2.2.2.2.2.2.2.2.2.2.1
theorem dX4_init_28 : decode cX4_init 28 = .ok (.putfield 18, 3) := dq_dX4_init_0_0.2.2.2.2.2.2.2.2.2.2.2.2.2
theorem dq_dX4_init_31_1 : (decode cX4_init 31 = .ok (.aload_n 0, 1)) ∧ (decode cX4_init 32 = .ok (.sipush 1440, 3)) ∧ (decode cX4_init 35 = .ok (.newarray .int, 2)) ∧ (decode cX4_init 37 = .ok (.putfield 21, 3)) ∧ (decode cX4_init 40 = .ok (.aload_n 0, 1)) ∧ (decode cX4_init 41 = .ok (.new 24, 3)) ∧ (decode cX4_init 44 = .ok (.dup, 1)) ∧ (decode cX4_init 45 = .ok (.invokespecial 26, 3)) ∧ (decode cX4_init 48 = .ok (.putfield 27, 3)) ∧ (decode cX4_init 51 = .ok (.aload_n 0, 1)) ∧ (decode cX4_init 52 = .ok (.iconst 0, 1)) ∧ (decode cX4_init 53 = .ok (.putfield 31, 3)) ∧ (decode cX4_init 56 = .ok (.aload_n 0, 1)) ∧ (decode cX4_init 57 = .ok (.iconst (-1), 1)) := by decide +kernel
theorem dX4_init_31 : decode cX4_init 31 = .ok (.aload_n 0, 1) := dq_dX4_init_31_1.1
theorem dX4_init_32 : decode cX4_init 32 = .ok (.sipush 1440, 3) := dq_dX4_init_31_1.2.1
theorem dX4_init_35 : decode cX4_init 35 = .ok (.newarray .int, 2) := dq_dX4_init_31_1.2.2.1
theorem dX4_init_37 : decode cX4_init 37 = .ok (.putfield 21, 3) := dq_dX4_init_31_1.2.2.2.1
theorem dX4_init_40 : decode cX4_init 40 = .ok (.aload_n 0, 1) := dq_dX4_init_31_1.2.2.2.2.1
theorem dX4_init_41 : decode cX4_init 41 = .ok (.new 24, 3) := dq_dX4_init_31_1.2.2.2.2.2.1
theorem dX4_init_44 : decode cX4_init 44 = .ok (.dup, 1) := dq_dX4_init_31_1.2.2.2.2.2.2.1
theorem dX4_init_45 : decode cX4_init 45 = .ok (.invokespecial 26, 3) := dq_dX4_init_31_1.2.2.2.2.2.2.2.1
theorem dX4_init_48 : decode cX4_init 48 = .ok (.putfield 27, 3) := dq_dX4_init_31_1.2.2.2.2.2.2.2.2.1
theorem dX4_init_51 : decode cX4_init 51 = .ok (.aload_n 0, 1) := dq_dX4_init_31_1.2.2.2.2.2.2.2.2.2.1
theorem dX4_init_52 : decode cX4_init 52 = .ok (.iconst 0, 1) := dq_dX4_init_31_1.2.2.2.2.2.2.2.2.2.2.1
theorem dX4_init_53 : decode cX4_init 53 = .ok (.putfield 31, 3) := dq_dX4_init_31_1.2.2.2.2.2.2.2.2.2.2.2.1
theorem dX4_init_56 : decode cX4_init 56 = .ok (.aload_n 0, 1) := dq_dX4_init_31_1.2.2.2.2.2.2.2.2.2.2.2.2.1
theorem dX4_init_57 : decode cX4_init 57 = .ok (.iconst (-1), 1) := dq_dX4_init_31_1.2.2.2.2.2.2.2.2.2.2.2.2.2
theorem dq_dX4_init_58_2 : (decode cX4_init 58 = .ok (.putfield 35, 3)) ∧ (decode cX4_init 61 = .ok (.return_, 1)) := by decide +kernel
theorem dX4_init_58 : decode cX4_init 58 = .ok (.putfield 35, 3) := dq_dX4_init_58_2.1
theorem dX4_init_61 : decode cX4_init 61 = .ok (.return_, 1) := dq_dX4_init_58_2.2
theorem dq_dX5_init_0_0 : (decode cX5_init 0 = .ok (.aload_n 0, 1)) ∧ (decode cX5_init 1 = .ok (.invokespecial 3, 3)) ∧ (decode cX5_init 4 = .ok (.aload_n 0, 1)) ∧ (decode cX5_init 5 = .ok (.sipush 128, 3)) ∧ (decode cX5_init 8 = .ok (.newarray .int, 2)) ∧ (decode cX5_init 10 = .ok (.putfield 9, 3)) ∧ (decode cX5_init 13 = .ok (.aload_n 0, 1)) ∧ (decode cX5_init 14 = .ok (.bipush 32, 2)) ∧ (decode cX5_init 16 = .ok (.newarray .int, 2)) ∧ (decode cX5_init 18 = .ok (.putfield 15, 3)) ∧ (decode cX5_init 21 = .ok (.return_, 1)) := by decide +kernel
theorem dX5_init_0 : decode cX5_init 0 = .ok (.aload_n 0, 1) := dq_dX5_init_0_0.1
theorem dX5_init_1 : decode cX5_init 1 = .ok (.invokespecial 3, 3) := dq_dX5_init_0_0.2.1
theorem dX5_init_4 : decode cX5_init 4 = .ok (.aload_n 0, 1) := dq_dX5_init_0_0.2.2.1
theorem dX5_init_5 : decode cX5_init 5 = .ok (.sipush 128, 3) := dq_dX5_init_0_0.2.2.2.1
theorem dX5_init_8 : decode cX5_init 8 = .ok (.newarray .int, 2) := dq_dX5_init_0_0.2.2.2.2.1
theorem dX5_init_10 : decode cX5_init 10 = .ok (.putfield 9, 3) := dq_dX5_init_0_0.2.2.2.2.2.1
theorem dX5_init_13 : decode cX5_init 13 = .ok (.aload_n 0, 1) := dq_dX5_init_0_0.2.2.2.2.2.2.1
theorem dX5_init_14 : decode cX5_init 14 = .ok (.bipush 32, 2) := dq_dX5_init_0_0.2.2.2.2.2.2.2.1
theorem dX5_init_16 : decode cX5_init 16 = .ok (.newarray .int, 2) := dq_dX5_init_0_0.2.2.2.2.2.2.2.2.1
theorem dX5_init_18 : decode cX5_init 18 = .ok (.putfield 15, 3) := dq_dX5_init_0_0.2.2.2.2.2.2.2.2.2.1
theorem dX5_init_21 : decode cX5_init 21 = .ok (.return_, 1) := dq_dX5_init_0_0.2.2.2.2.2.2.2.2.2.2
theorem dq_dX6_init_0_0 : (decode cX6_init 0 = .ok (.aload_n 0, 1)) ∧ (decode cX6_init 1 = .ok (.invokespecial 3, 3)) ∧ (decode cX6_init 4 = .ok (.aload_n 0, 1)) ∧ (decode cX6_init 5 = .ok (.bipush 120, 2)) ∧ (decode cX6_init 7 = .ok (.newarray .int, 2)) ∧ (decode cX6_init 9 = .ok (.putfield 9, 3)) ∧ (decode cX6_init 12 = .ok (.aload_n 0, 1)) ∧ (decode cX6_init 13 = .ok (.bipush 13, 2)) ∧ (decode cX6_init 15 = .ok (.newarray .int, 2)) ∧ (decode cX6_init 17 = .ok (.putfield 15, 3)) ∧ (decode cX6_init 20 = .ok (.aload_n 0, 1)) ∧ (decode cX6_init 21 = .ok (.bipush 12, 2)) ∧ (decode cX6_init 23 = .ok (.newarray .int, 2)) ∧ (decode cX6_init 25 = .ok (.putfield 18, 3)) := by decide +kernel
theorem dX6_init_0 : decode cX6_init 0 = .ok (.aload_n 0, 1) := dq_dX6_init_0_0.1
theorem dX6_init_1 : decode cX6_init 1 = .ok (.invokespecial 3, 3) := dq_dX6_init_0_0.2.1
theorem dX6_init_4 : decode cX6_init 4 = .ok (.aload_n 0, 1) := dq_dX6_init_0_0.2.2.1
theorem dX6_init_5 : decode cX6_init 5 = .ok (.bipush 120, 2) := dq_dX6_init_0_0.2.2.2.1
theorem dX6_init_7 : decode cX6_init 7 = .ok (.newarray .int, 2) := dq_dX6_init_0_0.2.2.2.2.1
theorem dX6_init_9 : decode cX6_init 9 = .ok (.putfield 9, 3) := dq_dX6_init_0_0.2.2.2.2.2.1
theorem dX6_init_12 : decode cX6_init 12 = .ok (.aload_n 0, 1) := dq_dX6_init_0_0.2.2.2.2.2.2.1
theorem dX6_init_13 : decode cX6_init 13 = .ok (.bipush 13, 2) := dq_dX6_init_0_0.2.2.2.2.2.2.2.1
theorem dX6_init_15 : decode cX6_init 15 = .ok (.newarray .int, 2) := dq_dX6_init_0_0.2.2.2.2.2.2.2.2.1
theorem dX6_init_17 : decode cX6_init 17 = .ok (.putfield 15, 3) := dq_dX6_init_0_0.2.2.2.2.2.2.2.2.2.1
theorem dX6_init_20 : decode cX6_init 20 = .ok (.aload_n 0, 1) := dq_dX6_init_0_0.2.2.2.2.2.2.2.2.2.2.1
theorem dX6_init_21 : decode cX6_init 21 = .ok (.bipush 12, 2) := dq_dX6_init_0_0.2.2.2.2.2.2.2.2.2.2.2.1
theorem dX6_init_23 : decode cX6_init 23 = .ok (.newarray .int, 2) := dq_dX6_init_0_0.2.2.2.2.2.2.2.2.2.2.2.2.1
theorem dX6_init_25 : decode cX6_init 25 = .ok (.putfield 18, 3) := dq_dX6_init_0_0.2.2.2.2.2.2.2.2.2.2.2.2.2
theorem dq_dX6_init_28_1 : (decode cX6_init 28 = .ok (.aload_n 0, 1)) ∧ (decode cX6_init 29 = .ok (.iconst 0, 1)) ∧ (decode cX6_init 30 = .ok (.newarray .int, 2)) ∧ (decode cX6_init 32 = .ok (.putfield 21, 3)) ∧ (decode cX6_init 35 = .ok (.aload_n 0, 1)) ∧ (decode cX6_init 36 = .ok (.iconst 0, 1)) ∧ (decode cX6_init 37 = .ok (.putfield 24, 3)) ∧ (decode cX6_init 40 = .ok (.aload_n 0, 1)) ∧ (decode cX6_init 41 = .ok (.iconst 0, 1)) ∧ (decode cX6_init 42 = .ok (.putfield 28, 3)) ∧ (decode cX6_init 45 = .ok (.aload_n 0, 1)) ∧ (decode cX6_init 46 = .ok (.iconst 0, 1)) ∧ (decode cX6_init 47 = .ok (.putfield 31, 3)) ∧ (decode cX6_init 50 = .ok (.aload_n 0, 1)) := by decide +kernel
theorem dX6_init_28 : decode cX6_init 28 = .ok (.aload_n 0, 1) := dq_dX6_init_28_1.1
theorem dX6_init_29 : decode cX6_init 29 = .ok (.iconst 0, 1) := dq_dX6_init_28_1.2.1
theorem dX6_init_30 : decode cX6_init 30 = .ok (.newarray .int, 2) := dq_dX6_init_28_1.2.2.1
theorem dX6_init_32 : decode cX6_init 32 = .ok (.putfield 21, 3) := dq_dX6_init_28_1.2.2.2.1
theorem dX6_init_35 : decode cX6_init 35 = .ok (.aload_n 0, 1) := dq_dX6_init_28_1.2.2.2.2.1
theorem dX6_init_36 : decode cX6_init 36 = .ok (.iconst 0, 1) := dq_dX6_init_28_1.2.2.2.2.2.1
theorem dX6_init_37 : decode cX6_init 37 = .ok (.putfield 24, 3) := dq_dX6_init_28_1.2.2.2.2.2.2.1
theorem dX6_init_40 : decode cX6_init 40 = .ok (.aload_n 0, 1) := dq_dX6_init_28_1.2.2.2.2.2.2.2.1
theorem dX6_init_41 : decode cX6_init 41 = .ok (.iconst 0, 1) := dq_dX6_init_28_1.2.2.2.2.2.2.2.2.1
theorem dX6_init_42 : decode cX6_init 42 = .ok (.putfield 28, 3) := dq_dX6_init_28_1.2.2.2.2.2.2.2.2.2.1
theorem dX6_init_45 : decode cX6_init 45 = .ok (.aload_n 0, 1) := dq_dX6_init_28_1.2.2.2.2.2.2.2.2.2.2.1
theorem dX6_init_46 : decode cX6_init 46 = .ok (.iconst 0, 1) := dq_dX6_init_28_1.2.2.2.2.2.2.2.2.2.2.2.1
theorem dX6_init_47 : decode cX6_init 47 = .ok (.putfield 31, 3) := dq_dX6_init_28_1.2.2.2.2.2.2.2.2.2.2.2.2.1
theorem dX6_init_50 : decode cX6_init 50 = .ok (.aload_n 0, 1) := dq_dX6_init_28_1.2.2.2.2.2.2.2.2.2.2.2.2.2
theorem dq_dX6_init_51_2 : (decode cX6_init 51 = .ok (.iconst 0, 1)) ∧ (decode cX6_init 52 = .ok (.putfield 34, 3)) ∧ (decode cX6_init 55 = .ok (.return_, 1)) := by decide +kernel
theorem dX6_init_51 : decode cX6_init 51 = .ok (.iconst 0, 1) := dq_dX6_init_51_2.1
theorem dX6_init_52 : decode cX6_init 52 = .ok (.putfield 34, 3) := dq_dX6_init_51_2.2.1
theorem dX6_init_55 : decode cX6_init 55 = .ok (.return_, 1) := dq_dX6_init_51_2.2.2
theorem dq_dX7_init_0_0 : (decode cX7_init 0 = .ok (.aload_n 0, 1)) ∧ (decode cX7_init 1 = .ok (.invokespecial 3, 3)) ∧ (decode cX7_init 4 = .ok (.aload_n 0, 1)) ∧ (decode cX7_init 5 = .ok (.bipush 10, 2)) ∧ (decode cX7_init 7 = .ok (.anewarray 9, 3)) ∧ (decode cX7_init 10 = .ok (.putfield 11, 3)) ∧ (decode cX7_init 13 = .ok (.aload_n 0, 1)) ∧ (decode cX7_init 14 = .ok (.new 17, 3)) ∧ (decode cX7_init 17 = .ok (.dup, 1)) ∧ (decode cX7_init 18 = .ok (.invokespecial 19, 3)) ∧ (decode cX7_init 21 = .ok (.putfield 20, 3)) ∧ (decode cX7_init 24 = .ok (.aload_n 0, 1)) ∧ (decode cX7_init 25 = .ok (.iconst 0, 1)) ∧ (decode cX7_init 26 = .ok (.putfield 24, 3)) := by decide +kernel
theorem dX7_init_0 : decode cX7_init 0 = .ok (.aload_n 0, 1) := dq_dX7_init_0_0.1
theorem dX7_init_1 : decode cX7_init 1 = .ok (.invokespecial 3, 3) := dq_dX7_init_0_0.2.1
theorem dX7_init_4 : decode cX7_init 4 = .ok (.aload_n 0, 1) := dq_dX7_init_0_0.2.2.1
theorem dX7_init_5 : decode cX7_init 5 = .ok (.bipush 10, 2) := dq_dX7_init_0_0.2.2.2.1
theorem dX7_init_7 : decode cX7_init 7 = .ok (.anewarray 9, 3) := dq_dX7_init_0_0.2.2.2.2.1
theorem dX7_init_10 : decode cX7_init 10 = .ok (.putfield 11, 3) := dq_dX7_init_0_0.2.2.2.2.2.1
theorem dX7_init_13 : decode cX7_init 13 = .ok (.aload_n 0, 1) := dq_dX7_init_0_0.2.2.2.2.2.2.1
theorem dX7_init_14 : decode cX7_init 14 = .ok (.new 17, 3) := dq_dX7_init_0_0.2.2.2.2.2.2.2.1
theorem dX7_init_17 : decode cX7_init 17 = .ok (.dup, 1) := dq_dX7_init_0_0.2.2.2.2.2.2.2.2.1
theorem dX7_init_18 : decode cX7_init 18 = .ok (.invokespecial 19, 3) := dq_dX7_init_0_0.2.2.2.2.2.2.2.2.2.1
theorem dX7_init_21 : decode cX7_init 21 = .ok (.putfield 20, 3) := dq_dX7_init_0_0.2.2.2.2.2.2.2.2.2.2.1
theorem dX7_init_24 : decode cX7_init 24 = .ok (.aload_n 0, 1) := dq_dX7_init_0_0.2.2.2.2.2.2.2.2.2.2.2.1
theorem dX7_init_25 : decode cX7_init 25 = .ok (.iconst 0, 1) := dq_dX7_init_0_0.2.2.2.2.2.2.2.2.2.2.2.2.1
theorem dX7_init_26 : decode cX7_init 26 = .ok (.putfield 24, 3) := dq_dX7_init_0_0.2.2.2.2.2.2.2.2.2.2.2.2.2
theorem dq_dX7_init_29_1 : (decode cX7_init 29 = .ok (.aload_n 0, 1)) ∧ (decode cX7_init 30 = .ok (.iconst 0, 1)) ∧ (decode cX7_init 31 = .ok (.putfield 28, 3)) ∧ (decode cX7_init 34 = .ok (.return_, 1)) := by decide +kernel
theorem dX7_init_29 : decode cX7_init 29 = .ok (.aload_n 0, 1) := dq_dX7_init_29_1.1
theorem dX7_init_30 : decode cX7_init 30 = .ok (.iconst 0, 1) := dq_dX7_init_29_1.2.1
theorem dX7_init_31 : decode cX7_init 31 = .ok (.putfield 28, 3) := dq_dX7_init_29_1.2.2.1
theorem dX7_init_34 : decode cX7_init 34 = .ok (.return_, 1) := dq_dX7_init_29_1.2.2.2
theorem dq_dX9_init_0_0 : (decode cX9_init 0 = .ok (.aload_n 0, 1)) ∧ (decode cX9_init 1 = .ok (.invokespecial 3, 3)) ∧ (decode cX9_init 4 = .ok (.aload_n 0, 1)) ∧ (decode cX9_init 5 = .ok (.sipush 200, 3)) ∧ (decode cX9_init 8 = .ok (.newarray .int, 2)) ∧ (decode cX9_init 10 = .ok (.putfield 9, 3)) ∧ (decode cX9_init 13 = .ok (.aload_n 0, 1)) ∧ (decode cX9_init 14 = .ok (.iconst 0, 1)) ∧ (decode cX9_init 15 = .ok (.putfield 15, 3)) ∧ (decode cX9_init 18 = .ok (.return_, 1)) := by decide +kernel
theorem dX9_init_0 : decode cX9_init 0 = .ok (.aload_n 0, 1) := dq_dX9_init_0_0.1
theorem dX9_init_1 : decode cX9_init 1 = .ok (.invokespecial 3, 3) := dq_dX9_init_0_0.2.1
theorem dX9_init_4 : decode cX9_init 4 = .ok (.aload_n 0, 1) := dq_dX9_init_0_0.2.2.1
theorem dX9_init_5 : decode cX9_init 5 = .ok (.sipush 200, 3) := dq_dX9_init_0_0.2.2.2.1
theorem dX9_init_8 : decode cX9_init 8 = .ok (.newarray .int, 2) := dq_dX9_init_0_0.2.2.2.2.1
theorem dX9_init_10 : decode cX9_init 10 = .ok (.putfield 9, 3) := dq_dX9_init_0_0.2.2.2.2.2.1
theorem dX9_init_13 : decode cX9_init 13 = .ok (.aload_n 0, 1) := dq_dX9_init_0_0.2.2.2.2.2.2.1
theorem dX9_init_14 : decode cX9_init 14 = .ok (.iconst 0, 1) := dq_dX9_init_0_0.2.2.2.2.2.2.2.1
theorem dX9_init_15 : decode cX9_init 15 = .ok (.putfield 15, 3) := dq_dX9_init_0_0.2.2.2.2.2.2.2.2.1
theorem dX9_init_18 : decode cX9_init 18 = .ok (.return_, 1) := dq_dX9_init_0_0.2.2.2.2.2.2.2.2.2
theorem dq_dX11_init_0_0 : (decode cX11_init 0 = .ok (.aload_n 0, 1)) ∧ (decode cX11_init 1 = .ok (.invokespecial 1, 3)) ∧ (decode cX11_init 4 = .ok (.aload_n 0, 1)) ∧ (decode cX11_init 5 = .ok (.new 7, 3)) ∧ (decode cX11_init 8 = .ok (.dup, 1)) ∧ (decode cX11_init 9 = .ok (.invokespecial 9, 3)) ∧ (decode cX11_init 12 = .ok (.putfield 10, 3)) ∧ (decode cX11_init 15 = .ok (.aload_n 0, 1)) ∧ (decode cX11_init 16 = .ok (.new 16, 3)) ∧ (decode cX11_init 19 = .ok (.dup, 1)) ∧ (decode cX11_init 20 = .ok (.invokespecial 18, 3)) ∧ (decode cX11_init 23 = .ok (.putfield 19, 3)) ∧ (decode cX11_init 26 = .ok (.aload_n 0, 1)) ∧ (decode cX11_init 27 = .ok (.new 23, 3)) := by decide +kernel
theorem dX11_init_0 : decode cX11_init 0 = .ok (.aload_n 0, 1) := dq_dX11_init_0_0.1
theorem dX11_init_1 : decode cX11_init 1 = .ok (.invokespecial 1, 3) := dq_dX11_init_0_0.2.1
theorem dX11_init_4 : decode cX11_init 4 = .ok (.aload_n 0, 1) := dq_dX11_init_0_0.2.2.1
theorem dX11_init_5 : decode cX11_init 5 = .ok (.new 7, 3) := dq_dX11_init_0_0.2.2.2.1
theorem dX11_init_8 : decode cX11_init 8 = .ok (.dup, 1) := dq_dX11_init_0_0.2.2.2.2.1
theorem dX11_init_9 : decode cX11_init 9 = .ok (.invokespecial 9, 3) := dq_dX11_init_0_0.2.2.2.2.2.1
theorem dX11_init_12 : decode cX11_init 12 = .ok (.putfield 10, 3) := dq_dX11_init_0_0.2.2.2.2.2.2.1
theorem dX11_init_15 : decode cX11_init 15 = .ok (.aload_n 0, 1) := dq_dX11_init_0_0.2.2.2.2.2.2.2.1
theorem dX11_init_16 : decode cX11_init 16 = .ok (.new 16, 3) := dq_dX11_init_0_0.2.2.2.2.2.2.2.2.1
theorem dX11_init_19 : decode cX11_init 19 = .ok (.dup, 1) := dq_dX11_init_0_0.2.2.2.2.2.2.2.2.2.1
theorem dX11_init_20 : decode cX11_init 20 = .ok (.invokespecial 18, 3) := dq_dX11_init_0_0.2.2.2.2.2.2.2.2.2.2.1
theorem dX11_init_23 : decode cX11_init 23 = .ok (.putfield 19, 3) := dq_dX11_init_0_0.2.2.2.2.2.2.2.2.2.2.2.1
theorem dX11_init_26 : decode cX11_init 26 = .ok (.aload_n 0, 1) := dq_dX11_init_0_0.2.2.2.2.2.2.2.2.2.2.2.2.1
theorem dX11_init_27 : decode cX11_init 27 = .ok (.new 23, 3) := dq_dX11_init_0_0.2.2.2.2.2.2.2.2.2.2.2.2.2
theorem dq_dX11_init_30_1 : (decode cX11_init 30 = .ok (.dup, 1)) ∧ (decode cX11_init 31 = .ok (.invokespecial 25, 3)) ∧ (decode cX11_init 34 = .ok (.putfield 26, 3)) ∧ (decode cX11_init 37 = .ok (.aload_n 0, 1)) ∧ (decode cX11_init 38 = .ok (.new 30, 3)) ∧ (decode cX11_init 41 = .ok (.dup, 1)) ∧ (decode cX11_init 42 = .ok (.invokespecial 32, 3)) ∧ (decode cX11_init 45 = .ok (.putfield 33, 3)) ∧ (decode cX11_init 48 = .ok (.aload_n 0, 1)) ∧ (decode cX11_init 49 = .ok (.iconst 4, 1)) ∧ (decode cX11_init 50 = .ok (.anewarray 37, 3)) ∧ (decode cX11_init 53 = .ok (.putfield 39, 3)) ∧ (decode cX11_init 56 = .ok (.aload_n 0, 1)) ∧ (decode cX11_init 57 = .ok (.new 43, 3)) := by decide +kernel
theorem dX11_init_30 : decode cX11_init 30 = .ok (.dup, 1) := dq_dX11_init_30_1.1
theorem dX11_init_31 : decode cX11_init 31 = .ok (.invokespecial 25, 3) := dq_dX11_init_30_1.2.1
theorem dX11_init_34 : decode cX11_init 34 = .ok (.putfield 26, 3) := dq_dX11_init_30_1.2.2.1
theorem dX11_init_37 : decode cX11_init 37 = .ok (.aload_n 0, 1) := dq_dX11_init_30_1.2.2.2.1
theorem dX11_init_38 : decode cX11_init 38 = .ok (.new 30, 3) := dq_dX11_init_30_1.2.2.2.2.1
theorem dX11_init_41 : decode cX11_init 41 = .ok (.dup, 1) := dq_dX11_init_30_1.2.2.2.2.2.1
theorem dX11_init_42 : decode cX11_init 42 = .ok (.invokespecial 32, 3) := dq_dX11_init_30_1.2.2.2.2.2.2.1
theorem dX11_init_45 : decode cX11_init 45 = .ok (.putfield 33, 3) := dq_dX11_init_30_1.2.2.2.2.2.2.2.1
theorem dX11_init_48 : decode cX11_init 48 = .ok (.aload_n 0, 1) := dq_dX11_init_30_1.2.2.2.2.2.2.2.2.1
theorem dX11_init_49 : decode cX11_init 49 = .ok (.iconst 4, 1) := dq_dX11_init_30_1.2.2.2.2.2.2.2.2.2.1
theorem dX11_init_50 : decode cX11_init 50 = .ok (.anewarray 37, 3) := dq_dX11_init_30_1.2.2.2.2.2.2.2.2.2.2.1
theorem dX11_init_53 : decode cX11_init 53 = .ok (.putfield 39, 3) := dq_dX11_init_30_1.2.2.2.2.2.2.2.2.2.2.2.1
theorem dX11_init_56 : decode cX11_init 56 = .ok (.aload_n 0, 1) := dq_dX11_init_30_1.2.2.2.2.2.2.2.2.2.2.2.2.1
theorem dX11_init_57 : decode cX11_init 57 = .ok (.new 43, 3) := dq_dX11_init_30_1.2.2.2.2.2.2.2.2.2.2.2.2.2
theorem dq_dX11_init_60_2 : (decode cX11_init 60 = .ok (.dup, 1)) ∧ (decode cX11_init 61 = .ok (.invokespecial 45, 3)) ∧ (decode cX11_init 64 = .ok (.putfield 46, 3)) ∧ (decode cX11_init 67 = .ok (.aload_n 0, 1)) ∧ (decode cX11_init 68 = .ok (.new 50, 3)) ∧ (decode cX11_init 71 = .ok (.dup, 1)) ∧ (decode cX11_init 72 = .ok (.invokespecial 52, 3)) ∧ (decode cX11_init 75 = .ok (.putfield 53, 3)) ∧ (decode cX11_init 78 = .ok (.aload_n 0, 1)) ∧ (decode cX11_init 79 = .ok (.new 57, 3)) ∧ (decode cX11_init 82 = .ok (.dup, 1)) ∧ (decode cX11_init 83 = .ok (.invokespecial 59, 3)) ∧ (decode cX11_init 86 = .ok (.putfield 60, 3)) ∧ (decode cX11_init 89 = .ok (.aload_n 0, 1)) := by decide +kernel
theorem dX11_init_60 : decode cX11_init 60 = .ok (.dup, 1) := dq_dX11_init_60_2.1
theorem dX11_init_61 : decode cX11_init 61 = .ok (.invokespecial 45, 3) := dq_dX11_init_60_2.2.1
theorem dX11_init_64 : decode cX11_init 64 = .ok (.putfield 46, 3) := dq_dX11_init_60_2.2.2.1
theorem dX11_init_67 : decode cX11_init 67 = .ok (.aload_n 0, 1) := dq_dX11_init_60_2.2.2.2.1
theorem dX11_init_68 : decode cX11_init 68 = .ok (.new 50, 3) := dq_dX11_init_60_2.2.2.2.2.1
theorem dX11_init_71 : decode cX11_init 71 = .ok (.dup, 1) := dq_dX11_init_60_2.2.2.2.2.2.1
theorem dX11_init_72 : decode cX11_init 72 = .ok (.invokespecial 52, 3) := dq_dX11_init_60_2.2.2.2.2.2.2.1
theorem dX11_init_75 : decode cX11_init 75 = .ok (.putfield 53, 3) := dq_dX11_init_60_2.2.2.2.2.2.2.2.1
theorem dX11_init_78 : decode cX11_init 78 = .ok (.aload_n 0, 1) := dq_dX11_init_60_2.2.2.2.2.2.2.2.2.1
theorem dX11_init_79 : decode cX11_init 79 = .ok (.new 57, 3) := dq_dX11_init_60_2.2.2.2.2.2.2.2.2.2.1
theorem dX11_init_82 : decode cX11_init 82 = .ok (.dup, 1) := dq_dX11_init_60_2.2.2.2.2.2.2.2.2.2.2.1
theorem dX11_init_83 : decode cX11_init 83 = .ok (.invokespecial 59, 3) := dq_dX11_init_60_2.2.2.2.2.2.2.2.2.2.2.2.1
theorem dX11_init_86 : decode cX11_init 86 = .ok (.putfield 60, 3) := dq_dX11_init_60_2.2.2.2.2.2.2.2.2.2.2.2.2.1
theorem dX11_init_89 : decode cX11_init 89 = .ok (.aload_n 0, 1) := dq_dX11_init_60_2.2.2.2.2.2.2.2.2.2.2.2.2.2
theorem dq_dX11_init_90_3 : (decode cX11_init 90 = .ok (.new 64, 3)) ∧ (decode cX11_init 93 = .ok (.dup, 1)) ∧ (decode cX11_init 94 = .ok (.invokespecial 66, 3)) ∧ (decode cX11_init 97 = .ok (.putfield 67, 3)) ∧ (decode cX11_init 100 = .ok (.return_, 1)) := by decide +kernel
theorem dX11_init_90 : decode cX11_init 90 = .ok (.new 64, 3) := dq_dX11_init_90_3.1
theorem dX11_init_93 : decode cX11_init 93 = .ok (.dup, 1) := dq_dX11_init_90_3.2.1
theorem dX11_init_94 : decode cX11_init 94 = .ok (.invokespecial 66, 3) := dq_dX11_init_90_3.2.2.1
theorem dX11_init_97 : decode cX11_init 97 = .ok (.putfield 67, 3) := dq_dX11_init_90_3.2.2.2.1
theorem dX11_init_100 : decode cX11_init 100 = .ok (.return_, 1) := dq_dX11_init_90_3.2.2.2.2
theorem dq_dX12_init_0_0 : (decode cX12_init 0 = .ok (.aload_n 0, 1)) ∧ (decode cX12_init 1 = .ok (.invokespecial 1, 3)) ∧ (decode cX12_init 4 = .ok (.aload_n 0, 1)) ∧ (decode cX12_init 5 = .ok (.sipush 200, 3)) ∧ (decode cX12_init 8 = .ok (.newarray .byte, 2)) ∧ (decode cX12_init 10 = .ok (.putfield 7, 3)) ∧ (decode cX12_init 13 = .ok (.aload_n 0, 1)) ∧ (decode cX12_init 14 = .ok (.bipush 20, 2)) ∧ (decode cX12_init 16 = .ok (.newarray .int, 2)) ∧ (decode cX12_init 18 = .ok (.putfield 13, 3)) ∧ (decode cX12_init 21 = .ok (.aload_n 0, 1)) ∧ (decode cX12_init 22 = .ok (.sipush 240, 3)) ∧ (decode cX12_init 25 = .ok (.newarray .int, 2)) ∧ (decode cX12_init 27 = .ok (.putfield 17, 3)) := by decide +kernel
theorem dX12_init_0 : decode cX12_init 0 = .ok (.aload_n 0, 1) := dq_dX12_init_0_0.1
theorem dX12_init_1 : decode cX12_init 1 = .ok (.invokespecial 1, 3) := dq_dX12_init_0_0.2.1
theorem dX12_init_4 : decode cX12_init 4 = .ok (.aload_n 0, 1) := dq_dX12_init_0_0.2.2.1
theorem dX12_init_5 : decode cX12_init 5 = .ok (.sipush 200, 3) := dq_dX12_init_0_0.2.2.2.1
theorem dX12_init_8 : decode cX12_init 8 = .ok (.newarray .byte, 2) := dq_dX12_init_0_0.2.2.2.2.1
theorem dX12_init_10 : decode cX12_init 10 = .ok (.putfield 7, 3) := dq_dX12_init_0_0.2.2.2.2.2.1
theorem dX12_init_13 : decode cX12_init 13 = .ok (.aload_n 0, 1) := dq_dX12_init_0_0.2.2.2.2.2.2.1
theorem dX12_init_14 : decode cX12_init 14 = .ok (.bipush 20, 2) := dq_dX12_init_0_0.2.2.2.2.2.2.2.1
theorem dX12_init_16 : decode cX12_init 16 = .ok (.newarray .int, 2) := dq_dX12_init_0_0.2.2.2.2.2.2.2.2.1
theorem dX12_init_18 : decode cX12_init 18 = .ok (.putfield 13, 3) := dq_dX12_init_0_0.2.2.2.2.2.2.2.2.2.1
theorem dX12_init_21 : decode cX12_init 21 = .ok (.aload_n 0, 1) := dq_dX12_init_0_0.2.2.2.2.2.2.2.2.2.2.1
theorem dX12_init_22 : decode cX12_init 22 = .ok (.sipush 240, 3) := dq_dX12_init_0_0.2.2.2.2.2.2.2.2.2.2.2.1
theorem dX12_init_25 : decode cX12_init 25 = .ok (.newarray .int, 2) := dq_dX12_init_0_0.2.2.2.2.2.2.2.2.2.2.2.2.1
theorem dX12_init_27 : decode cX12_init 27 = .ok (.putfield 17, 3) := dq_dX12_init_0_0.2.2.2.2.2.2.2.2.2.2.2.2.2
theorem dq_dX12_init_30_1 : (decode cX12_init 30 = .ok (.aload_n 0, 1)) ∧ (decode cX12_init 31 = .ok (.sipush 240, 3)) ∧ (decode cX12_init 34 = .ok (.newarray .int, 2)) ∧ (decode cX12_init 36 = .ok (.putfield 20, 3)) ∧ (decode cX12_init 39 = .ok (.aload_n 0, 1)) ∧ (decode cX12_init 40 = .ok (.sipush 240, 3)) ∧ (decode cX12_init 43 = .ok (.newarray .int, 2)) ∧ (decode cX12_init 45 = .ok (.putfield 23, 3)) ∧ (decode cX12_init 48 = .ok (.aload_n 0, 1)) ∧ (decode cX12_init 49 = .ok (.sipush 2400, 3)) ∧ (decode cX12_init 52 = .ok (.newarray .int, 2)) ∧ (decode cX12_init 54 = .ok (.putfield 26, 3)) ∧ (decode cX12_init 57 = .ok (.aload_n 0, 1)) ∧ (decode cX12_init 58 = .ok (.sipush 2400, 3)) := by decide +kernel
theorem dX12_init_30 : decode cX12_init 30 = .ok (.aload_n 0, 1) := dq_dX12_init_30_1.1
theorem dX12_init_31 : decode cX12_init 31 = .ok (.sipush 240, 3) := dq_dX12_init_30_1.2.1
theorem dX12_init_34 : decode cX12_init 34 = .ok (.newarray .int, 2) := dq_dX12_init_30_1.2.2.1
theorem dX12_init_36 : decode cX12_init 36 = .ok (.putfield 20, 3) := dq_dX12_init_30_1.2.2.2.1
theorem dX12_init_39 : decode cX12_init 39 = .ok (.aload_n 0, 1) := dq_dX12_init_30_1.2.2.2.2.1
theorem dX12_init_40 : decode cX12_init 40 = .ok (.sipush 240, 3) := dq_dX12_init_30_1.2.2.2.2.2.1
theorem dX12_init_43 : decode cX12_init 43 = .ok (.newarray .int, 2) := dq_dX12_init_30_1.2.2.2.2.2.2.1
theorem dX12_init_45 : decode cX12_init 45 = .ok (.putfield 23, 3) := dq_dX12_init_30_1.2.2.2.2.2.2.2.1
theorem dX12_init_48 : decode cX12_init 48 = .ok (.aload_n 0, 1) := dq_dX12_init_30_1.2.2.2.2.2.2.2.2.1
theorem dX12_init_49 : decode cX12_init 49 = .ok (.sipush 2400, 3) := dq_dX12_init_30_1.2.2.2.2.2.2.2.2.2.1
theorem dX12_init_52 : decode cX12_init 52 = .ok (.newarray .int, 2) := dq_dX12_init_30_1.2.2.2.2.2.2.2.2.2.2.1
theorem dX12_init_54 : decode cX12_init 54 = .ok (.putfield 26, 3) := dq_dX12_init_30_1.2.2.2.2.2.2.2.2.2.2.2.1
theorem dX12_init_57 : decode cX12_init 57 = .ok (.aload_n 0, 1) := dq_dX12_init_30_1.2.2.2.2.2.2.2.2.2.2.2.2.1
theorem dX12_init_58 : decode cX12_init 58 = .ok (.sipush 2400, 3) := dq_dX12_init_30_1.2.2.2.2.2.2.2.2.2.2.2.2.2
theorem dq_dX12_init_61_2 : (decode cX12_init 61 = .ok (.newarray .int, 2)) ∧ (decode cX12_init 63 = .ok (.putfield 29, 3)) ∧ (decode cX12_init 66 = .ok (.aload_n 0, 1)) ∧ (decode cX12_init 67 = .ok (.bipush 12, 2)) ∧ (decode cX12_init 69 = .ok (.newarray .int, 2)) ∧ (decode cX12_init 71 = .ok (.putfield 32, 3)) ∧ (decode cX12_init 74 = .ok (.aload_n 0, 1)) ∧ (decode cX12_init 75 = .ok (.bipush 12, 2)) ∧ (decode cX12_init 77 = .ok (.newarray .int, 2)) ∧ (decode cX12_init 79 = .ok (.putfield 35, 3)) ∧ (decode cX12_init 82 = .ok (.aload_n 0, 1)) ∧ (decode cX12_init 83 = .ok (.bipush 12, 2)) ∧ (decode cX12_init 85 = .ok (.newarray .int, 2)) ∧ (decode cX12_init 87 = .ok (.putfield 38, 3)) := by decide +kernel
theorem dX12_init_61 : decode cX12_init 61 = .ok (.newarray .int, 2) := dq_dX12_init_61_2.1
theorem dX12_init_63 : decode cX12_init 63 = .ok (.putfield 29, 3) := dq_dX12_init_61_2.2.1
theorem dX12_init_66 : decode cX12_init 66 = .ok (.aload_n 0, 1) := dq_dX12_init_61_2.2.2.1
theorem dX12_init_67 : decode cX12_init 67 = .ok (.bipush 12, 2) := dq_dX12_init_61_2.2.2.2.1
theorem dX12_init_69 : decode cX12_init 69 = .ok (.newarray .int, 2) := dq_dX12_init_61_2.2.2.2.2.1
theorem dX12_init_71 : decode cX12_init 71 = .ok (.putfield 32, 3) := dq_dX12_init_61_2.2.2.2.2.2.1
theorem dX12_init_74 : decode cX12_init 74 = .ok (.aload_n 0, 1) := dq_dX12_init_61_2.2.2.2.2.2.2.1
theorem dX12_init_75 : decode cX12_init 75 = .ok (.bipush 12, 2) := dq_dX12_init_61_2.2.2.2.2.2.2.2.1
theorem dX12_init_77 : decode cX12_init 77 = .ok (.newarray .int, 2) := dq_dX12_init_61_2.2.2.2.2.2.2.2.2.1
theorem dX12_init_79 : decode cX12_init 79 = .ok (.putfield 35, 3) := dq_dX12_init_61_2.2.2.2.2.2.2.2.2.2.1
theorem dX12_init_82 : decode cX12_init 82 = .ok (.aload_n 0, 1) := dq_dX12_init_61_2.2.2.2.2.2.2.2.2.2.2.1
theorem dX12_init_83 : decode cX12_init 83 = .ok (.bipush 12, 2) := dq_dX12_init_61_2.2.2.2.2.2.2.2.2.2.2.2.1
theorem dX12_init_85 : decode cX12_init 85 = .ok (.newarray .int, 2) := dq_dX12_init_61_2.2.2.2.2.2.2.2.2.2.2.2.2.1
theorem dX12_init_87 : decode cX12_init 87 = .ok (.putfield 38, 3) := dq_dX12_init_61_2.2.2.2.2.2.2.2.2.2.2.2.2.2
theorem dq_dX12_init_90_3 : (decode cX12_init 90 = .ok (.aload_n 0, 1)) ∧ (decode cX12_init 91 = .ok (.bipush 120, 2)) ∧ (decode cX12_init 93 = .ok (.newarray .int, 2)) ∧ (decode cX12_init 95 = .ok (.putfield 41, 3)) ∧ (decode cX12_init 98 = .ok (.aload_n 0, 1)) ∧ (decode cX12_init 99 = .ok (.bipush 120, 2)) ∧ (decode cX12_init 101 = .ok (.newarray .int, 2)) ∧ (decode cX12_init 103 = .ok (.putfield 44, 3)) ∧ (decode cX12_init 106 = .ok (.aload_n 0, 1)) ∧ (decode cX12_init 107 = .ok (.sipush 160, 3)) ∧ (decode cX12_init 110 = .ok (.newarray .int, 2)) ∧ (decode cX12_init 112 = .ok (.putfield 47, 3)) ∧ (decode cX12_init 115 = .ok (.aload_n 0, 1)) ∧ (decode cX12_init 116 = .ok (.sipush 200, 3)) := by decide +kernel
theorem dX12_init_90 : decode cX12_init 90 = .ok (.aload_n 0, 1) := dq_dX12_init_90_3.1
theorem dX12_init_91 : decode cX12_init 91 = .ok (.bipush 120, 2) := dq_dX12_init_90_3.2.1
theorem dX12_init_93 : decode cX12_init 93 = .ok (.newarray .int, 2) := dq_dX12_init_90_3.2.2.1
theorem dX12_init_95 : decode cX12_init 95 = .ok (.putfield 41, 3) := dq_dX12_init_90_3.2.2.2.1
theorem dX12_init_98 : decode cX12_init 98 = .ok (.aload_n 0, 1) := dq_dX12_init_90_3.2.2.2.2.1
theorem dX12_init_99 : decode cX12_init 99 = .ok (.bipush 120, 2) := dq_dX12_init_90_3.2.2.2.2.2.1
theorem dX12_init_101 : decode cX12_init 101 = .ok (.newarray .int, 2) := dq_dX12_init_90_3.2.2.2.2.2.2.1
theorem dX12_init_103 : decode cX12_init 103 = .ok (.putfield 44, 3) := dq_dX12_init_90_3.2.2.2.2.2.2.2.1
theorem dX12_init_106 : decode cX12_init 106 = .ok (.aload_n 0, 1) := dq_dX12_init_90_3.2.2.2.2.2.2.2.2.1
theorem dX12_init_107 : decode cX12_init 107 = .ok (.sipush 160, 3) := dq_dX12_init_90_3.2.2.2.2.2.2.2.2.2.1
theorem dX12_init_110 : decode cX12_init 110 = .ok (.newarray .int, 2) := dq_dX12_init_90_3.2.2.2.2.2.2.2.2.2.2.1
theorem dX12_init_112 : decode cX12_init 112 = .ok (.putfield 47, 3) := dq_dX12_init_90_3.2.2.2.2.2.2.2.2.2.2.2.1
theorem dX12_init_115 : decode cX12_init 115 = .ok (.aload_n 0, 1) := dq_dX12_init_90_3.2.2.2.2.2.2.2.2.2.2.2.2.1
theorem dX12_init_116 : decode cX12_init 116 = .ok (.sipush 200, 3) := dq_dX12_init_90_3.2.2.2.2.2.2.2.2.2.2.2.2.2
theorem dq_dX12_init_119_4 : (decode cX12_init 119 = .ok (.newarray .int, 2)) ∧ (decode cX12_init 121 = .ok (.putfield 50, 3)) ∧ (decode cX12_init 124 = .ok (.aload_n 0, 1)) ∧ (decode cX12_init 125 = .ok (.sipush 200, 3)) ∧ (decode cX12_init 128 = .ok (.newarray .boolean, 2)) ∧ (decode cX12_init 130 = .ok (.putfield 53, 3)) ∧ (decode cX12_init 133 = .ok (.aload_n 0, 1)) ∧ (decode cX12_init 134 = .ok (.bipush 10, 2)) ∧ (decode cX12_init 136 = .ok (.newarray .boolean, 2)) ∧ (decode cX12_init 138 = .ok (.putfield 57, 3)) ∧ (decode cX12_init 141 = .ok (.aload_n 0, 1)) ∧ (decode cX12_init 142 = .ok (.bipush 10, 2)) ∧ (decode cX12_init 144 = .ok (.newarray .int, 2)) ∧ (decode cX12_init 146 = .ok (.putfield 60, 3)) := by decide +kernel
theorem dX12_init_119 : decode cX12_init 119 = .ok (.newarray .int, 2) := dq_dX12_init_119_4.1
theorem dX12_init_121 : decode cX12_init 121 = .ok (.putfield 50, 3) := dq_dX12_init_119_4.2.1
theorem dX12_init_124 : decode cX12_init 124 = .ok (.aload_n 0, 1) := dq_dX12_init_119_4.2.2.1
theorem dX12_init_125 : decode cX12_init 125 = .ok (.sipush 200, 3) := dq_dX12_init_119_4.2.2.2.1
theorem dX12_init_128 : decode cX12_init 128 = .ok (.newarray .boolean, 2) := dq_dX12_init_119_4.2.2.2.2.1
theorem dX12_init_130 : decode cX12_init 130 = .ok (.putfield 53, 3) := dq_dX12_init_119_4.2.2.2.2.2.1
theorem dX12_init_133 : decode cX12_init 133 = .ok (.aload_n 0, 1) := dq_dX12_init_119_4.2.2.2.2.2.2.1
theorem dX12_init_134 : decode cX12_init 134 = .ok (.bipush 10, 2) := dq_dX12_init_119_4.2.2.2.2.2.2.2.1
theorem dX12_init_136 : decode cX12_init 136 = .ok (.newarray .boolean, 2) := dq_dX12_init_119_4.2.2.2.2.2.2.2.2.1
theorem dX12_init_138 : decode cX12_init 138 = .ok (.putfield 57, 3) := dq_dX12_init_119_4.2.2.2.2.2.2.2.2.2.1
theorem dX12_init_141 : decode cX12_init 141 = .ok (.aload_n 0, 1) := dq_dX12_init_119_4.2.2.2.2.2.2.2.2.2.2.1
theorem dX12_init_142 : decode cX12_init 142 = .ok (.bipush 10, 2) := dq_dX12_init_119_4.2.2.2.2.2.2.2.2.2.2.2.1
theorem dX12_init_144 : decode cX12_init 144 = .ok (.newarray .int, 2) := dq_dX12_init_119_4.2.2.2.2.2.2.2.2.2.2.2.2.1
theorem dX12_init_146 : decode cX12_init 146 = .ok (.putfield 60, 3) := dq_dX12_init_119_4.2.2.2.2.2.2.2.2.2.2.2.2.2
theorem dq_dX12_init_149_5 : (decode cX12_init 149 = .ok (.aload_n 0, 1)) ∧ (decode cX12_init 150 = .ok (.bipush 10, 2)) ∧ (decode cX12_init 152 = .ok (.newarray .int, 2)) ∧ (decode cX12_init 154 = .ok (.putfield 63, 3)) ∧ (decode cX12_init 157 = .ok (.aload_n 0, 1)) ∧ (decode cX12_init 158 = .ok (.bipush 10, 2)) ∧ (decode cX12_init 160 = .ok (.newarray .int, 2)) ∧ (decode cX12_init 162 = .ok (.putfield 66, 3)) ∧ (decode cX12_init 165 = .ok (.aload_n 0, 1)) ∧ (decode cX12_init 166 = .ok (.bipush 10, 2)) ∧ (decode cX12_init 168 = .ok (.newarray .int, 2)) ∧ (decode cX12_init 170 = .ok (.putfield 69, 3)) ∧ (decode cX12_init 173 = .ok (.aload_n 0, 1)) ∧ (decode cX12_init 174 = .ok (.sipush 1440, 3)) := by decide +kernel
theorem dX12_init_149 : decode cX12_init 149 = .ok (.aload_n 0, 1) := dq_dX12_init_149_5.1
theorem dX12_init_150 : decode cX12_init 150 = .ok (.bipush 10, 2) := dq_dX12_init_149_5.2.1
theorem dX12_init_152 : decode cX12_init 152 = .ok (.newarray .int, 2) := dq_dX12_init_149_5.2.2.1
theorem dX12_init_154 : decode cX12_init 154 = .ok (.putfield 63, 3) := dq_dX12_init_149_5.2.2.2.1
theorem dX12_init_157 : decode cX12_init 157 = .ok (.aload_n 0, 1) := dq_dX12_init_149_5.2.2.2.2.1
theorem dX12_init_158 : decode cX12_init 158 = .ok (.bipush 10, 2) := dq_dX12_init_149_5.2.2.2.2.2.1
theorem dX12_init_160 : decode cX12_init 160 = .ok (.newarray .int, 2) := dq_dX12_init_149_5.2.2.2.2.2.2.1
theorem dX12_init_162 : decode cX12_init 162 = .ok (.putfield 66, 3) := dq_dX12_init_149_5.2.2.2.2.2.2.2.1
theorem dX12_init_165 : decode cX12_init 165 = .ok (.aload_n 0, 1) := dq_dX12_init_149_5.2.2.2.2.2.2.2.2.1
theorem dX12_init_166 : decode cX12_init 166 = .ok (.bipush 10, 2) := dq_dX12_init_149_5.2.2.2.2.2.2.2.2.2.1
theorem dX12_init_168 : decode cX12_init 168 = .ok (.newarray .int, 2) := dq_dX12_init_149_5.2.2.2.2.2.2.2.2.2.2.1
theorem dX12_init_170 : decode cX12_init 170 = .ok (.putfield 69, 3) := dq_dX12_init_149_5.2.2.2.2.2.2.2.2.2.2.2.1
theorem dX12_init_173 : decode cX12_init 173 = .ok (.aload_n 0, 1) := dq_dX12_init_149_5.2.2.2.2.2.2.2.2.2.2.2.2.1
theorem dX12_init_174 : decode cX12_init 174 = .ok (.sipush 1440, 3) := dq_dX12_init_149_5.2.2.2.2.2.2.2.2.2.2.2.2.2
theorem dq_dX12_init_177_6 : (decode cX12_init 177 = .ok (.newarray .int, 2)) ∧ (decode cX12_init 179 = .ok (.putfield 72, 3)) ∧ (decode cX12_init 182 = .ok (.aload_n 0, 1)) ∧ (decode cX12_init 183 = .ok (.sipush 1440, 3)) ∧ (decode cX12_init 186 = .ok (.newarray .int, 2)) ∧ (decode cX12_init 188 = .ok (.putfield 75, 3)) ∧ (decode cX12_init 191 = .ok (.aload_n 0, 1)) ∧ (decode cX12_init 192 = .ok (.sipush 1440, 3)) ∧ (decode cX12_init 195 = .ok (.newarray .int, 2)) ∧ (decode cX12_init 197 = .ok (.putfield 78, 3)) ∧ (decode cX12_init 200 = .ok (.aload_n 0, 1)) ∧ (decode cX12_init 201 = .ok (.sipush 1440, 3)) ∧ (decode cX12_init 204 = .ok (.newarray .int, 2)) ∧ (decode cX12_init 206 = .ok (.putfield 81, 3)) := by decide +kernel
theorem dX12_init_177 : decode cX12_init 177 = .ok (.newarray .int, 2) := dq_dX12_init_177_6.1
theorem dX12_init_179 : decode cX12_init 179 = .ok (.putfield 72, 3) := dq_dX12_init_177_6.2.1
theorem dX12_init_182 : decode cX12_init 182 = .ok (.aload_n 0, 1) := dq_dX12_init_177_6.2.2.1
theorem dX12_init_183 : decode cX12_init 183 = .ok (.sipush 1440, 3) := dq_dX12_init_177_6.2.2.2.1
theorem dX12_init_186 : decode cX12_init 186 = .ok (.newarray .int, 2) := dq_dX12_init_177_6.2.2.2.2.1
theorem dX12_init_188 : decode cX12_init 188 = .ok (.putfield 75, 3) := dq_dX12_init_177_6.2.2.2.2.2.1
theorem dX12_init_191 : decode cX12_init 191 = .ok (.aload_n 0, 1) := dq_dX12_init_177_6.2.2.2.2.2.2.1
theorem dX12_init_192 : decode cX12_init 192 = .ok (.sipush 1440, 3) := dq_dX12_init_177_6.2.2.2.2.2.2.2.1
theorem dX12_init_195 : decode cX12_init 195 = .ok (.newarray .int, 2) := dq_dX12_init_177_6.2.2.2.2.2.2.2.2.1
theorem dX12_init_197 : decode cX12_init 197 = .ok (.putfield 78, 3) := dq_dX12_init_177_6.2.2.2.2.2.2.2.2.2.1
theorem dX12_init_200 : decode cX12_init 200 = .ok (.aload_n 0, 1) := dq_dX12_init_177_6.2.2.2.2.2.2.2.2.2.2.1
theorem dX12_init_201 : decode cX12_init 201 = .ok (.sipush 1440, 3) := dq_dX12_init_177_6.2.2.2.2.2.2.2.2.2.2.2.1
theorem dX12_init_204 : decode cX12_init 204 = .ok (.newarray .int, 2) := dq_dX12_init_177_6.2.2.2.2.2.2.2.2.2.2.2.2.1
theorem dX12_init_206 : decode cX12_init 206 = .ok (.putfield 81, 3) := dq_dX12_init_177_6.2.2.2.2.2.2.2.2.2.2.2.2.2
theorem dq_dX12_init_209_7 : (decode cX12_init 209 = .ok (.aload_n 0, 1)) ∧ (decode cX12_init 210 = .ok (.sipush 1440, 3)) ∧ (decode cX12_init 213 = .ok (.newarray .int, 2)) ∧ (decode cX12_init 215 = .ok (.putfield 84, 3)) ∧ (decode cX12_init 218 = .ok (.aload_n 0, 1)) ∧ (decode cX12_init 219 = .ok (.iconst 2, 1)) ∧ (decode cX12_init 220 = .ok (.newarray .int, 2)) ∧ (decode cX12_init 222 = .ok (.putfield 87, 3)) ∧ (decode cX12_init 225 = .ok (.aload_n 0, 1)) ∧ (decode cX12_init 226 = .ok (.bipush 40, 2)) ∧ (decode cX12_init 228 = .ok (.newarray .int, 2)) ∧ (decode cX12_init 230 = .ok (.putfield 90, 3)) ∧ (decode cX12_init 233 = .ok (.aload_n 0, 1)) ∧ (decode cX12_init 234 = .ok (.bipush 40, 2)) := by decide +kernel
theorem dX12_init_209 : decode cX12_init 209 = .ok (.aload_n 0, 1) := dq_dX12_init_209_7.1
theorem dX12_init_210 : decode cX12_init 210 = .ok (.sipush 1440, 3) := dq_dX12_init_209_7.2.1
theorem dX12_init_213 : decode cX12_init 213 = .ok (.newarray .int, 2) := dq_dX12_init_209_7.2.2.1
theorem dX12_init_215 : decode cX12_init 215 = .ok (.putfield 84, 3) := dq_dX12_init_209_7.2.2.2.1
theorem dX12_init_218 : decode cX12_init 218 = .ok (.aload_n 0, 1) := dq_dX12_init_209_7.2.2.2.2.1
theorem dX12_init_219 : decode cX12_init 219 = .ok (.iconst 2, 1) := dq_dX12_init_209_7.2.2.2.2.2.1
theorem dX12_init_220 : decode cX12_init 220 = .ok (.newarray .int, 2) := dq_dX12_init_209_7.2.2.2.2.2.2.1
theorem dX12_init_222 : decode cX12_init 222 = .ok (.putfield 87, 3) := dq_dX12_init_209_7.2.2.2.2.2.2.2.1
theorem dX12_init_225 : decode cX12_init 225 = .ok (.aload_n 0, 1) := dq_dX12_init_209_7.2.2.2.2.2.2.2.2.1
theorem dX12_init_226 : decode cX12_init 226 = .ok (.bipush 40, 2) := dq_dX12_init_209_7.2.2.2.2.2.2.2.2.2.1
theorem dX12_init_228 : decode cX12_init 228 = .ok (.newarray .int, 2) := dq_dX12_init_209_7.2.2.2.2.2.2.2.2.2.2.1
theorem dX12_init_230 : decode cX12_init 230 = .ok (.putfield 90, 3) := dq_dX12_init_209_7.2.2.2.2.2.2.2.2.2.2.2.1
theorem dX12_init_233 : decode cX12_init 233 = .ok (.aload_n 0, 1) := dq_dX12_init_209_7.2.2.2.2.2.2.2.2.2.2.2.2.1
theorem dX12_init_234 : decode cX12_init 234 = .ok (.bipush 40, 2) := dq_dX12_init_209_7.2.2.2.2.2.2.2.2.2.2.2.2.2
theorem dq_dX12_init_236_8 : (decode cX12_init 236 = .ok (.newarray .int, 2)) ∧ (decode cX12_init 238 = .ok (.putfield 93, 3)) ∧ (decode cX12_init 241 = .ok (.aload_n 0, 1)) ∧ (decode cX12_init 242 = .ok (.bipush 40, 2)) ∧ (decode cX12_init 244 = .ok (.newarray .int, 2)) ∧ (decode cX12_init 246 = .ok (.putfield 96, 3)) ∧ (decode cX12_init 249 = .ok (.aload_n 0, 1)) ∧ (decode cX12_init 250 = .ok (.bipush 40, 2)) ∧ (decode cX12_init 252 = .ok (.newarray .int, 2)) ∧ (decode cX12_init 254 = .ok (.putfield 99, 3)) ∧ (decode cX12_init 257 = .ok (.aload_n 0, 1)) ∧ (decode cX12_init 258 = .ok (.bipush 30, 2)) ∧ (decode cX12_init 260 = .ok (.newarray .int, 2)) ∧ (decode cX12_init 262 = .ok (.putfield 102, 3)) := by decide +kernel
theorem dX12_init_236 : decode cX12_init 236 = .ok (.newarray .int, 2) := dq_dX12_init_236_8.1
theorem dX12_init_238 : decode cX12_init 238 = .ok (.putfield 93, 3) := dq_dX12_init_236_8.2.1
theorem dX12_init_241 : decode cX12_init 241 = .ok (.aload_n 0, 1) := dq_dX12_init_236_8.2.2.1
theorem dX12_init_242 : decode cX12_init 242 = .ok (.bipush 40, 2) := dq_dX12_init_236_8.2.2.2.1
theorem dX12_init_244 : decode cX12_init 244 = .ok (.newarray .int, 2) := dq_dX12_init_236_8.2.2.2.2.1
theorem dX12_init_246 : decode cX12_init 246 = .ok (.putfield 96, 3) := dq_dX12_init_236_8.2.2.2.2.2.1
theorem dX12_init_249 : decode cX12_init 249 = .ok (.aload_n 0, 1) := dq_dX12_init_236_8.2.2.2.2.2.2.1
theorem dX12_init_250 : decode cX12_init 250 = .ok (.bipush 40, 2) := dq_dX12_init_236_8.2.2.2.2.2.2.2.1
theorem dX12_init_252 : decode cX12_init 252 = .ok (.newarray .int, 2) := dq_dX12_init_236_8.2.2.2.2.2.2.2.2.1
theorem dX12_init_254 : decode cX12_init 254 = .ok (.putfield 99, 3) := dq_dX12_init_236_8.2.2.2.2.2.2.2.2.2.1
theorem dX12_init_257 : decode cX12_init 257 = .ok (.aload_n 0, 1) := dq_dX12_init_236_8.2.2.2.2.2.2.2.2.2.2.1
theorem dX12_init_258 : decode cX12_init 258 = .ok (.bipush 30, 2) := dq_dX12_init_236_8.2.2.2.2.2.2.2.2.2.2.2.1
theorem dX12_init_260 : decode cX12_init 260 = .ok (.newarray .int, 2) := dq_dX12_init_236_8.2.2.2.2.2.2.2.2.2.2.2.2.1
theorem dX12_init_262 : decode cX12_init 262 = .ok (.putfield 102, 3) := dq_dX12_init_236_8.2.2.2.2.2.2.2.2.2.2.2.2.2
theorem dq_dX12_init_265_9 : (decode cX12_init 265 = .ok (.aload_n 0, 1)) ∧ (decode cX12_init 266 = .ok (.bipush 30, 2)) ∧ (decode cX12_init 268 = .ok (.newarray .int, 2)) ∧ (decode cX12_init 270 = .ok (.putfield 105, 3)) ∧ (decode cX12_init 273 = .ok (.aload_n 0, 1)) ∧ (decode cX12_init 274 = .ok (.bipush 40, 2)) ∧ (decode cX12_init 276 = .ok (.newarray .int, 2)) ∧ (decode cX12_init 278 = .ok (.putfield 108, 3)) ∧ (decode cX12_init 281 = .ok (.aload_n 0, 1)) ∧ (decode cX12_init 282 = .ok (.sipush 371, 3)) ∧ (decode cX12_init 285 = .ok (.newarray .int, 2)) ∧ (decode cX12_init 287 = .ok (.putfield 111, 3)) ∧ (decode cX12_init 290 = .ok (.return_, 1)) := by decide +kernel
theorem dX12_init_265 : decode cX12_init 265 = .ok (.aload_n 0, 1) := dq_dX12_init_265_9.1
theorem dX12_init_266 : decode cX12_init 266 = .ok (.bipush 30, 2) := dq_dX12_init_265_9.2.1
theorem dX12_init_268 : decode cX12_init 268 = .ok (.newarray .int, 2) := dq_dX12_init_265_9.2.2.1
theorem dX12_init_270 : decode cX12_init 270 = .ok (.putfield 105, 3) := dq_dX12_init_265_9.2.2.2.1
theorem dX12_init_273 : decode cX12_init 273 = .ok (.aload_n 0, 1) := dq_dX12_init_265_9.2.2.2.2.1
theorem dX12_init_274 : decode cX12_init 274 = .ok (.bipush 40, 2) := dq_dX12_init_265_9.2.2.2.2.2.1
theorem dX12_init_276 : decode cX12_init 276 = .ok (.newarray .int, 2) := dq_dX12_init_265_9.2.2.2.2.2.2.1
theorem dX12_init_278 : decode cX12_init 278 = .ok (.putfield 108, 3) := dq_dX12_init_265_9.2.2.2.2.2.2.2.1
theorem dX12_init_281 : decode cX12_init 281 = .ok (.aload_n 0, 1) := dq_dX12_init_265_9.2.2.2.2.2.2.2.2.1
theorem dX12_init_282 : decode cX12_init 282 = .ok (.sipush 371, 3) := dq_dX12_init_265_9.2.2.2.2.2.2.2.2.2.1
theorem dX12_init_285 : decode cX12_init 285 = .ok (.newarray .int, 2) := dq_dX12_init_265_9.2.2.2.2.2.2.2.2.2.2.1
theorem dX12_init_287 : decode cX12_init 287 = .ok (.putfield 111, 3) := dq_dX12_init_265_9.2.2.2.2.2.2.2.2.2.2.2.1
theorem dX12_init_290 : decode cX12_init 290 = .ok (.return_, 1) := dq_dX12_init_265_9.2.2.2.2.2.2.2.2.2.2.2.2
