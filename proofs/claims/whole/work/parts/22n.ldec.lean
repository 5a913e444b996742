/-! the law: decode rows -/
theorem dL_law_1263 : decode code 1263 = .ok (.iadd, 1) := by decide +kernel
theorem dL_law_1264 : decode code 1264 = .ok (.iaload, 1) := by decide +kernel
theorem dL_law_1265 : decode code 1265 = .ok (.aload_n 0, 1) := by decide +kernel
theorem dL_law_1266 : decode code 1266 = .ok (.iload 4, 2) := by decide +kernel
theorem dL_law_1268 : decode code 1268 = .ok (.iconst 2, 1) := by decide +kernel
theorem dL_law_1269 : decode code 1269 = .ok (.iadd, 1) := by decide +kernel
theorem dL_law_1270 : decode code 1270 = .ok (.iaload, 1) := by decide +kernel
theorem dL_law_1271 : decode code 1271 = .ok (.aload_n 0, 1) := by decide +kernel
theorem dL_law_1272 : decode code 1272 = .ok (.iload 4, 2) := by decide +kernel
theorem dL_law_1274 : decode code 1274 = .ok (.iconst 3, 1) := by decide +kernel
theorem dL_law_1275 : decode code 1275 = .ok (.iadd, 1) := by decide +kernel
theorem dL_law_1276 : decode code 1276 = .ok (.iaload, 1) := by decide +kernel
theorem dL_law_1277 : decode code 1277 = .ok (.invokevirtual 157, 3) := by decide +kernel
theorem dL_law_1280 : decode code 1280 = .ok (.if_icmp .eq 244, 3) := by decide +kernel
theorem dL_law_1283 : decode code 1283 = .ok (.iconst 0, 1) := by decide +kernel
theorem dL_law_1284 : decode code 1284 = .ok (.ireturn, 1) := by decide +kernel
theorem dL_law_1285 : decode code 1285 = .ok (.aload_n 1, 1) := by decide +kernel
theorem dL_law_1286 : decode code 1286 = .ok (.aload_n 0, 1) := by decide +kernel
theorem dL_law_1287 : decode code 1287 = .ok (.iload 4, 2) := by decide +kernel
theorem dL_law_1289 : decode code 1289 = .ok (.iconst 1, 1) := by decide +kernel
theorem dL_law_1290 : decode code 1290 = .ok (.iadd, 1) := by decide +kernel
theorem dL_law_1291 : decode code 1291 = .ok (.iaload, 1) := by decide +kernel
theorem dL_law_1292 : decode code 1292 = .ok (.aload_n 0, 1) := by decide +kernel
theorem dL_law_1293 : decode code 1293 = .ok (.iload 4, 2) := by decide +kernel
theorem dL_law_1295 : decode code 1295 = .ok (.iconst 2, 1) := by decide +kernel
theorem dL_law_1296 : decode code 1296 = .ok (.iadd, 1) := by decide +kernel
theorem dL_law_1297 : decode code 1297 = .ok (.iaload, 1) := by decide +kernel
theorem dL_law_1298 : decode code 1298 = .ok (.aload_n 0, 1) := by decide +kernel
theorem dL_law_1299 : decode code 1299 = .ok (.iload 4, 2) := by decide +kernel
theorem dL_law_1301 : decode code 1301 = .ok (.iconst 3, 1) := by decide +kernel
theorem dL_law_1302 : decode code 1302 = .ok (.iadd, 1) := by decide +kernel
theorem dL_law_1303 : decode code 1303 = .ok (.iaload, 1) := by decide +kernel
theorem dL_law_1304 : decode code 1304 = .ok (.invokevirtual 158, 3) := by decide +kernel
theorem dL_law_1307 : decode code 1307 = .ok (.aload_n 2, 1) := by decide +kernel
theorem dL_law_1308 : decode code 1308 = .ok (.aload_n 0, 1) := by decide +kernel
theorem dL_law_1309 : decode code 1309 = .ok (.iload 4, 2) := by decide +kernel
theorem dL_law_1311 : decode code 1311 = .ok (.iconst 1, 1) := by decide +kernel
theorem dL_law_1312 : decode code 1312 = .ok (.iadd, 1) := by decide +kernel
theorem dL_law_1313 : decode code 1313 = .ok (.iaload, 1) := by decide +kernel
theorem dL_law_1314 : decode code 1314 = .ok (.aload_n 0, 1) := by decide +kernel
theorem dL_law_1315 : decode code 1315 = .ok (.iload 4, 2) := by decide +kernel
theorem dL_law_1317 : decode code 1317 = .ok (.iconst 2, 1) := by decide +kernel
theorem dL_law_1318 : decode code 1318 = .ok (.iadd, 1) := by decide +kernel
theorem dL_law_1319 : decode code 1319 = .ok (.iaload, 1) := by decide +kernel
theorem dL_law_1320 : decode code 1320 = .ok (.aload_n 0, 1) := by decide +kernel
theorem dL_law_1321 : decode code 1321 = .ok (.iload 4, 2) := by decide +kernel
theorem dL_law_1323 : decode code 1323 = .ok (.iconst 3, 1) := by decide +kernel
theorem dL_law_1324 : decode code 1324 = .ok (.iadd, 1) := by decide +kernel
theorem dL_law_1325 : decode code 1325 = .ok (.iaload, 1) := by decide +kernel
theorem dL_law_1326 : decode code 1326 = .ok (.invokevirtual 161, 3) := by decide +kernel
theorem dL_law_1329 : decode code 1329 = .ok (.if_icmp .eq 195, 3) := by decide +kernel
theorem dL_law_1332 : decode code 1332 = .ok (.iconst 0, 1) := by decide +kernel
theorem dL_law_1333 : decode code 1333 = .ok (.ireturn, 1) := by decide +kernel
theorem dL_law_1334 : decode code 1334 = .ok (.aload_n 1, 1) := by decide +kernel
theorem dL_law_1335 : decode code 1335 = .ok (.aload_n 0, 1) := by decide +kernel
theorem dL_law_1336 : decode code 1336 = .ok (.iload 4, 2) := by decide +kernel
theorem dL_law_1338 : decode code 1338 = .ok (.iconst 1, 1) := by decide +kernel
theorem dL_law_1339 : decode code 1339 = .ok (.iadd, 1) := by decide +kernel
theorem dL_law_1340 : decode code 1340 = .ok (.iaload, 1) := by decide +kernel
theorem dL_law_1341 : decode code 1341 = .ok (.aload_n 0, 1) := by decide +kernel
