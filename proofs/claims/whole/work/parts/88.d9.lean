/-! law: decode rows -/
theorem dLW_law_1208 : decode cLW_law 1208 = .ok (.iconst 1, 1) := by decide +kernel
theorem dLW_law_1209 : decode cLW_law 1209 = .ok (.iadd, 1) := by decide +kernel
theorem dLW_law_1210 : decode cLW_law 1210 = .ok (.iaload, 1) := by decide +kernel
theorem dLW_law_1211 : decode cLW_law 1211 = .ok (.aload_n 0, 1) := by decide +kernel
theorem dLW_law_1212 : decode cLW_law 1212 = .ok (.iload 4, 2) := by decide +kernel
theorem dLW_law_1214 : decode cLW_law 1214 = .ok (.iconst 2, 1) := by decide +kernel
theorem dLW_law_1215 : decode cLW_law 1215 = .ok (.iadd, 1) := by decide +kernel
theorem dLW_law_1216 : decode cLW_law 1216 = .ok (.iaload, 1) := by decide +kernel
theorem dLW_law_1217 : decode cLW_law 1217 = .ok (.i2l, 1) := by decide +kernel
theorem dLW_law_1218 : decode cLW_law 1218 = .ok (.bipush 32, 2) := by decide +kernel
theorem dLW_law_1220 : decode cLW_law 1220 = .ok (.lshl, 1) := by decide +kernel
theorem dLW_law_1221 : decode cLW_law 1221 = .ok (.aload_n 0, 1) := by decide +kernel
theorem dLW_law_1222 : decode cLW_law 1222 = .ok (.iload 4, 2) := by decide +kernel
theorem dLW_law_1224 : decode cLW_law 1224 = .ok (.iconst 3, 1) := by decide +kernel
theorem dLW_law_1225 : decode cLW_law 1225 = .ok (.iadd, 1) := by decide +kernel
theorem dLW_law_1226 : decode cLW_law 1226 = .ok (.iaload, 1) := by decide +kernel
theorem dLW_law_1227 : decode cLW_law 1227 = .ok (.i2l, 1) := by decide +kernel
theorem dLW_law_1228 : decode cLW_law 1228 = .ok (.ldc2_w 68, 3) := by decide +kernel
theorem dLW_law_1231 : decode cLW_law 1231 = .ok (.land, 1) := by decide +kernel
theorem dLW_law_1232 : decode cLW_law 1232 = .ok (.lor, 1) := by decide +kernel
theorem dLW_law_1233 : decode cLW_law 1233 = .ok (.aload_n 0, 1) := by decide +kernel
theorem dLW_law_1234 : decode cLW_law 1234 = .ok (.iload 4, 2) := by decide +kernel
theorem dLW_law_1236 : decode cLW_law 1236 = .ok (.iconst 4, 1) := by decide +kernel
theorem dLW_law_1237 : decode cLW_law 1237 = .ok (.iadd, 1) := by decide +kernel
theorem dLW_law_1238 : decode cLW_law 1238 = .ok (.iaload, 1) := by decide +kernel
theorem dLW_law_1239 : decode cLW_law 1239 = .ok (.i2l, 1) := by decide +kernel
theorem dLW_law_1240 : decode cLW_law 1240 = .ok (.bipush 32, 2) := by decide +kernel
theorem dLW_law_1242 : decode cLW_law 1242 = .ok (.lshl, 1) := by decide +kernel
theorem dLW_law_1243 : decode cLW_law 1243 = .ok (.aload_n 0, 1) := by decide +kernel
theorem dLW_law_1244 : decode cLW_law 1244 = .ok (.iload 4, 2) := by decide +kernel
theorem dLW_law_1246 : decode cLW_law 1246 = .ok (.iconst 5, 1) := by decide +kernel
theorem dLW_law_1247 : decode cLW_law 1247 = .ok (.iadd, 1) := by decide +kernel
theorem dLW_law_1248 : decode cLW_law 1248 = .ok (.iaload, 1) := by decide +kernel
theorem dLW_law_1249 : decode cLW_law 1249 = .ok (.i2l, 1) := by decide +kernel
theorem dLW_law_1250 : decode cLW_law 1250 = .ok (.ldc2_w 68, 3) := by decide +kernel
theorem dLW_law_1253 : decode cLW_law 1253 = .ok (.land, 1) := by decide +kernel
theorem dLW_law_1254 : decode cLW_law 1254 = .ok (.lor, 1) := by decide +kernel
theorem dLW_law_1255 : decode cLW_law 1255 = .ok (.aload_n 0, 1) := by decide +kernel
theorem dLW_law_1256 : decode cLW_law 1256 = .ok (.iload 4, 2) := by decide +kernel
theorem dLW_law_1258 : decode cLW_law 1258 = .ok (.bipush 6, 2) := by decide +kernel
theorem dLW_law_1260 : decode cLW_law 1260 = .ok (.iadd, 1) := by decide +kernel
theorem dLW_law_1261 : decode cLW_law 1261 = .ok (.iaload, 1) := by decide +kernel
theorem dLW_law_1262 : decode cLW_law 1262 = .ok (.ifCond .eq 7, 3) := by decide +kernel
theorem dLW_law_1265 : decode cLW_law 1265 = .ok (.iconst 1, 1) := by decide +kernel
theorem dLW_law_1266 : decode cLW_law 1266 = .ok (.goto 4, 3) := by decide +kernel
theorem dLW_law_1269 : decode cLW_law 1269 = .ok (.iconst 0, 1) := by decide +kernel
theorem dLW_law_1270 : decode cLW_law 1270 = .ok (.invokevirtual 127, 3) := by decide +kernel
theorem dLW_law_1273 : decode cLW_law 1273 = .ok (.lstore 6, 2) := by decide +kernel
theorem dLW_law_1275 : decode cLW_law 1275 = .ok (.aload_n 2, 1) := by decide +kernel
theorem dLW_law_1276 : decode cLW_law 1276 = .ok (.invokevirtual 76, 3) := by decide +kernel
theorem dLW_law_1279 : decode cLW_law 1279 = .ok (.iload 5, 2) := by decide +kernel
theorem dLW_law_1281 : decode cLW_law 1281 = .ok (.if_icmp .eq 5, 3) := by decide +kernel
theorem dLW_law_1284 : decode cLW_law 1284 = .ok (.iconst 0, 1) := by decide +kernel
theorem dLW_law_1285 : decode cLW_law 1285 = .ok (.ireturn, 1) := by decide +kernel
theorem dLW_law_1286 : decode cLW_law 1286 = .ok (.iload 5, 2) := by decide +kernel
theorem dLW_law_1288 : decode cLW_law 1288 = .ok (.ifCond .ne 14, 3) := by decide +kernel
theorem dLW_law_1291 : decode cLW_law 1291 = .ok (.aload_n 3, 1) := by decide +kernel
theorem dLW_law_1292 : decode cLW_law 1292 = .ok (.iconst 0, 1) := by decide +kernel
theorem dLW_law_1293 : decode cLW_law 1293 = .ok (.laload, 1) := by decide +kernel
theorem dLW_law_1294 : decode cLW_law 1294 = .ok (.lload 6, 2) := by decide +kernel
theorem dLW_law_1296 : decode cLW_law 1296 = .ok (.lcmp, 1) := by decide +kernel
theorem dLW_law_1297 : decode cLW_law 1297 = .ok (.ifCond .eq 5, 3) := by decide +kernel
theorem dLW_law_1300 : decode cLW_law 1300 = .ok (.iconst 0, 1) := by decide +kernel
theorem dLW_law_1301 : decode cLW_law 1301 = .ok (.ireturn, 1) := by decide +kernel
theorem dLW_law_1302 : decode cLW_law 1302 = .ok (.goto 40, 3) := by decide +kernel
theorem dLW_law_1305 : decode cLW_law 1305 = .ok (.aload_n 1, 1) := by decide +kernel
theorem dLW_law_1306 : decode cLW_law 1306 = .ok (.aload_n 0, 1) := by decide +kernel
theorem dLW_law_1307 : decode cLW_law 1307 = .ok (.iload 4, 2) := by decide +kernel
theorem dLW_law_1309 : decode cLW_law 1309 = .ok (.iconst 1, 1) := by decide +kernel
theorem dLW_law_1310 : decode cLW_law 1310 = .ok (.iadd, 1) := by decide +kernel
theorem dLW_law_1311 : decode cLW_law 1311 = .ok (.iaload, 1) := by decide +kernel
theorem dLW_law_1312 : decode cLW_law 1312 = .ok (.aload_n 0, 1) := by decide +kernel
theorem dLW_law_1313 : decode cLW_law 1313 = .ok (.iload 4, 2) := by decide +kernel
theorem dLW_law_1315 : decode cLW_law 1315 = .ok (.iconst 2, 1) := by decide +kernel
theorem dLW_law_1316 : decode cLW_law 1316 = .ok (.iadd, 1) := by decide +kernel
theorem dLW_law_1317 : decode cLW_law 1317 = .ok (.iaload, 1) := by decide +kernel
theorem dLW_law_1318 : decode cLW_law 1318 = .ok (.invokevirtual 128, 3) := by decide +kernel
theorem dLW_law_1321 : decode cLW_law 1321 = .ok (.aload_n 2, 1) := by decide +kernel
theorem dLW_law_1322 : decode cLW_law 1322 = .ok (.aload_n 0, 1) := by decide +kernel
theorem dLW_law_1323 : decode cLW_law 1323 = .ok (.iload 4, 2) := by decide +kernel
theorem dLW_law_1325 : decode cLW_law 1325 = .ok (.iconst 1, 1) := by decide +kernel
theorem dLW_law_1326 : decode cLW_law 1326 = .ok (.iadd, 1) := by decide +kernel
theorem dLW_law_1327 : decode cLW_law 1327 = .ok (.iaload, 1) := by decide +kernel
theorem dLW_law_1328 : decode cLW_law 1328 = .ok (.aload_n 0, 1) := by decide +kernel
theorem dLW_law_1329 : decode cLW_law 1329 = .ok (.iload 4, 2) := by decide +kernel
theorem dLW_law_1331 : decode cLW_law 1331 = .ok (.iconst 2, 1) := by decide +kernel
theorem dLW_law_1332 : decode cLW_law 1332 = .ok (.iadd, 1) := by decide +kernel
theorem dLW_law_1333 : decode cLW_law 1333 = .ok (.iaload, 1) := by decide +kernel
theorem dLW_law_1334 : decode cLW_law 1334 = .ok (.invokevirtual 131, 3) := by decide +kernel
theorem dLW_law_1337 : decode cLW_law 1337 = .ok (.if_icmp .eq 5, 3) := by decide +kernel
theorem dLW_law_1340 : decode cLW_law 1340 = .ok (.iconst 0, 1) := by decide +kernel
theorem dLW_law_1341 : decode cLW_law 1341 = .ok (.ireturn, 1) := by decide +kernel
theorem dLW_law_1342 : decode cLW_law 1342 = .ok (.iinc 4 12, 3) := by decide +kernel
theorem dLW_law_1345 : decode cLW_law 1345 = .ok (.goto (-1322), 3) := by decide +kernel
theorem dLW_law_1348 : decode cLW_law 1348 = .ok (.iconst 1, 1) := by decide +kernel
theorem dLW_law_1349 : decode cLW_law 1349 = .ok (.ireturn, 1) := by decide +kernel
