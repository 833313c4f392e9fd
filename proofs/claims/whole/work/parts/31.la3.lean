theorem d_La_law_1157 : decode k_La_law.code 1157 = .ok (.iconst 0, 1) := by decide +kernel
theorem d_La_law_1158 : decode k_La_law.code 1158 = .ok (.ireturn, 1) := by decide +kernel
theorem d_La_law_1159 : decode k_La_law.code 1159 = .ok (.iload 5, 2) := by decide +kernel
theorem d_La_law_1161 : decode k_La_law.code 1161 = .ok (.ifCond .ne 14, 3) := by decide +kernel
theorem d_La_law_1164 : decode k_La_law.code 1164 = .ok (.aload_n 3, 1) := by decide +kernel
theorem d_La_law_1165 : decode k_La_law.code 1165 = .ok (.iconst 0, 1) := by decide +kernel
theorem d_La_law_1166 : decode k_La_law.code 1166 = .ok (.laload, 1) := by decide +kernel
theorem d_La_law_1167 : decode k_La_law.code 1167 = .ok (.lload 6, 2) := by decide +kernel
theorem d_La_law_1169 : decode k_La_law.code 1169 = .ok (.lcmp, 1) := by decide +kernel
theorem d_La_law_1170 : decode k_La_law.code 1170 = .ok (.ifCond .eq 5, 3) := by decide +kernel
theorem d_La_law_1173 : decode k_La_law.code 1173 = .ok (.iconst 0, 1) := by decide +kernel
theorem d_La_law_1174 : decode k_La_law.code 1174 = .ok (.ireturn, 1) := by decide +kernel
theorem d_La_law_1175 : decode k_La_law.code 1175 = .ok (.goto 263, 3) := by decide +kernel
theorem d_La_law_1178 : decode k_La_law.code 1178 = .ok (.aload_n 1, 1) := by decide +kernel
theorem d_La_law_1179 : decode k_La_law.code 1179 = .ok (.aload_n 0, 1) := by decide +kernel
theorem d_La_law_1180 : decode k_La_law.code 1180 = .ok (.iload 4, 2) := by decide +kernel
theorem d_La_law_1182 : decode k_La_law.code 1182 = .ok (.iconst 1, 1) := by decide +kernel
theorem d_La_law_1183 : decode k_La_law.code 1183 = .ok (.iadd, 1) := by decide +kernel
theorem d_La_law_1184 : decode k_La_law.code 1184 = .ok (.iaload, 1) := by decide +kernel
theorem d_La_law_1185 : decode k_La_law.code 1185 = .ok (.aload_n 0, 1) := by decide +kernel
theorem d_La_law_1186 : decode k_La_law.code 1186 = .ok (.iload 4, 2) := by decide +kernel
theorem d_La_law_1188 : decode k_La_law.code 1188 = .ok (.iconst 2, 1) := by decide +kernel
theorem d_La_law_1189 : decode k_La_law.code 1189 = .ok (.iadd, 1) := by decide +kernel
theorem d_La_law_1190 : decode k_La_law.code 1190 = .ok (.iaload, 1) := by decide +kernel
theorem d_La_law_1191 : decode k_La_law.code 1191 = .ok (.aload_n 0, 1) := by decide +kernel
theorem d_La_law_1192 : decode k_La_law.code 1192 = .ok (.iload 4, 2) := by decide +kernel
theorem d_La_law_1194 : decode k_La_law.code 1194 = .ok (.iconst 3, 1) := by decide +kernel
theorem d_La_law_1195 : decode k_La_law.code 1195 = .ok (.iadd, 1) := by decide +kernel
theorem d_La_law_1196 : decode k_La_law.code 1196 = .ok (.iaload, 1) := by decide +kernel
theorem d_La_law_1197 : decode k_La_law.code 1197 = .ok (.aload_n 3, 1) := by decide +kernel
theorem s_La_law_1198 : SiteS k_La_law k_La_heights 1198 5 := ⟨145, by decide +kernel, ⟨kw_La_heights, tx1 0 rfl rfl, by decide, by decide⟩, Or.inl (tx3 177 rfl rfl), tx3 178 rfl rfl, ⟨by decide +kernel, by decide +kernel⟩, np_La_heights⟩
theorem d_La_law_1201 : decode k_La_law.code 1201 = .ok (.istore 5, 2) := by decide +kernel
theorem d_La_law_1203 : decode k_La_law.code 1203 = .ok (.aload_n 2, 1) := by decide +kernel
theorem d_La_law_1204 : decode k_La_law.code 1204 = .ok (.aload_n 0, 1) := by decide +kernel
theorem d_La_law_1205 : decode k_La_law.code 1205 = .ok (.iload 4, 2) := by decide +kernel
theorem d_La_law_1207 : decode k_La_law.code 1207 = .ok (.iconst 1, 1) := by decide +kernel
theorem d_La_law_1208 : decode k_La_law.code 1208 = .ok (.iadd, 1) := by decide +kernel
theorem d_La_law_1209 : decode k_La_law.code 1209 = .ok (.iaload, 1) := by decide +kernel
theorem d_La_law_1210 : decode k_La_law.code 1210 = .ok (.aload_n 0, 1) := by decide +kernel
theorem d_La_law_1211 : decode k_La_law.code 1211 = .ok (.iload 4, 2) := by decide +kernel
theorem d_La_law_1213 : decode k_La_law.code 1213 = .ok (.iconst 2, 1) := by decide +kernel
theorem d_La_law_1214 : decode k_La_law.code 1214 = .ok (.iadd, 1) := by decide +kernel
theorem d_La_law_1215 : decode k_La_law.code 1215 = .ok (.iaload, 1) := by decide +kernel
theorem d_La_law_1216 : decode k_La_law.code 1216 = .ok (.aload_n 0, 1) := by decide +kernel
theorem d_La_law_1217 : decode k_La_law.code 1217 = .ok (.iload 4, 2) := by decide +kernel
theorem d_La_law_1219 : decode k_La_law.code 1219 = .ok (.iconst 3, 1) := by decide +kernel
theorem d_La_law_1220 : decode k_La_law.code 1220 = .ok (.iadd, 1) := by decide +kernel
theorem d_La_law_1221 : decode k_La_law.code 1221 = .ok (.iaload, 1) := by decide +kernel
theorem s_La_law_1222 : SiteV k_La_law k_Mo_heights 1222 8 3 := ⟨147, (R_Mo, F_Mo, 28), by decide +kernel, ⟨kw_Mo_heights, tx1 10 rfl rfl, by decide, by decide⟩, tx5 43 rfl rfl, tx5 44 rfl rfl, tx5 45 rfl rfl, rfl, ⟨by decide +kernel, by decide +kernel⟩, np_Mo_heights⟩
theorem d_La_law_1225 : decode k_La_law.code 1225 = .ok (.istore 6, 2) := by decide +kernel
theorem d_La_law_1227 : decode k_La_law.code 1227 = .ok (.aload_n 2, 1) := by decide +kernel
theorem s_La_law_1228 : SiteV k_La_law k_Mo_thrown 1228 8 0 := ⟨93, (R_Mo, F_Mo, 28), by decide +kernel, ⟨kw_Mo_thrown, tx1 10 rfl rfl, by decide, by decide⟩, tx4 130 rfl rfl, tx4 131 rfl rfl, tx4 132 rfl rfl, rfl, ⟨by decide +kernel, by decide +kernel⟩, np_Mo_thrown⟩
theorem d_La_law_1231 : decode k_La_law.code 1231 = .ok (.iload 5, 2) := by decide +kernel
theorem d_La_law_1233 : decode k_La_law.code 1233 = .ok (.if_icmp .eq 5, 3) := by decide +kernel
theorem d_La_law_1236 : decode k_La_law.code 1236 = .ok (.iconst 0, 1) := by decide +kernel
theorem d_La_law_1237 : decode k_La_law.code 1237 = .ok (.ireturn, 1) := by decide +kernel
theorem d_La_law_1238 : decode k_La_law.code 1238 = .ok (.iload 5, 2) := by decide +kernel
theorem d_La_law_1240 : decode k_La_law.code 1240 = .ok (.ifCond .ne 15, 3) := by decide +kernel
theorem d_La_law_1243 : decode k_La_law.code 1243 = .ok (.aload_n 3, 1) := by decide +kernel
theorem d_La_law_1244 : decode k_La_law.code 1244 = .ok (.iconst 0, 1) := by decide +kernel
theorem d_La_law_1245 : decode k_La_law.code 1245 = .ok (.laload, 1) := by decide +kernel
theorem d_La_law_1246 : decode k_La_law.code 1246 = .ok (.iload 6, 2) := by decide +kernel
theorem d_La_law_1248 : decode k_La_law.code 1248 = .ok (.i2l, 1) := by decide +kernel
theorem d_La_law_1249 : decode k_La_law.code 1249 = .ok (.lcmp, 1) := by decide +kernel
theorem d_La_law_1250 : decode k_La_law.code 1250 = .ok (.ifCond .eq 5, 3) := by decide +kernel
theorem d_La_law_1253 : decode k_La_law.code 1253 = .ok (.iconst 0, 1) := by decide +kernel
theorem d_La_law_1254 : decode k_La_law.code 1254 = .ok (.ireturn, 1) := by decide +kernel
theorem d_La_law_1255 : decode k_La_law.code 1255 = .ok (.goto 183, 3) := by decide +kernel
theorem d_La_law_1258 : decode k_La_law.code 1258 = .ok (.aload_n 1, 1) := by decide +kernel
theorem d_La_law_1259 : decode k_La_law.code 1259 = .ok (.aload_n 0, 1) := by decide +kernel
theorem d_La_law_1260 : decode k_La_law.code 1260 = .ok (.iload 4, 2) := by decide +kernel
theorem d_La_law_1262 : decode k_La_law.code 1262 = .ok (.iconst 1, 1) := by decide +kernel
theorem d_La_law_1263 : decode k_La_law.code 1263 = .ok (.iadd, 1) := by decide +kernel
theorem d_La_law_1264 : decode k_La_law.code 1264 = .ok (.iaload, 1) := by decide +kernel
theorem d_La_law_1265 : decode k_La_law.code 1265 = .ok (.aload_n 0, 1) := by decide +kernel
theorem d_La_law_1266 : decode k_La_law.code 1266 = .ok (.iload 4, 2) := by decide +kernel
theorem d_La_law_1268 : decode k_La_law.code 1268 = .ok (.iconst 2, 1) := by decide +kernel
theorem d_La_law_1269 : decode k_La_law.code 1269 = .ok (.iadd, 1) := by decide +kernel
theorem d_La_law_1270 : decode k_La_law.code 1270 = .ok (.iaload, 1) := by decide +kernel
theorem d_La_law_1271 : decode k_La_law.code 1271 = .ok (.aload_n 3, 1) := by decide +kernel
theorem s_La_law_1272 : SiteS k_La_law k_La_depth 1272 4 := ⟨148, by decide +kernel, ⟨kw_La_depth, tx1 0 rfl rfl, by decide, by decide⟩, Or.inl (tx3 216 rfl rfl), tx3 217 rfl rfl, ⟨by decide +kernel, by decide +kernel⟩, np_La_depth⟩
theorem d_La_law_1275 : decode k_La_law.code 1275 = .ok (.istore 5, 2) := by decide +kernel
theorem d_La_law_1277 : decode k_La_law.code 1277 = .ok (.aload_n 2, 1) := by decide +kernel
theorem d_La_law_1278 : decode k_La_law.code 1278 = .ok (.aload_n 0, 1) := by decide +kernel
theorem d_La_law_1279 : decode k_La_law.code 1279 = .ok (.iload 4, 2) := by decide +kernel
theorem d_La_law_1281 : decode k_La_law.code 1281 = .ok (.iconst 1, 1) := by decide +kernel
theorem d_La_law_1282 : decode k_La_law.code 1282 = .ok (.iadd, 1) := by decide +kernel
theorem d_La_law_1283 : decode k_La_law.code 1283 = .ok (.iaload, 1) := by decide +kernel
theorem d_La_law_1284 : decode k_La_law.code 1284 = .ok (.aload_n 0, 1) := by decide +kernel
theorem d_La_law_1285 : decode k_La_law.code 1285 = .ok (.iload 4, 2) := by decide +kernel
theorem d_La_law_1287 : decode k_La_law.code 1287 = .ok (.iconst 2, 1) := by decide +kernel
theorem d_La_law_1288 : decode k_La_law.code 1288 = .ok (.iadd, 1) := by decide +kernel
theorem d_La_law_1289 : decode k_La_law.code 1289 = .ok (.iaload, 1) := by decide +kernel
theorem s_La_law_1290 : SiteV k_La_law k_Mo_depth 1290 8 2 := ⟨150, (R_Mo, F_Mo, 28), by decide +kernel, ⟨kw_Mo_depth, tx1 10 rfl rfl, by decide, by decide⟩, tx5 59 rfl rfl, tx5 60 rfl rfl, tx5 61 rfl rfl, rfl, ⟨by decide +kernel, by decide +kernel⟩, np_Mo_depth⟩
theorem d_La_law_1293 : decode k_La_law.code 1293 = .ok (.istore 6, 2) := by decide +kernel
theorem d_La_law_1295 : decode k_La_law.code 1295 = .ok (.aload_n 2, 1) := by decide +kernel
theorem s_La_law_1296 : SiteV k_La_law k_Mo_thrown 1296 8 0 := ⟨93, (R_Mo, F_Mo, 28), by decide +kernel, ⟨kw_Mo_thrown, tx1 10 rfl rfl, by decide, by decide⟩, tx4 130 rfl rfl, tx4 131 rfl rfl, tx4 132 rfl rfl, rfl, ⟨by decide +kernel, by decide +kernel⟩, np_Mo_thrown⟩
theorem d_La_law_1299 : decode k_La_law.code 1299 = .ok (.iload 5, 2) := by decide +kernel
theorem d_La_law_1301 : decode k_La_law.code 1301 = .ok (.if_icmp .eq 5, 3) := by decide +kernel
theorem d_La_law_1304 : decode k_La_law.code 1304 = .ok (.iconst 0, 1) := by decide +kernel
theorem d_La_law_1305 : decode k_La_law.code 1305 = .ok (.ireturn, 1) := by decide +kernel
theorem d_La_law_1306 : decode k_La_law.code 1306 = .ok (.iload 5, 2) := by decide +kernel
theorem d_La_law_1308 : decode k_La_law.code 1308 = .ok (.ifCond .ne 15, 3) := by decide +kernel
theorem d_La_law_1311 : decode k_La_law.code 1311 = .ok (.aload_n 3, 1) := by decide +kernel
theorem d_La_law_1312 : decode k_La_law.code 1312 = .ok (.iconst 0, 1) := by decide +kernel
theorem d_La_law_1313 : decode k_La_law.code 1313 = .ok (.laload, 1) := by decide +kernel
theorem d_La_law_1314 : decode k_La_law.code 1314 = .ok (.iload 6, 2) := by decide +kernel
theorem d_La_law_1316 : decode k_La_law.code 1316 = .ok (.i2l, 1) := by decide +kernel
theorem d_La_law_1317 : decode k_La_law.code 1317 = .ok (.lcmp, 1) := by decide +kernel
theorem d_La_law_1318 : decode k_La_law.code 1318 = .ok (.ifCond .eq 5, 3) := by decide +kernel
theorem d_La_law_1321 : decode k_La_law.code 1321 = .ok (.iconst 0, 1) := by decide +kernel
theorem d_La_law_1322 : decode k_La_law.code 1322 = .ok (.ireturn, 1) := by decide +kernel
theorem d_La_law_1323 : decode k_La_law.code 1323 = .ok (.goto 115, 3) := by decide +kernel
theorem d_La_law_1326 : decode k_La_law.code 1326 = .ok (.aload_n 1, 1) := by decide +kernel
theorem d_La_law_1327 : decode k_La_law.code 1327 = .ok (.aload_n 0, 1) := by decide +kernel
theorem d_La_law_1328 : decode k_La_law.code 1328 = .ok (.iload 4, 2) := by decide +kernel
theorem d_La_law_1330 : decode k_La_law.code 1330 = .ok (.iconst 1, 1) := by decide +kernel
theorem d_La_law_1331 : decode k_La_law.code 1331 = .ok (.iadd, 1) := by decide +kernel
theorem d_La_law_1332 : decode k_La_law.code 1332 = .ok (.iaload, 1) := by decide +kernel
theorem d_La_law_1333 : decode k_La_law.code 1333 = .ok (.aload_n 3, 1) := by decide +kernel
theorem s_La_law_1334 : SiteS k_La_law k_La_holes 1334 3 := ⟨151, by decide +kernel, ⟨kw_La_holes, tx1 0 rfl rfl, by decide, by decide⟩, Or.inl (tx3 231 rfl rfl), tx3 232 rfl rfl, ⟨by decide +kernel, by decide +kernel⟩, np_La_holes⟩
theorem d_La_law_1337 : decode k_La_law.code 1337 = .ok (.istore 5, 2) := by decide +kernel
theorem d_La_law_1339 : decode k_La_law.code 1339 = .ok (.aload_n 2, 1) := by decide +kernel
theorem d_La_law_1340 : decode k_La_law.code 1340 = .ok (.aload_n 0, 1) := by decide +kernel
theorem d_La_law_1341 : decode k_La_law.code 1341 = .ok (.iload 4, 2) := by decide +kernel
theorem d_La_law_1343 : decode k_La_law.code 1343 = .ok (.iconst 1, 1) := by decide +kernel
theorem d_La_law_1344 : decode k_La_law.code 1344 = .ok (.iadd, 1) := by decide +kernel
theorem d_La_law_1345 : decode k_La_law.code 1345 = .ok (.iaload, 1) := by decide +kernel
theorem s_La_law_1346 : SiteV k_La_law k_Mo_holes 1346 8 1 := ⟨153, (R_Mo, F_Mo, 28), by decide +kernel, ⟨kw_Mo_holes, tx1 10 rfl rfl, by decide, by decide⟩, tx5 63 rfl rfl, tx5 64 rfl rfl, tx5 65 rfl rfl, rfl, ⟨by decide +kernel, by decide +kernel⟩, np_Mo_holes⟩
theorem d_La_law_1349 : decode k_La_law.code 1349 = .ok (.istore 6, 2) := by decide +kernel
theorem d_La_law_1351 : decode k_La_law.code 1351 = .ok (.aload_n 2, 1) := by decide +kernel
theorem s_La_law_1352 : SiteV k_La_law k_Mo_thrown 1352 8 0 := ⟨93, (R_Mo, F_Mo, 28), by decide +kernel, ⟨kw_Mo_thrown, tx1 10 rfl rfl, by decide, by decide⟩, tx4 130 rfl rfl, tx4 131 rfl rfl, tx4 132 rfl rfl, rfl, ⟨by decide +kernel, by decide +kernel⟩, np_Mo_thrown⟩
theorem d_La_law_1355 : decode k_La_law.code 1355 = .ok (.iload 5, 2) := by decide +kernel
theorem d_La_law_1357 : decode k_La_law.code 1357 = .ok (.if_icmp .eq 5, 3) := by decide +kernel
theorem d_La_law_1360 : decode k_La_law.code 1360 = .ok (.iconst 0, 1) := by decide +kernel
theorem d_La_law_1361 : decode k_La_law.code 1361 = .ok (.ireturn, 1) := by decide +kernel
theorem d_La_law_1362 : decode k_La_law.code 1362 = .ok (.iload 5, 2) := by decide +kernel
theorem d_La_law_1364 : decode k_La_law.code 1364 = .ok (.ifCond .ne 15, 3) := by decide +kernel
theorem d_La_law_1367 : decode k_La_law.code 1367 = .ok (.aload_n 3, 1) := by decide +kernel
theorem d_La_law_1368 : decode k_La_law.code 1368 = .ok (.iconst 0, 1) := by decide +kernel
theorem d_La_law_1369 : decode k_La_law.code 1369 = .ok (.laload, 1) := by decide +kernel
theorem d_La_law_1370 : decode k_La_law.code 1370 = .ok (.iload 6, 2) := by decide +kernel
theorem d_La_law_1372 : decode k_La_law.code 1372 = .ok (.i2l, 1) := by decide +kernel
theorem d_La_law_1373 : decode k_La_law.code 1373 = .ok (.lcmp, 1) := by decide +kernel
theorem d_La_law_1374 : decode k_La_law.code 1374 = .ok (.ifCond .eq 5, 3) := by decide +kernel
theorem d_La_law_1377 : decode k_La_law.code 1377 = .ok (.iconst 0, 1) := by decide +kernel
theorem d_La_law_1378 : decode k_La_law.code 1378 = .ok (.ireturn, 1) := by decide +kernel
theorem d_La_law_1379 : decode k_La_law.code 1379 = .ok (.goto 59, 3) := by decide +kernel
theorem d_La_law_1382 : decode k_La_law.code 1382 = .ok (.aload_n 1, 1) := by decide +kernel
theorem d_La_law_1383 : decode k_La_law.code 1383 = .ok (.aload_n 0, 1) := by decide +kernel
theorem d_La_law_1384 : decode k_La_law.code 1384 = .ok (.iload 4, 2) := by decide +kernel
theorem d_La_law_1386 : decode k_La_law.code 1386 = .ok (.iconst 1, 1) := by decide +kernel
theorem d_La_law_1387 : decode k_La_law.code 1387 = .ok (.iadd, 1) := by decide +kernel
theorem d_La_law_1388 : decode k_La_law.code 1388 = .ok (.iaload, 1) := by decide +kernel
theorem d_La_law_1389 : decode k_La_law.code 1389 = .ok (.aload_n 3, 1) := by decide +kernel
theorem s_La_law_1390 : SiteS k_La_law k_La_count 1390 3 := ⟨154, by decide +kernel, ⟨kw_La_count, tx1 0 rfl rfl, by decide, by decide⟩, Or.inl (tx4 18 rfl rfl), tx4 19 rfl rfl, ⟨by decide +kernel, by decide +kernel⟩, np_La_count⟩
theorem d_La_law_1393 : decode k_La_law.code 1393 = .ok (.istore 5, 2) := by decide +kernel
theorem d_La_law_1395 : decode k_La_law.code 1395 = .ok (.aload_n 2, 1) := by decide +kernel
theorem d_La_law_1396 : decode k_La_law.code 1396 = .ok (.aload_n 0, 1) := by decide +kernel
theorem d_La_law_1397 : decode k_La_law.code 1397 = .ok (.iload 4, 2) := by decide +kernel
theorem d_La_law_1399 : decode k_La_law.code 1399 = .ok (.iconst 1, 1) := by decide +kernel
theorem d_La_law_1400 : decode k_La_law.code 1400 = .ok (.iadd, 1) := by decide +kernel
theorem d_La_law_1401 : decode k_La_law.code 1401 = .ok (.iaload, 1) := by decide +kernel
theorem s_La_law_1402 : SiteV k_La_law k_Mo_count 1402 8 1 := ⟨156, (R_Mo, F_Mo, 28), by decide +kernel, ⟨kw_Mo_count, tx1 10 rfl rfl, by decide, by decide⟩, tx5 79 rfl rfl, tx5 80 rfl rfl, tx5 81 rfl rfl, rfl, ⟨by decide +kernel, by decide +kernel⟩, np_Mo_count⟩
theorem d_La_law_1405 : decode k_La_law.code 1405 = .ok (.istore 6, 2) := by decide +kernel
theorem d_La_law_1407 : decode k_La_law.code 1407 = .ok (.aload_n 2, 1) := by decide +kernel
theorem s_La_law_1408 : SiteV k_La_law k_Mo_thrown 1408 8 0 := ⟨93, (R_Mo, F_Mo, 28), by decide +kernel, ⟨kw_Mo_thrown, tx1 10 rfl rfl, by decide, by decide⟩, tx4 130 rfl rfl, tx4 131 rfl rfl, tx4 132 rfl rfl, rfl, ⟨by decide +kernel, by decide +kernel⟩, np_Mo_thrown⟩
theorem d_La_law_1411 : decode k_La_law.code 1411 = .ok (.iload 5, 2) := by decide +kernel
theorem d_La_law_1413 : decode k_La_law.code 1413 = .ok (.if_icmp .eq 5, 3) := by decide +kernel
theorem d_La_law_1416 : decode k_La_law.code 1416 = .ok (.iconst 0, 1) := by decide +kernel
theorem d_La_law_1417 : decode k_La_law.code 1417 = .ok (.ireturn, 1) := by decide +kernel
theorem d_La_law_1418 : decode k_La_law.code 1418 = .ok (.iload 5, 2) := by decide +kernel
theorem d_La_law_1420 : decode k_La_law.code 1420 = .ok (.ifCond .ne 15, 3) := by decide +kernel
theorem d_La_law_1423 : decode k_La_law.code 1423 = .ok (.aload_n 3, 1) := by decide +kernel
theorem d_La_law_1424 : decode k_La_law.code 1424 = .ok (.iconst 0, 1) := by decide +kernel
theorem d_La_law_1425 : decode k_La_law.code 1425 = .ok (.laload, 1) := by decide +kernel
theorem d_La_law_1426 : decode k_La_law.code 1426 = .ok (.iload 6, 2) := by decide +kernel
theorem d_La_law_1428 : decode k_La_law.code 1428 = .ok (.i2l, 1) := by decide +kernel
theorem d_La_law_1429 : decode k_La_law.code 1429 = .ok (.lcmp, 1) := by decide +kernel
theorem d_La_law_1430 : decode k_La_law.code 1430 = .ok (.ifCond .eq 5, 3) := by decide +kernel
theorem d_La_law_1433 : decode k_La_law.code 1433 = .ok (.iconst 0, 1) := by decide +kernel
theorem d_La_law_1434 : decode k_La_law.code 1434 = .ok (.ireturn, 1) := by decide +kernel
theorem d_La_law_1435 : decode k_La_law.code 1435 = .ok (.goto 3, 3) := by decide +kernel
theorem d_La_law_1438 : decode k_La_law.code 1438 = .ok (.iinc 4 5, 3) := by decide +kernel
theorem d_La_law_1441 : decode k_La_law.code 1441 = .ok (.goto (-1388), 3) := by decide +kernel
theorem d_La_law_1444 : decode k_La_law.code 1444 = .ok (.iconst 1, 1) := by decide +kernel
theorem d_La_law_1445 : decode k_La_law.code 1445 = .ok (.ireturn, 1) := by decide +kernel
