/-! the law: hands go up one behind the other; how many more it bears -/
theorem ct_4 {v : Im} : rCount v 4 = rHandsUp v := by
  unfold rCount
  rw [if_neg (by decide), if_neg (by decide), if_neg (by decide), if_neg (by decide), if_pos rfl]
theorem up_there {v : Im} (T : HTv v) {q : Nat} (hq : (q : Int) < v 53 0) (h : 0 < v 59 q) : v 58 q ≠ 0 := fun e => by
  have := T q hq e
  omega
theorem k233_1210 : cd 233 1210 = some (.aload 1, 1211, []) := by decide +kernel
theorem k233_1211 : cd 233 1211 = some (.iconst (4), 1212, []) := by decide +kernel
theorem k233_1212 : cd 233 1212 = some (.invokevirtual 42, 1215, [[1], [11, 31, 0, 647, 649, 648, 0, 0]]) := by decide +kernel
theorem k233_1215 : cd 233 1215 = some (.istore 10, 1217, []) := by decide +kernel
theorem k233_1217 : cd 233 1217 = some (.iconst (0), 1218, []) := by decide +kernel
theorem k233_1218 : cd 233 1218 = some (.istore 11, 1220, []) := by decide +kernel
theorem k233_1220 : cd 233 1220 = some (.iconst (0), 1221, []) := by decide +kernel
theorem k233_1221 : cd 233 1221 = some (.istore 12, 1223, []) := by decide +kernel
theorem k233_1223 : cd 233 1223 = some (.iload 12, 1225, []) := by decide +kernel
theorem k233_1225 : cd 233 1225 = some (.iload 10, 1227, []) := by decide +kernel
theorem k233_1227 : cd 233 1227 = some (.if_icmp .ge 1285, 1230, []) := by decide +kernel
theorem k233_1230 : cd 233 1230 = some (.aload 1, 1231, []) := by decide +kernel
theorem k233_1231 : cd 233 1231 = some (.iload 12, 1233, []) := by decide +kernel
theorem k233_1233 : cd 233 1233 = some (.invokevirtual 66, 1236, [[1], [11, 18, 0, 590, 592, 591, 0, 0]]) := by decide +kernel
theorem k233_1236 : cd 233 1236 = some (.istore 13, 1238, []) := by decide +kernel
theorem k233_1238 : cd 233 1238 = some (.iload 13, 1240, []) := by decide +kernel
theorem k233_1240 : cd 233 1240 = some (.ifCond .lt 1268, 1243, []) := by decide +kernel
theorem k233_1243 : cd 233 1243 = some (.aload 1, 1244, []) := by decide +kernel
theorem k233_1244 : cd 233 1244 = some (.iload 13, 1246, []) := by decide +kernel
theorem k233_1246 : cd 233 1246 = some (.iconst (5), 1247, []) := by decide +kernel
theorem k233_1247 : cd 233 1247 = some (.invokevirtual 47, 1250, [[2], [11, 2, 0, 455, 457, 456, 0, 0]]) := by decide +kernel
theorem k233_1250 : cd 233 1250 = some (.iload 12, 1252, []) := by decide +kernel
theorem k233_1252 : cd 233 1252 = some (.iconst (1), 1253, []) := by decide +kernel
theorem k233_1253 : cd 233 1253 = some (.iadd, 1254, []) := by decide +kernel
theorem k233_1254 : cd 233 1254 = some (.if_icmp .ne 1268, 1257, []) := by decide +kernel
theorem k233_1257 : cd 233 1257 = some (.aload 1, 1258, []) := by decide +kernel
theorem k233_1258 : cd 233 1258 = some (.iload 13, 1260, []) := by decide +kernel
theorem k233_1260 : cd 233 1260 = some (.iconst (4), 1261, []) := by decide +kernel
theorem k233_1261 : cd 233 1261 = some (.invokevirtual 47, 1264, [[2], [11, 2, 0, 455, 457, 456, 0, 0]]) := by decide +kernel
theorem k233_1264 : cd 233 1264 = some (.iconst (1), 1265, []) := by decide +kernel
theorem k233_1265 : cd 233 1265 = some (.if_icmp .eq 1270, 1268, []) := by decide +kernel
theorem k233_1270 : cd 233 1270 = some (.iload 11, 1272, []) := by decide +kernel
theorem k233_1272 : cd 233 1272 = some (.iconst (1), 1273, []) := by decide +kernel
theorem k233_1273 : cd 233 1273 = some (.iload 13, 1275, []) := by decide +kernel
theorem k233_1275 : cd 233 1275 = some (.ishl, 1276, []) := by decide +kernel
theorem k233_1276 : cd 233 1276 = some (.ior, 1277, []) := by decide +kernel
theorem k233_1277 : cd 233 1277 = some (.istore 11, 1279, []) := by decide +kernel
theorem k233_1279 : cd 233 1279 = some (.iinc 12 (1), 1282, []) := by decide +kernel
theorem k233_1282 : cd 233 1282 = some (.goto 1223, 1285, []) := by decide +kernel
theorem k233_1285 : cd 233 1285 = some (.iload 11, 1287, []) := by decide +kernel
theorem k233_1287 : cd 233 1287 = some (.invokestatic 124, 1290, [[0, 1, 66, 726, 727]]) := by decide +kernel
theorem k233_1290 : cd 233 1290 = some (.iload 10, 1292, []) := by decide +kernel
theorem k233_1292 : cd 233 1292 = some (.if_icmp .ne 1345, 1295, []) := by decide +kernel
theorem k233_1295 : cd 233 1295 = some (.aload 1, 1296, []) := by decide +kernel
theorem k233_1296 : cd 233 1296 = some (.iload 10, 1298, []) := by decide +kernel
theorem k233_1298 : cd 233 1298 = some (.invokevirtual 66, 1301, [[1], [11, 18, 0, 590, 592, 591, 0, 0]]) := by decide +kernel
theorem k233_1301 : cd 233 1301 = some (.iconst (-4), 1303, []) := by decide +kernel
theorem k233_1303 : cd 233 1303 = some (.if_icmp .ne 1345, 1306, []) := by decide +kernel
theorem k233_1306 : cd 233 1306 = some (.aload 1, 1307, []) := by decide +kernel
theorem k233_1307 : cd 233 1307 = some (.iconst (1), 1308, []) := by decide +kernel
theorem k233_1308 : cd 233 1308 = some (.invokevirtual 79, 1311, [[1], [11, 19, 0, 594, 596, 595, 0, 0]]) := by decide +kernel
theorem k233_1311 : cd 233 1311 = some (.aload 1, 1312, []) := by decide +kernel
theorem k233_1312 : cd 233 1312 = some (.iconst (0), 1313, []) := by decide +kernel
theorem k233_1313 : cd 233 1313 = some (.invokevirtual 79, 1316, [[1], [11, 19, 0, 594, 596, 595, 0, 0]]) := by decide +kernel
theorem k233_1316 : cd 233 1316 = some (.if_icmp .gt 1345, 1319, []) := by decide +kernel
theorem k233_1319 : cd 233 1319 = some (.aload 1, 1320, []) := by decide +kernel
theorem k233_1320 : cd 233 1320 = some (.iconst (2), 1321, []) := by decide +kernel
theorem k233_1321 : cd 233 1321 = some (.invokevirtual 79, 1324, [[1], [11, 19, 0, 594, 596, 595, 0, 0]]) := by decide +kernel
theorem k233_1324 : cd 233 1324 = some (.ifCond .ge 1331, 1327, []) := by decide +kernel
theorem k233_1327 : cd 233 1327 = some (.iconst (1), 1328, []) := by decide +kernel
theorem k233_1328 : cd 233 1328 = some (.goto 1332, 1331, []) := by decide +kernel
theorem k233_1331 : cd 233 1331 = some (.iconst (0), 1332, []) := by decide +kernel
theorem k233_1332 : cd 233 1332 = some (.iload 10, 1334, []) := by decide +kernel
theorem k233_1334 : cd 233 1334 = some (.ifCond .ne 1341, 1337, []) := by decide +kernel
theorem k233_1337 : cd 233 1337 = some (.iconst (1), 1338, []) := by decide +kernel
theorem k233_1338 : cd 233 1338 = some (.goto 1342, 1341, []) := by decide +kernel
theorem k233_1341 : cd 233 1341 = some (.iconst (0), 1342, []) := by decide +kernel
theorem k233_1342 : cd 233 1342 = some (.if_icmp .eq 1347, 1345, []) := by decide +kernel
theorem k233_1347 : cd 233 1347 = some (.iconst (0), 1348, []) := by decide +kernel
theorem k233_1348 : cd 233 1348 = some (.istore 12, 1350, []) := by decide +kernel
theorem k233_1350 : cd 233 1350 = some (.iload 12, 1352, []) := by decide +kernel
theorem k233_1352 : cd 233 1352 = some (.iload 3, 1353, []) := by decide +kernel
theorem k233_1353 : cd 233 1353 = some (.if_icmp .ge 1470, 1356, []) := by decide +kernel
theorem k233_1356 : cd 233 1356 = some (.aload 1, 1357, []) := by decide +kernel
theorem k233_1357 : cd 233 1357 = some (.iload 12, 1359, []) := by decide +kernel
theorem k233_1359 : cd 233 1359 = some (.iconst (4), 1360, []) := by decide +kernel
theorem k233_1360 : cd 233 1360 = some (.invokevirtual 47, 1363, [[2], [11, 2, 0, 455, 457, 456, 0, 0]]) := by decide +kernel
theorem k233_1363 : cd 233 1363 = some (.ifCond .ne 1369, 1366, []) := by decide +kernel
theorem k233_1366 : cd 233 1366 = some (.goto 1464, 1369, []) := by decide +kernel
theorem k233_1369 : cd 233 1369 = some (.aload 1, 1370, []) := by decide +kernel
theorem k233_1370 : cd 233 1370 = some (.iload 12, 1372, []) := by decide +kernel
theorem k233_1372 : cd 233 1372 = some (.iconst (5), 1373, []) := by decide +kernel
theorem k233_1373 : cd 233 1373 = some (.invokevirtual 47, 1376, [[2], [11, 2, 0, 455, 457, 456, 0, 0]]) := by decide +kernel
theorem k233_1376 : cd 233 1376 = some (.ifCond .le 1383, 1379, []) := by decide +kernel
theorem k233_1379 : cd 233 1379 = some (.iconst (1), 1380, []) := by decide +kernel
theorem k233_1380 : cd 233 1380 = some (.goto 1384, 1383, []) := by decide +kernel
theorem k233_1383 : cd 233 1383 = some (.iconst (0), 1384, []) := by decide +kernel
theorem k233_1384 : cd 233 1384 = some (.istore 13, 1386, []) := by decide +kernel
theorem k233_1386 : cd 233 1386 = some (.aload 1, 1387, []) := by decide +kernel
theorem k233_1387 : cd 233 1387 = some (.iload 12, 1389, []) := by decide +kernel
theorem k233_1389 : cd 233 1389 = some (.invokevirtual 37, 1392, [[1], [11, 6, 0, 497, 499, 498, 0, 0]]) := by decide +kernel
theorem k233_1392 : cd 233 1392 = some (.iload 10, 1394, []) := by decide +kernel
theorem k233_1394 : cd 233 1394 = some (.iload 13, 1396, []) := by decide +kernel
theorem k233_1396 : cd 233 1396 = some (.ifCond .eq 1403, 1399, []) := by decide +kernel
theorem k233_1399 : cd 233 1399 = some (.iconst (-1), 1400, []) := by decide +kernel
theorem k233_1400 : cd 233 1400 = some (.goto 1404, 1403, []) := by decide +kernel
theorem k233_1403 : cd 233 1403 = some (.iconst (1), 1404, []) := by decide +kernel
theorem k233_1404 : cd 233 1404 = some (.iadd, 1405, []) := by decide +kernel
theorem k233_1405 : cd 233 1405 = some (.if_icmp .ne 1453, 1408, []) := by decide +kernel
theorem k233_1408 : cd 233 1408 = some (.iload 13, 1410, []) := by decide +kernel
theorem k233_1410 : cd 233 1410 = some (.ifCond .ne 1424, 1413, []) := by decide +kernel
theorem k233_1413 : cd 233 1413 = some (.aload 1, 1414, []) := by decide +kernel
theorem k233_1414 : cd 233 1414 = some (.iload 10, 1416, []) := by decide +kernel
theorem k233_1416 : cd 233 1416 = some (.invokevirtual 66, 1419, [[1], [11, 18, 0, 590, 592, 591, 0, 0]]) := by decide +kernel
theorem k233_1419 : cd 233 1419 = some (.iload 12, 1421, []) := by decide +kernel
theorem k233_1421 : cd 233 1421 = some (.if_icmp .ne 1453, 1424, []) := by decide +kernel
theorem k233_1424 : cd 233 1424 = some (.aload 1, 1425, []) := by decide +kernel
theorem k233_1425 : cd 233 1425 = some (.iload 12, 1427, []) := by decide +kernel
theorem k233_1427 : cd 233 1427 = some (.invokevirtual 37, 1430, [[1], [11, 6, 0, 497, 499, 498, 0, 0]]) := by decide +kernel
theorem k233_1430 : cd 233 1430 = some (.iload 10, 1432, []) := by decide +kernel
theorem k233_1432 : cd 233 1432 = some (.if_icmp .ne 1453, 1435, []) := by decide +kernel
theorem k233_1435 : cd 233 1435 = some (.iload 13, 1437, []) := by decide +kernel
theorem k233_1437 : cd 233 1437 = some (.ifCond .eq 1455, 1440, []) := by decide +kernel
theorem k233_1440 : cd 233 1440 = some (.aload 1, 1441, []) := by decide +kernel
theorem k233_1441 : cd 233 1441 = some (.iload 10, 1443, []) := by decide +kernel
theorem k233_1443 : cd 233 1443 = some (.iconst (1), 1444, []) := by decide +kernel
theorem k233_1444 : cd 233 1444 = some (.isub, 1445, []) := by decide +kernel
theorem k233_1445 : cd 233 1445 = some (.invokevirtual 66, 1448, [[1], [11, 18, 0, 590, 592, 591, 0, 0]]) := by decide +kernel
theorem k233_1448 : cd 233 1448 = some (.iload 12, 1450, []) := by decide +kernel
theorem k233_1450 : cd 233 1450 = some (.if_icmp .eq 1455, 1453, []) := by decide +kernel
theorem k233_1455 : cd 233 1455 = some (.aload 1, 1456, []) := by decide +kernel
theorem k233_1456 : cd 233 1456 = some (.invokevirtual 98, 1459, [[0], [11, 30, 0, 643, 645, 644, 0, 0]]) := by decide +kernel
theorem k233_1459 : cd 233 1459 = some (.ifCond .eq 1464, 1462, []) := by decide +kernel
theorem k233_1464 : cd 233 1464 = some (.iinc 12 (1), 1467, []) := by decide +kernel
theorem k233_1467 : cd 233 1467 = some (.goto 1350, 1470, []) := by decide +kernel
theorem k233_1470 : cd 233 1470 = some (.aload 1, 1471, []) := by decide +kernel
theorem k233_1471 : cd 233 1471 = some (.invokestatic 108, 1474, [[0, 1, 65, 706, 707]]) := by decide +kernel
theorem k233_1474 : cd 233 1474 = some (.lload 4, 1476, []) := by decide +kernel
theorem k233_1476 : cd 233 1476 = some (.lcmp, 1477, []) := by decide +kernel
theorem k233_1477 : cd 233 1477 = some (.ifCond .eq 1482, 1480, []) := by decide +kernel
theorem k233_1482 : cd 233 1482 = some (.aload 1, 1483, []) := by decide +kernel
theorem k233_1483 : cd 233 1483 = some (.iconst (3), 1484, []) := by decide +kernel
theorem k233_1484 : cd 233 1484 = some (.iconst (0), 1485, []) := by decide +kernel
theorem k233_1485 : cd 233 1485 = some (.invokevirtual 88, 1488, [[2], [11, 24, 0, 619, 621, 620, 0, 0]]) := by decide +kernel
theorem k233_1488 : cd 233 1488 = some (.istore 12, 1490, []) := by decide +kernel
theorem k233_1490 : cd 233 1490 = some (.iload 12, 1492, []) := by decide +kernel
theorem k233_1492 : cd 233 1492 = some (.ifCond .ne 1500, 1495, []) := by decide +kernel
theorem k233_1495 : cd 233 1495 = some (.iload 7, 1497, []) := by decide +kernel
theorem k233_1497 : cd 233 1497 = some (.ifCond .ge 1510, 1500, []) := by decide +kernel
theorem k233_1500 : cd 233 1500 = some (.iload 12, 1502, []) := by decide +kernel
theorem k233_1502 : cd 233 1502 = some (.ifCond .le 1512, 1505, []) := by decide +kernel
theorem k233_1505 : cd 233 1505 = some (.iload 7, 1507, []) := by decide +kernel
theorem k233_1507 : cd 233 1507 = some (.ifCond .ge 1512, 1510, []) := by decide +kernel
theorem k233_1512 : cd 233 1512 = some (.iconst (0), 1513, []) := by decide +kernel
theorem k233_1513 : cd 233 1513 = some (.istore 13, 1515, []) := by decide +kernel
theorem ls_19r (hok : ∀ y pc, okE y pc (cd y pc) = true) {K L j : Nat} {X : Nat → Int} {I u x : Im} {nb : Int} (hI : Wd I nb) : ∀ (n i : Nat) (_ : (n : Int) + (i : Int) = rHandsUp I) {A : Mm} {z : Int} {y13 y14 y15 y16 y17 y18 y19 : Option AV} (hz : SeenB I i z) (W : WA K 1 L X I u x nb (j + 4 * i) A) (ih : ∀ (i : Nat) (z i2 : Int) (y13 y14 y15 y16 y17 y18 y19 : Option AV) (A1 : Mm), SeenB I i z → (i : Int) = rHandsUp I → WA K 1 L X I u x nb (j + 60) A1 → GP LPp 233 (1285, [some (vR 0), some (vR (K + 1)), some (vR (K + 53)), some (vI nb), some (vL (smV I)), none, some (vI (rCount I 5)), some (vI (rPauseV I 0)), some (vI (rSilence I)), some (vI (rObject I (rSilence I))), some (vI (rHandsUp I)), some (vI z), some (vI i2), y13, y14, y15, y16, y17, y18, y19], [], A1)), GP LPp 233 (1223, [some (vR 0), some (vR (K + 1)), some (vR (K + 53)), some (vI nb), some (vL (smV I)), none, some (vI (rCount I 5)), some (vI (rPauseV I 0)), some (vI (rSilence I)), some (vI (rObject I (rSilence I))), some (vI (rHandsUp I)), some (vI z), some (vI ((i : Int))), y13, y14, y15, y16, y17, y18, y19], [], A)
  | 0, i, hi, A, z, y13, y14, y15, y16, y17, y18, y19, hz, W, ih => by
    have h53 : 0 ≤ I 53 0 ∧ I 53 0 ≤ 6 := ⟨(hI.1.1 53 0).1, hI.1.2.1⟩
    have en := hI.2.1
    have hs : rSq I ≤ 6 := by unfold rSq; omega
    have hu := rHandsUp_r hI.1.1
    have hus := rHandsUp_sq hI.1.1
    obtain ⟨hH, hT, -⟩ := W.hv
    refine w_iload (z := (i : Int)) k233_1223 rfl ?_
    refine w_iload (z := rHandsUp I) k233_1225 rfl ?_
    have e : (i : Int) = rHandsUp I := by omega
    refine w_icmpT (t' := 1285) k233_1227 rfl (decide_eq_true (show (rHandsUp I : Int) ≤ ((i : Int) : Int) by omega)) ?_
    exact ih _ _ _ _ _ _ _ _ _ _ _ hz e (W.le (by omega))
  | n + 1, i, hi, A, z, y13, y14, y15, y16, y17, y18, y19, hz, W, ih => by
    have h53 : 0 ≤ I 53 0 ∧ I 53 0 ≤ 6 := ⟨(hI.1.1 53 0).1, hI.1.2.1⟩
    have en := hI.2.1
    have hs : rSq I ≤ 6 := by unfold rSq; omega
    have hu := rHandsUp_r hI.1.1
    have hus := rHandsUp_sq hI.1.1
    obtain ⟨hH, hT, -⟩ := W.hv
    refine w_iload (z := (i : Int)) k233_1223 rfl ?_
    refine w_iload (z := rHandsUp I) k233_1225 rfl ?_
    refine w_icmpF k233_1227 (decide_eq_false (show ¬ ((rHandsUp I : Int) ≤ ((i : Int) : Int)) by omega)) ?_
    obtain ⟨q, hq, en1, e59⟩ := next_at hI.1.1 hI.1.2.1 hH (i := i) (by omega)
    have his := is_q hI.1.1 hq
    have htq : I 58 q ≠ 0 := up_there hT ((sq_lt hI.1.1).mpr hq) (by omega)
    refine w_aload (q := some (K + 1)) k233_1230 rfl ?_
    refine w_iload (z := (i : Int)) k233_1231 rfl ?_
    refine w_callv k233_1233 rfl rfl W.o rfl rfl rfl rfl (P18 (i := (i : Int)) hok W ⟨by omega, by omega⟩) (k_rq ?_) (fun E M1 h => absurd h (Rq_x E M1))
    intro r1 A1 hm1
    obtain ⟨⟨z1, hr1, hz1⟩, W1⟩ := hm1
    subst hr1
    have hz1 : z1 = rNext I (i : Int) := hz1
    have e1 : (q : Int) = z1 := (hz1.trans (en1)).symm
    subst e1
    show GP _ 233 (1236, [some (vR 0), some (vR (K + 1)), some (vR (K + 53)), some (vI nb), some (vL (smV I)), none, some (vI (rCount I 5)), some (vI (rPauseV I 0)), some (vI (rSilence I)), some (vI (rObject I (rSilence I))), some (vI (rHandsUp I)), some (vI z), some (vI ((i : Int))), y13, y14, y15, y16, y17, y18, y19], [vI ((q : Int))], A1)
    refine w_istore (L' := [some (vR 0), some (vR (K + 1)), some (vR (K + 53)), some (vI nb), some (vL (smV I)), none, some (vI (rCount I 5)), some (vI (rPauseV I 0)), some (vI (rSilence I)), some (vI (rObject I (rSilence I))), some (vI (rHandsUp I)), some (vI z), some (vI ((i : Int))), some (vI ((q : Int))), y14, y15, y16, y17, y18, y19]) k233_1236 rfl ?_
    refine w_iload (z := (q : Int)) k233_1238 rfl ?_
    refine w_ifF k233_1240 (decide_eq_false (show ¬ (((q : Int) : Int) < (0 : Int)) by omega)) ?_
    refine w_aload (q := some (K + 1)) k233_1243 rfl ?_
    refine w_iload (z := (q : Int)) k233_1244 rfl ?_
    refine w_iconst k233_1246 ?_
    refine w_callv k233_1247 rfl rfl W1.o rfl rfl rfl rfl (P2 (q := (q : Int)) (w := 5) hok W1 ⟨by omega, by omega⟩ ⟨by decide, by decide⟩) (k_rq ?_) (fun E M1 h => absurd h (Rq_x E M1))
    intro r2 A2 hm2
    obtain ⟨⟨z2, hr2, hz2⟩, W2⟩ := hm2
    subst hr2
    have hz2 : z2 = rSquare I (q : Int) 5 := hz2
    have e2 : (i : Int) + 1 = z2 := (hz2.trans ((sq_5 his).trans e59)).symm
    subst e2
    show GP _ 233 (1250, [some (vR 0), some (vR (K + 1)), some (vR (K + 53)), some (vI nb), some (vL (smV I)), none, some (vI (rCount I 5)), some (vI (rPauseV I 0)), some (vI (rSilence I)), some (vI (rObject I (rSilence I))), some (vI (rHandsUp I)), some (vI z), some (vI ((i : Int))), some (vI ((q : Int))), y14, y15, y16, y17, y18, y19], [vI ((i : Int) + 1)], A2)
    refine w_iload (z := (i : Int)) k233_1250 rfl ?_
    refine w_iconst k233_1252 ?_
    refine w_iadd (x := (i : Int) + 1) k233_1253 (wrap_of (by omega) (by omega)) ?_
    refine w_icmpF k233_1254 (decide_eq_false (show ¬ (((i : Int) + 1 : Int) ≠ ((i : Int) + 1 : Int)) from fun h => h rfl)) ?_
    refine w_aload (q := some (K + 1)) k233_1257 rfl ?_
    refine w_iload (z := (q : Int)) k233_1258 rfl ?_
    refine w_iconst k233_1260 ?_
    refine w_callv k233_1261 rfl rfl W2.o rfl rfl rfl rfl (P2 (q := (q : Int)) (w := 4) hok W2 ⟨by omega, by omega⟩ ⟨by decide, by decide⟩) (k_rq ?_) (fun E M1 h => absurd h (Rq_x E M1))
    intro r3 A3 hm3
    obtain ⟨⟨z3, hr3, hz3⟩, W3⟩ := hm3
    subst hr3
    have hz3 : z3 = rSquare I (q : Int) 4 := hz3
    have e3 : 1 = z3 := (hz3.trans ((sq_4 his).trans (if_neg htq))).symm
    subst e3
    show GP _ 233 (1264, [some (vR 0), some (vR (K + 1)), some (vR (K + 53)), some (vI nb), some (vL (smV I)), none, some (vI (rCount I 5)), some (vI (rPauseV I 0)), some (vI (rSilence I)), some (vI (rObject I (rSilence I))), some (vI (rHandsUp I)), some (vI z), some (vI ((i : Int))), some (vI ((q : Int))), y14, y15, y16, y17, y18, y19], [vI 1], A3)
    refine w_iconst k233_1264 ?_
    refine w_icmpT (t' := 1270) k233_1265 rfl (decide_eq_true (show (1 : Int) = (1 : Int) from rfl)) ?_
    refine w_iload (z := z) k233_1270 rfl ?_
    refine w_iconst k233_1272 ?_
    refine w_iload (z := (q : Int)) k233_1273 rfl ?_
    refine w_ishl (x := ishl 1 ((q : Int))) k233_1275 rfl ?_
    refine w_ior (x := ior z (ishl 1 ((q : Int)))) k233_1276 rfl ?_
    refine w_istore (L' := [some (vR 0), some (vR (K + 1)), some (vR (K + 53)), some (vI nb), some (vL (smV I)), none, some (vI (rCount I 5)), some (vI (rPauseV I 0)), some (vI (rSilence I)), some (vI (rObject I (rSilence I))), some (vI (rHandsUp I)), some (vI (ior z (ishl 1 ((q : Int))))), some (vI ((i : Int))), some (vI ((q : Int))), y14, y15, y16, y17, y18, y19]) k233_1277 rfl ?_
    refine w_iinc (x := (i : Int)) (x' := ((i + 1 : Nat) : Int)) (L' := [some (vR 0), some (vR (K + 1)), some (vR (K + 53)), some (vI nb), some (vL (smV I)), none, some (vI (rCount I 5)), some (vI (rPauseV I 0)), some (vI (rSilence I)), some (vI (rObject I (rSilence I))), some (vI (rHandsUp I)), some (vI (ior z (ishl 1 ((q : Int))))), some (vI (((i + 1 : Nat) : Int))), some (vI ((q : Int))), y14, y15, y16, y17, y18, y19]) k233_1279 rfl (wrap_of (by omega) (by omega)) rfl ?_
    refine w_goto (t' := 1223) k233_1282 rfl ?_
    exact ls_19r hok hI n (i + 1) (by omega) (SeenB.next hz (by omega) e59) (W3.le (by omega)) ih
theorem ls_19 (hok : ∀ y pc, okE y pc (cd y pc) = true) {K L j : Nat} {X : Nat → Int} {I u x : Im} {nb : Int} {A : Mm} (W : WA K 1 L X I u x nb j A) (hI : Wd I nb) {y10 y11 y12 y13 y14 y15 y16 y17 y18 y19 : Option AV} (ih : ∀ (s11 : Int) (y13 y14 y15 y16 y17 y18 y19 : Option AV) (A1 : Mm), WA K 1 L X I u x nb (j + 100) A1 → GP LPp 233 (1350, [some (vR 0), some (vR (K + 1)), some (vR (K + 53)), some (vI nb), some (vL (smV I)), none, some (vI (rCount I 5)), some (vI (rPauseV I 0)), some (vI (rSilence I)), some (vI (rObject I (rSilence I))), some (vI (rHandsUp I)), some (vI s11), some (vI (((0 : Nat) : Int))), y13, y14, y15, y16, y17, y18, y19], [], A1)) : GP LPp 233 (1210, [some (vR 0), some (vR (K + 1)), some (vR (K + 53)), some (vI nb), some (vL (smV I)), none, some (vI (rCount I 5)), some (vI (rPauseV I 0)), some (vI (rSilence I)), some (vI (rObject I (rSilence I))), y10, y11, y12, y13, y14, y15, y16, y17, y18, y19], [], A) := by
  have h53 : 0 ≤ I 53 0 ∧ I 53 0 ≤ 6 := ⟨(hI.1.1 53 0).1, hI.1.2.1⟩
  have en := hI.2.1
  have hs : rSq I ≤ 6 := by unfold rSq; omega
  have hu := rHandsUp_r hI.1.1
  have hus := rHandsUp_sq hI.1.1
  obtain ⟨hH, hT, -⟩ := W.hv
  refine w_aload (q := some (K + 1)) k233_1210 rfl ?_
  refine w_iconst k233_1211 ?_
  refine w_callv k233_1212 rfl rfl W.o rfl rfl rfl rfl (P31 (w := 4) hok W ⟨by decide, by decide⟩) (k_rq ?_) (fun E M1 h => absurd h (Rq_x E M1))
  intro r1 A1 hm1
  obtain ⟨⟨z1, hr1, hz1⟩, W1⟩ := hm1
  subst hr1
  have hz1 : z1 = rCount I 4 := hz1
  have e1 : rHandsUp I = z1 := (hz1.trans (ct_4)).symm
  subst e1
  show GP _ 233 (1215, [some (vR 0), some (vR (K + 1)), some (vR (K + 53)), some (vI nb), some (vL (smV I)), none, some (vI (rCount I 5)), some (vI (rPauseV I 0)), some (vI (rSilence I)), some (vI (rObject I (rSilence I))), y10, y11, y12, y13, y14, y15, y16, y17, y18, y19], [vI (rHandsUp I)], A1)
  refine w_istore (L' := [some (vR 0), some (vR (K + 1)), some (vR (K + 53)), some (vI nb), some (vL (smV I)), none, some (vI (rCount I 5)), some (vI (rPauseV I 0)), some (vI (rSilence I)), some (vI (rObject I (rSilence I))), some (vI (rHandsUp I)), y11, y12, y13, y14, y15, y16, y17, y18, y19]) k233_1215 rfl ?_
  refine w_iconst k233_1217 ?_
  refine w_istore (L' := [some (vR 0), some (vR (K + 1)), some (vR (K + 53)), some (vI nb), some (vL (smV I)), none, some (vI (rCount I 5)), some (vI (rPauseV I 0)), some (vI (rSilence I)), some (vI (rObject I (rSilence I))), some (vI (rHandsUp I)), some (vI 0), y12, y13, y14, y15, y16, y17, y18, y19]) k233_1218 rfl ?_
  refine w_iconst k233_1220 ?_
  refine w_istore (L' := [some (vR 0), some (vR (K + 1)), some (vR (K + 53)), some (vI nb), some (vL (smV I)), none, some (vI (rCount I 5)), some (vI (rPauseV I 0)), some (vI (rSilence I)), some (vI (rObject I (rSilence I))), some (vI (rHandsUp I)), some (vI 0), some (vI 0), y13, y14, y15, y16, y17, y18, y19]) k233_1221 rfl ?_
  refine ls_19r (j := j + 1) hok hI (rHandsUp I).toNat 0 (by omega) (SeenB.zero I) (W1.le (by omega)) (fun i z i2 y13 y14 y15 y16 y17 y18 y19 A2 hz ei W2 => ?_)
  obtain ⟨a, ha, hz1, hz2, -⟩ := hz
  refine w_iload (z := z) k233_1285 rfl ?_
  refine w_calls k233_1287 rfl rfl rfl rfl rfl rfl rfl (bit_ct (a := z)) (k_rt ?_) (fun E M1 h => absurd h (Rt_x E M1))
  show GP _ 233 (1290, [some (vR 0), some (vR (K + 1)), some (vR (K + 53)), some (vI nb), some (vL (smV I)), none, some (vI (rCount I 5)), some (vI (rPauseV I 0)), some (vI (rSilence I)), some (vI (rObject I (rSilence I))), some (vI (rHandsUp I)), some (vI z), some (vI i2), y13, y14, y15, y16, y17, y18, y19], [vI (bcF z)], A2)
  refine w_iload (z := rHandsUp I) k233_1290 rfl ?_
  refine w_icmpF k233_1292 (decide_eq_false (show ¬ ((bcF z : Int) ≠ (rHandsUp I : Int)) by omega)) ?_
  refine w_aload (q := some (K + 1)) k233_1295 rfl ?_
  refine w_iload (z := rHandsUp I) k233_1296 rfl ?_
  refine w_callv k233_1298 rfl rfl W2.o rfl rfl rfl rfl (P18 (i := rHandsUp I) hok W2 ⟨by omega, by omega⟩) (k_rq ?_) (fun E M1 h => absurd h (Rq_x E M1))
  intro r3 A3 hm3
  obtain ⟨⟨z3, hr3, hz3⟩, W3⟩ := hm3
  subst hr3
  have hz3 : z3 = rNext I (rHandsUp I) := hz3
  have e3 : -4 = z3 := (hz3.trans (next_no hI.1.1 hH)).symm
  subst e3
  show GP _ 233 (1301, [some (vR 0), some (vR (K + 1)), some (vR (K + 53)), some (vI nb), some (vL (smV I)), none, some (vI (rCount I 5)), some (vI (rPauseV I 0)), some (vI (rSilence I)), some (vI (rObject I (rSilence I))), some (vI (rHandsUp I)), some (vI z), some (vI i2), y13, y14, y15, y16, y17, y18, y19], [vI (-4)], A3)
  refine w_iconst k233_1301 ?_
  refine w_icmpF k233_1303 (decide_eq_false (show ¬ ((-4 : Int) ≠ (-4 : Int)) by decide)) ?_
  refine w_aload (q := some (K + 1)) k233_1306 rfl ?_
  refine w_iconst k233_1307 ?_
  refine w_callv k233_1308 rfl rfl W3.o rfl rfl rfl rfl (P19 (w := 1) hok W3 ⟨by decide, by decide⟩) (k_rq ?_) (fun E M1 h => absurd h (Rq_x E M1))
  intro r4 A4 hm4
  obtain ⟨⟨z4, hr4, hz4⟩, W4⟩ := hm4
  subst hr4
  have hz4 : z4 = rWaitV I 1 := hz4
  subst hz4
  show GP _ 233 (1311, [some (vR 0), some (vR (K + 1)), some (vR (K + 53)), some (vI nb), some (vL (smV I)), none, some (vI (rCount I 5)), some (vI (rPauseV I 0)), some (vI (rSilence I)), some (vI (rObject I (rSilence I))), some (vI (rHandsUp I)), some (vI z), some (vI i2), y13, y14, y15, y16, y17, y18, y19], [vI (rWaitV I 1)], A4)
  refine w_aload (q := some (K + 1)) k233_1311 rfl ?_
  refine w_iconst k233_1312 ?_
  refine w_callv k233_1313 rfl rfl W4.o rfl rfl rfl rfl (P19 (w := 0) hok W4 ⟨by decide, by decide⟩) (k_rq ?_) (fun E M1 h => absurd h (Rq_x E M1))
  intro r5 A5 hm5
  obtain ⟨⟨z5, hr5, hz5⟩, W5⟩ := hm5
  subst hr5
  have hz5 : z5 = rWaitV I 0 := hz5
  subst hz5
  show GP _ 233 (1316, [some (vR 0), some (vR (K + 1)), some (vR (K + 53)), some (vI nb), some (vL (smV I)), none, some (vI (rCount I 5)), some (vI (rPauseV I 0)), some (vI (rSilence I)), some (vI (rObject I (rSilence I))), some (vI (rHandsUp I)), some (vI z), some (vI i2), y13, y14, y15, y16, y17, y18, y19], [vI (rWaitV I 0), vI (rWaitV I 1)], A5)
  refine w_icmpF k233_1316 (decide_eq_false (show ¬ ((rWaitV I 0 : Int) < (rWaitV I 1 : Int)) from Int.not_lt.mpr wait_10)) ?_
  have w2 := wait_2 hI.1.1 hI.1.2.1 hH
  refine w_aload (q := some (K + 1)) k233_1319 rfl ?_
  refine w_iconst k233_1320 ?_
  refine w_callv k233_1321 rfl rfl W5.o rfl rfl rfl rfl (P19 (w := 2) hok W5 ⟨by decide, by decide⟩) (k_rq ?_) (fun E M1 h => absurd h (Rq_x E M1))
  intro r6 A6 hm6
  obtain ⟨⟨z6, hr6, hz6⟩, W6⟩ := hm6
  subst hr6
  have hz6 : z6 = rWaitV I 2 := hz6
  subst hz6
  show GP _ 233 (1324, [some (vR 0), some (vR (K + 1)), some (vR (K + 53)), some (vI nb), some (vL (smV I)), none, some (vI (rCount I 5)), some (vI (rPauseV I 0)), some (vI (rSilence I)), some (vI (rObject I (rSilence I))), some (vI (rHandsUp I)), some (vI z), some (vI i2), y13, y14, y15, y16, y17, y18, y19], [vI (rWaitV I 2)], A6)
  refine w_ifge (t' := 1331) k233_1324 rfl (fun h1 => ?_) (fun h1 => ?_)
  · have hn : rHandsUp I ≠ 0 := fun e => by have := w2.2 e; omega
    refine w_iconst k233_1331 ?_
    refine w_iload (z := rHandsUp I) k233_1332 rfl ?_
    refine w_ifT (t' := 1341) k233_1334 rfl (decide_eq_true (show (rHandsUp I : Int) ≠ (0 : Int) from hn)) ?_
    refine w_iconst k233_1341 ?_
    refine w_icmpT (t' := 1347) k233_1342 rfl (decide_eq_true (show (0 : Int) = (0 : Int) from rfl)) ?_
    refine w_iconst k233_1347 ?_
    refine w_istore (L' := [some (vR 0), some (vR (K + 1)), some (vR (K + 53)), some (vI nb), some (vL (smV I)), none, some (vI (rCount I 5)), some (vI (rPauseV I 0)), some (vI (rSilence I)), some (vI (rObject I (rSilence I))), some (vI (rHandsUp I)), some (vI z), some (vI 0), y13, y14, y15, y16, y17, y18, y19]) k233_1348 rfl ?_
    exact ih _ _ _ _ _ _ _ _ _ (W6.le (by omega))
  · have hn : rHandsUp I = 0 := by
      by_cases e : rHandsUp I = 0
      · exact e
      · exact absurd (w2.1 (by omega)) (fun h => h (by omega))
    refine w_iconst k233_1327 ?_
    refine w_goto (t' := 1332) k233_1328 rfl ?_
    refine w_iload (z := rHandsUp I) k233_1332 rfl ?_
    refine w_ifF k233_1334 (decide_eq_false (show ¬ ((rHandsUp I : Int) ≠ (0 : Int)) from fun h => h hn)) ?_
    refine w_iconst k233_1337 ?_
    refine w_goto (t' := 1342) k233_1338 rfl ?_
    refine w_icmpT (t' := 1347) k233_1342 rfl (decide_eq_true (show (1 : Int) = (1 : Int) from rfl)) ?_
    refine w_iconst k233_1347 ?_
    refine w_istore (L' := [some (vR 0), some (vR (K + 1)), some (vR (K + 53)), some (vI nb), some (vL (smV I)), none, some (vI (rCount I 5)), some (vI (rPauseV I 0)), some (vI (rSilence I)), some (vI (rObject I (rSilence I))), some (vI (rHandsUp I)), some (vI z), some (vI 0), y13, y14, y15, y16, y17, y18, y19]) k233_1348 rfl ?_
    exact ih _ _ _ _ _ _ _ _ _ (W6.le (by omega))
theorem ls_20a (hok : ∀ y pc, okE y pc (cd y pc) = true) {K L j : Nat} {X : Nat → Int} {I u x : Im} {nb : Int} {A : Mm} (W : WA K 1 L X I u x nb j A) (hI : Wd I nb) {q : Nat} (hqn : (q : Int) < nb) (hX : XI x I) {s11 : Int} {y13 y14 y15 y16 y17 y18 y19 : Option AV} (ht : I 58 q = 0) (ih : ∀ (y13 : Option AV) (A1 : Mm), WA K 1 L X I u x nb (j + 20) A1 → GP LPp 233 (1350, [some (vR 0), some (vR (K + 1)), some (vR (K + 53)), some (vI nb), some (vL (smV I)), none, some (vI (rCount I 5)), some (vI (rPauseV I 0)), some (vI (rSilence I)), some (vI (rObject I (rSilence I))), some (vI (rHandsUp I)), some (vI s11), some (vI (((q + 1 : Nat) : Int))), y13, y14, y15, y16, y17, y18, y19], [], A1)) : GP LPp 233 (1356, [some (vR 0), some (vR (K + 1)), some (vR (K + 53)), some (vI nb), some (vL (smV I)), none, some (vI (rCount I 5)), some (vI (rPauseV I 0)), some (vI (rSilence I)), some (vI (rObject I (rSilence I))), some (vI (rHandsUp I)), some (vI s11), some (vI ((q : Int))), y13, y14, y15, y16, y17, y18, y19], [], A) := by
  have h53 : 0 ≤ I 53 0 ∧ I 53 0 ≤ 6 := ⟨(hI.1.1 53 0).1, hI.1.2.1⟩
  have en := hI.2.1
  have hs : rSq I ≤ 6 := by unfold rSq; omega
  have hu := rHandsUp_r hI.1.1
  have hus := rHandsUp_sq hI.1.1
  obtain ⟨hH, hT, -⟩ := W.hv
  have hq : q < rSq I := by unfold rSq; omega
  have his := is_q hI.1.1 hq
  have h59 : (0 : Int) ≤ I 59 q := (hI.1.1 59 q).1
  refine w_aload (q := some (K + 1)) k233_1356 rfl ?_
  refine w_iload (z := (q : Int)) k233_1357 rfl ?_
  refine w_iconst k233_1359 ?_
  refine w_callv k233_1360 rfl rfl W.o rfl rfl rfl rfl (P2 (q := (q : Int)) (w := 4) hok W ⟨by omega, by omega⟩ ⟨by decide, by decide⟩) (k_rq ?_) (fun E M1 h => absurd h (Rq_x E M1))
  intro r1 A1 hm1
  obtain ⟨⟨z1, hr1, hz1⟩, W1⟩ := hm1
  subst hr1
  have hz1 : z1 = rSquare I (q : Int) 4 := hz1
  have e1 : 0 = z1 := (hz1.trans ((sq_4 his).trans (if_pos ht))).symm
  subst e1
  show GP _ 233 (1363, [some (vR 0), some (vR (K + 1)), some (vR (K + 53)), some (vI nb), some (vL (smV I)), none, some (vI (rCount I 5)), some (vI (rPauseV I 0)), some (vI (rSilence I)), some (vI (rObject I (rSilence I))), some (vI (rHandsUp I)), some (vI s11), some (vI ((q : Int))), y13, y14, y15, y16, y17, y18, y19], [vI 0], A1)
  refine w_ifF k233_1363 (decide_eq_false (show ¬ ((0 : Int) ≠ (0 : Int)) by decide)) ?_
  refine w_goto (t' := 1464) k233_1366 rfl ?_
  refine w_iinc (x := (q : Int)) (x' := ((q + 1 : Nat) : Int)) (L' := [some (vR 0), some (vR (K + 1)), some (vR (K + 53)), some (vI nb), some (vL (smV I)), none, some (vI (rCount I 5)), some (vI (rPauseV I 0)), some (vI (rSilence I)), some (vI (rObject I (rSilence I))), some (vI (rHandsUp I)), some (vI s11), some (vI (((q + 1 : Nat) : Int))), y13, y14, y15, y16, y17, y18, y19]) k233_1464 rfl (wrap_of (by omega) (by omega)) rfl ?_
  refine w_goto (t' := 1350) k233_1467 rfl ?_
  exact ih _ _ (W1.le (by omega))
theorem ls_20w (hok : ∀ y pc, okE y pc (cd y pc) = true) {K L j : Nat} {X : Nat → Int} {I u x : Im} {nb : Int} {A : Mm} (W : WA K 1 L X I u x nb j A) (hI : Wd I nb) {q : Nat} (hqn : (q : Int) < nb) (hX : XI x I) {s11 : Int} {y13 y14 y15 y16 y17 y18 y19 : Option AV} (ht : I 58 q ≠ 0) (hw : 0 < I 59 q) (ih : ∀ (y13 : Option AV) (A1 : Mm), WA K 1 L X I u x nb (j + 20) A1 → GP LPp 233 (1350, [some (vR 0), some (vR (K + 1)), some (vR (K + 53)), some (vI nb), some (vL (smV I)), none, some (vI (rCount I 5)), some (vI (rPauseV I 0)), some (vI (rSilence I)), some (vI (rObject I (rSilence I))), some (vI (rHandsUp I)), some (vI s11), some (vI (((q + 1 : Nat) : Int))), y13, y14, y15, y16, y17, y18, y19], [], A1)) : GP LPp 233 (1356, [some (vR 0), some (vR (K + 1)), some (vR (K + 53)), some (vI nb), some (vL (smV I)), none, some (vI (rCount I 5)), some (vI (rPauseV I 0)), some (vI (rSilence I)), some (vI (rObject I (rSilence I))), some (vI (rHandsUp I)), some (vI s11), some (vI ((q : Int))), y13, y14, y15, y16, y17, y18, y19], [], A) := by
  have h53 : 0 ≤ I 53 0 ∧ I 53 0 ≤ 6 := ⟨(hI.1.1 53 0).1, hI.1.2.1⟩
  have en := hI.2.1
  have hs : rSq I ≤ 6 := by unfold rSq; omega
  have hu := rHandsUp_r hI.1.1
  have hus := rHandsUp_sq hI.1.1
  obtain ⟨hH, hT, -⟩ := W.hv
  have hq : q < rSq I := by unfold rSq; omega
  have his := is_q hI.1.1 hq
  have h59 : (0 : Int) ≤ I 59 q := (hI.1.1 59 q).1
  obtain ⟨b1, b2, b3⟩ := hands_y hI.1.1 hI.1.2.1 hH hq ht hw
  refine w_aload (q := some (K + 1)) k233_1356 rfl ?_
  refine w_iload (z := (q : Int)) k233_1357 rfl ?_
  refine w_iconst k233_1359 ?_
  refine w_callv k233_1360 rfl rfl W.o rfl rfl rfl rfl (P2 (q := (q : Int)) (w := 4) hok W ⟨by omega, by omega⟩ ⟨by decide, by decide⟩) (k_rq ?_) (fun E M1 h => absurd h (Rq_x E M1))
  intro r1 A1 hm1
  obtain ⟨⟨z1, hr1, hz1⟩, W1⟩ := hm1
  subst hr1
  have hz1 : z1 = rSquare I (q : Int) 4 := hz1
  have e1 : 1 = z1 := (hz1.trans ((sq_4 his).trans (if_neg ht))).symm
  subst e1
  show GP _ 233 (1363, [some (vR 0), some (vR (K + 1)), some (vR (K + 53)), some (vI nb), some (vL (smV I)), none, some (vI (rCount I 5)), some (vI (rPauseV I 0)), some (vI (rSilence I)), some (vI (rObject I (rSilence I))), some (vI (rHandsUp I)), some (vI s11), some (vI ((q : Int))), y13, y14, y15, y16, y17, y18, y19], [vI 1], A1)
  refine w_ifT (t' := 1369) k233_1363 rfl (decide_eq_true (show (1 : Int) ≠ (0 : Int) by decide)) ?_
  refine w_aload (q := some (K + 1)) k233_1369 rfl ?_
  refine w_iload (z := (q : Int)) k233_1370 rfl ?_
  refine w_iconst k233_1372 ?_
  refine w_callv k233_1373 rfl rfl W1.o rfl rfl rfl rfl (P2 (q := (q : Int)) (w := 5) hok W1 ⟨by omega, by omega⟩ ⟨by decide, by decide⟩) (k_rq ?_) (fun E M1 h => absurd h (Rq_x E M1))
  intro r2 A2 hm2
  obtain ⟨⟨z2, hr2, hz2⟩, W2⟩ := hm2
  subst hr2
  have hz2 : z2 = rSquare I (q : Int) 5 := hz2
  have e2 : I 59 q = z2 := (hz2.trans (sq_5 his)).symm
  subst e2
  show GP _ 233 (1376, [some (vR 0), some (vR (K + 1)), some (vR (K + 53)), some (vI nb), some (vL (smV I)), none, some (vI (rCount I 5)), some (vI (rPauseV I 0)), some (vI (rSilence I)), some (vI (rObject I (rSilence I))), some (vI (rHandsUp I)), some (vI s11), some (vI ((q : Int))), y13, y14, y15, y16, y17, y18, y19], [vI (I 59 q)], A2)
  refine w_ifF k233_1376 (decide_eq_false (show ¬ ((I 59 q : Int) ≤ (0 : Int)) by omega)) ?_
  refine w_iconst k233_1379 ?_
  refine w_goto (t' := 1384) k233_1380 rfl ?_
  refine w_istore (L' := [some (vR 0), some (vR (K + 1)), some (vR (K + 53)), some (vI nb), some (vL (smV I)), none, some (vI (rCount I 5)), some (vI (rPauseV I 0)), some (vI (rSilence I)), some (vI (rObject I (rSilence I))), some (vI (rHandsUp I)), some (vI s11), some (vI ((q : Int))), some (vI 1), y14, y15, y16, y17, y18, y19]) k233_1384 rfl ?_
  refine w_aload (q := some (K + 1)) k233_1386 rfl ?_
  refine w_iload (z := (q : Int)) k233_1387 rfl ?_
  refine w_callv k233_1389 rfl rfl W2.o rfl rfl rfl rfl (P6v (q := (q : Int)) hok W2 ⟨by omega, by omega⟩) (k_rq ?_) (fun E M1 h => absurd h (Rq_x E M1))
  intro r3 A3 hm3
  obtain ⟨⟨z3, hr3, hz3⟩, W3⟩ := hm3
  subst hr3
  have hz3 : z3 = rHandsV I (q : Int) := hz3
  have e3 : rHandsUp I - 1 = z3 := (hz3.trans (b1)).symm
  subst e3
  show GP _ 233 (1392, [some (vR 0), some (vR (K + 1)), some (vR (K + 53)), some (vI nb), some (vL (smV I)), none, some (vI (rCount I 5)), some (vI (rPauseV I 0)), some (vI (rSilence I)), some (vI (rObject I (rSilence I))), some (vI (rHandsUp I)), some (vI s11), some (vI ((q : Int))), some (vI 1), y14, y15, y16, y17, y18, y19], [vI (rHandsUp I - 1)], A3)
  refine w_iload (z := rHandsUp I) k233_1392 rfl ?_
  refine w_iload (z := 1) k233_1394 rfl ?_
  refine w_ifF k233_1396 (decide_eq_false (show ¬ ((1 : Int) = (0 : Int)) by decide)) ?_
  refine w_iconst k233_1399 ?_
  refine w_goto (t' := 1404) k233_1400 rfl ?_
  refine w_iadd (x := rHandsUp I - 1) k233_1404 (by rw [wrap_of (by omega) (by omega)]; omega) ?_
  refine w_icmpF k233_1405 (decide_eq_false (show ¬ ((rHandsUp I - 1 : Int) ≠ (rHandsUp I - 1 : Int)) from fun h => h rfl)) ?_
  refine w_iload (z := 1) k233_1408 rfl ?_
  refine w_ifT (t' := 1424) k233_1410 rfl (decide_eq_true (show (1 : Int) ≠ (0 : Int) by decide)) ?_
  refine w_aload (q := some (K + 1)) k233_1424 rfl ?_
  refine w_iload (z := (q : Int)) k233_1425 rfl ?_
  refine w_callv k233_1427 rfl rfl W3.o rfl rfl rfl rfl (P6v (q := (q : Int)) hok W3 ⟨by omega, by omega⟩) (k_rq ?_) (fun E M1 h => absurd h (Rq_x E M1))
  intro r4 A4 hm4
  obtain ⟨⟨z4, hr4, hz4⟩, W4⟩ := hm4
  subst hr4
  have hz4 : z4 = rHandsV (rHandsI I (q : Int)) (q : Int) := hz4
  have e4 : rHandsUp I = z4 := (hz4.trans (b2)).symm
  subst e4
  show GP _ 233 (1430, [some (vR 0), some (vR (K + 1)), some (vR (K + 53)), some (vI nb), some (vL (smV I)), none, some (vI (rCount I 5)), some (vI (rPauseV I 0)), some (vI (rSilence I)), some (vI (rObject I (rSilence I))), some (vI (rHandsUp I)), some (vI s11), some (vI ((q : Int))), some (vI 1), y14, y15, y16, y17, y18, y19], [vI (rHandsUp I)], A4)
  refine w_iload (z := rHandsUp I) k233_1430 rfl ?_
  refine w_icmpF k233_1432 (decide_eq_false (show ¬ ((rHandsUp I : Int) ≠ (rHandsUp I : Int)) from fun h => h rfl)) ?_
  refine w_iload (z := 1) k233_1435 rfl ?_
  refine w_ifF k233_1437 (decide_eq_false (show ¬ ((1 : Int) = (0 : Int)) by decide)) ?_
  refine w_aload (q := some (K + 1)) k233_1440 rfl ?_
  refine w_iload (z := rHandsUp I) k233_1441 rfl ?_
  refine w_iconst k233_1443 ?_
  refine w_isub (x := rHandsUp I - 1) k233_1444 (wrap_of (by omega) (by omega)) ?_
  refine w_callv k233_1445 rfl rfl W4.o rfl rfl rfl rfl (P18 (i := rHandsUp I - 1) hok W4 ⟨by omega, by omega⟩) (k_rq ?_) (fun E M1 h => absurd h (Rq_x E M1))
  intro r5 A5 hm5
  obtain ⟨⟨z5, hr5, hz5⟩, W5⟩ := hm5
  subst hr5
  have hz5 : z5 = rNext (rHandsI (rHandsI I (q : Int)) (q : Int)) (rHandsUp I - 1) := hz5
  have e5 : (q : Int) = z5 := (hz5.trans (b3)).symm
  subst e5
  show GP _ 233 (1448, [some (vR 0), some (vR (K + 1)), some (vR (K + 53)), some (vI nb), some (vL (smV I)), none, some (vI (rCount I 5)), some (vI (rPauseV I 0)), some (vI (rSilence I)), some (vI (rObject I (rSilence I))), some (vI (rHandsUp I)), some (vI s11), some (vI ((q : Int))), some (vI 1), y14, y15, y16, y17, y18, y19], [vI ((q : Int))], A5)
  refine w_iload (z := (q : Int)) k233_1448 rfl ?_
  refine w_icmpT (t' := 1455) k233_1450 rfl (decide_eq_true (show ((q : Int) : Int) = ((q : Int) : Int) from rfl)) ?_
  refine w_aload (q := some (K + 1)) k233_1455 rfl ?_
  refine w_callv k233_1456 rfl rfl W5.o rfl rfl rfl rfl (P30v hok W5 (J := I) hX.1 hI.1.1 hX.2.2) (k_rq ?_) (fun E M1 h => absurd h (Rq_x E M1))
  intro r6 A6 hm6
  obtain ⟨⟨z6, hr6, hz6⟩, W6⟩ := hm6
  subst hr6
  have hz6 : z6 = x 53 8 := hz6
  have e6 : 0 = z6 := (hz6.trans (hX.2.1)).symm
  subst e6
  show GP _ 233 (1459, [some (vR 0), some (vR (K + 1)), some (vR (K + 53)), some (vI nb), some (vL (smV I)), none, some (vI (rCount I 5)), some (vI (rPauseV I 0)), some (vI (rSilence I)), some (vI (rObject I (rSilence I))), some (vI (rHandsUp I)), some (vI s11), some (vI ((q : Int))), some (vI 1), y14, y15, y16, y17, y18, y19], [vI 0], A6)
  refine w_ifT (t' := 1464) k233_1459 rfl (decide_eq_true (show (0 : Int) = (0 : Int) from rfl)) ?_
  refine w_iinc (x := (q : Int)) (x' := ((q + 1 : Nat) : Int)) (L' := [some (vR 0), some (vR (K + 1)), some (vR (K + 53)), some (vI nb), some (vL (smV I)), none, some (vI (rCount I 5)), some (vI (rPauseV I 0)), some (vI (rSilence I)), some (vI (rObject I (rSilence I))), some (vI (rHandsUp I)), some (vI s11), some (vI (((q + 1 : Nat) : Int))), some (vI 1), y14, y15, y16, y17, y18, y19]) k233_1464 rfl (wrap_of (by omega) (by omega)) rfl ?_
  refine w_goto (t' := 1350) k233_1467 rfl ?_
  exact ih _ _ (W6.le (by omega))
theorem ls_20n (hok : ∀ y pc, okE y pc (cd y pc) = true) {K L j : Nat} {X : Nat → Int} {I u x : Im} {nb : Int} {A : Mm} (W : WA K 1 L X I u x nb j A) (hI : Wd I nb) {q : Nat} (hqn : (q : Int) < nb) (hX : XI x I) {s11 : Int} {y13 y14 y15 y16 y17 y18 y19 : Option AV} (ht : I 58 q ≠ 0) (hw : I 59 q = 0) (ih : ∀ (y13 : Option AV) (A1 : Mm), WA K 1 L X I u x nb (j + 20) A1 → GP LPp 233 (1350, [some (vR 0), some (vR (K + 1)), some (vR (K + 53)), some (vI nb), some (vL (smV I)), none, some (vI (rCount I 5)), some (vI (rPauseV I 0)), some (vI (rSilence I)), some (vI (rObject I (rSilence I))), some (vI (rHandsUp I)), some (vI s11), some (vI (((q + 1 : Nat) : Int))), y13, y14, y15, y16, y17, y18, y19], [], A1)) : GP LPp 233 (1356, [some (vR 0), some (vR (K + 1)), some (vR (K + 53)), some (vI nb), some (vL (smV I)), none, some (vI (rCount I 5)), some (vI (rPauseV I 0)), some (vI (rSilence I)), some (vI (rObject I (rSilence I))), some (vI (rHandsUp I)), some (vI s11), some (vI ((q : Int))), y13, y14, y15, y16, y17, y18, y19], [], A) := by
  have h53 : 0 ≤ I 53 0 ∧ I 53 0 ≤ 6 := ⟨(hI.1.1 53 0).1, hI.1.2.1⟩
  have en := hI.2.1
  have hs : rSq I ≤ 6 := by unfold rSq; omega
  have hu := rHandsUp_r hI.1.1
  have hus := rHandsUp_sq hI.1.1
  obtain ⟨hH, hT, -⟩ := W.hv
  have hq : q < rSq I := by unfold rSq; omega
  have his := is_q hI.1.1 hq
  have h59 : (0 : Int) ≤ I 59 q := (hI.1.1 59 q).1
  obtain ⟨b1, b2, b3⟩ := hands_n hI.1.1 hI.1.2.1 hH hq ht hw
  refine w_aload (q := some (K + 1)) k233_1356 rfl ?_
  refine w_iload (z := (q : Int)) k233_1357 rfl ?_
  refine w_iconst k233_1359 ?_
  refine w_callv k233_1360 rfl rfl W.o rfl rfl rfl rfl (P2 (q := (q : Int)) (w := 4) hok W ⟨by omega, by omega⟩ ⟨by decide, by decide⟩) (k_rq ?_) (fun E M1 h => absurd h (Rq_x E M1))
  intro r1 A1 hm1
  obtain ⟨⟨z1, hr1, hz1⟩, W1⟩ := hm1
  subst hr1
  have hz1 : z1 = rSquare I (q : Int) 4 := hz1
  have e1 : 1 = z1 := (hz1.trans ((sq_4 his).trans (if_neg ht))).symm
  subst e1
  show GP _ 233 (1363, [some (vR 0), some (vR (K + 1)), some (vR (K + 53)), some (vI nb), some (vL (smV I)), none, some (vI (rCount I 5)), some (vI (rPauseV I 0)), some (vI (rSilence I)), some (vI (rObject I (rSilence I))), some (vI (rHandsUp I)), some (vI s11), some (vI ((q : Int))), y13, y14, y15, y16, y17, y18, y19], [vI 1], A1)
  refine w_ifT (t' := 1369) k233_1363 rfl (decide_eq_true (show (1 : Int) ≠ (0 : Int) by decide)) ?_
  refine w_aload (q := some (K + 1)) k233_1369 rfl ?_
  refine w_iload (z := (q : Int)) k233_1370 rfl ?_
  refine w_iconst k233_1372 ?_
  refine w_callv k233_1373 rfl rfl W1.o rfl rfl rfl rfl (P2 (q := (q : Int)) (w := 5) hok W1 ⟨by omega, by omega⟩ ⟨by decide, by decide⟩) (k_rq ?_) (fun E M1 h => absurd h (Rq_x E M1))
  intro r2 A2 hm2
  obtain ⟨⟨z2, hr2, hz2⟩, W2⟩ := hm2
  subst hr2
  have hz2 : z2 = rSquare I (q : Int) 5 := hz2
  have e2 : I 59 q = z2 := (hz2.trans (sq_5 his)).symm
  subst e2
  show GP _ 233 (1376, [some (vR 0), some (vR (K + 1)), some (vR (K + 53)), some (vI nb), some (vL (smV I)), none, some (vI (rCount I 5)), some (vI (rPauseV I 0)), some (vI (rSilence I)), some (vI (rObject I (rSilence I))), some (vI (rHandsUp I)), some (vI s11), some (vI ((q : Int))), y13, y14, y15, y16, y17, y18, y19], [vI (I 59 q)], A2)
  refine w_ifT (t' := 1383) k233_1376 rfl (decide_eq_true (show (I 59 q : Int) ≤ (0 : Int) by omega)) ?_
  refine w_iconst k233_1383 ?_
  refine w_istore (L' := [some (vR 0), some (vR (K + 1)), some (vR (K + 53)), some (vI nb), some (vL (smV I)), none, some (vI (rCount I 5)), some (vI (rPauseV I 0)), some (vI (rSilence I)), some (vI (rObject I (rSilence I))), some (vI (rHandsUp I)), some (vI s11), some (vI ((q : Int))), some (vI 0), y14, y15, y16, y17, y18, y19]) k233_1384 rfl ?_
  refine w_aload (q := some (K + 1)) k233_1386 rfl ?_
  refine w_iload (z := (q : Int)) k233_1387 rfl ?_
  refine w_callv k233_1389 rfl rfl W2.o rfl rfl rfl rfl (P6v (q := (q : Int)) hok W2 ⟨by omega, by omega⟩) (k_rq ?_) (fun E M1 h => absurd h (Rq_x E M1))
  intro r3 A3 hm3
  obtain ⟨⟨z3, hr3, hz3⟩, W3⟩ := hm3
  subst hr3
  have hz3 : z3 = rHandsV I (q : Int) := hz3
  have e3 : rHandsUp I + 1 = z3 := (hz3.trans (b1)).symm
  subst e3
  show GP _ 233 (1392, [some (vR 0), some (vR (K + 1)), some (vR (K + 53)), some (vI nb), some (vL (smV I)), none, some (vI (rCount I 5)), some (vI (rPauseV I 0)), some (vI (rSilence I)), some (vI (rObject I (rSilence I))), some (vI (rHandsUp I)), some (vI s11), some (vI ((q : Int))), some (vI 0), y14, y15, y16, y17, y18, y19], [vI (rHandsUp I + 1)], A3)
  refine w_iload (z := rHandsUp I) k233_1392 rfl ?_
  refine w_iload (z := 0) k233_1394 rfl ?_
  refine w_ifT (t' := 1403) k233_1396 rfl (decide_eq_true (show (0 : Int) = (0 : Int) from rfl)) ?_
  refine w_iconst k233_1403 ?_
  refine w_iadd (x := rHandsUp I + 1) k233_1404 (wrap_of (by omega) (by omega)) ?_
  refine w_icmpF k233_1405 (decide_eq_false (show ¬ ((rHandsUp I + 1 : Int) ≠ (rHandsUp I + 1 : Int)) from fun h => h rfl)) ?_
  refine w_iload (z := 0) k233_1408 rfl ?_
  refine w_ifF k233_1410 (decide_eq_false (show ¬ ((0 : Int) ≠ (0 : Int)) by decide)) ?_
  refine w_aload (q := some (K + 1)) k233_1413 rfl ?_
  refine w_iload (z := rHandsUp I) k233_1414 rfl ?_
  refine w_callv k233_1416 rfl rfl W3.o rfl rfl rfl rfl (P18 (i := rHandsUp I) hok W3 ⟨by omega, by omega⟩) (k_rq ?_) (fun E M1 h => absurd h (Rq_x E M1))
  intro r4 A4 hm4
  obtain ⟨⟨z4, hr4, hz4⟩, W4⟩ := hm4
  subst hr4
  have hz4 : z4 = rNext (rHandsI I (q : Int)) (rHandsUp I) := hz4
  have e4 : (q : Int) = z4 := (hz4.trans (b2)).symm
  subst e4
  show GP _ 233 (1419, [some (vR 0), some (vR (K + 1)), some (vR (K + 53)), some (vI nb), some (vL (smV I)), none, some (vI (rCount I 5)), some (vI (rPauseV I 0)), some (vI (rSilence I)), some (vI (rObject I (rSilence I))), some (vI (rHandsUp I)), some (vI s11), some (vI ((q : Int))), some (vI 0), y14, y15, y16, y17, y18, y19], [vI ((q : Int))], A4)
  refine w_iload (z := (q : Int)) k233_1419 rfl ?_
  refine w_icmpF k233_1421 (decide_eq_false (show ¬ (((q : Int) : Int) ≠ ((q : Int) : Int)) from fun h => h rfl)) ?_
  refine w_aload (q := some (K + 1)) k233_1424 rfl ?_
  refine w_iload (z := (q : Int)) k233_1425 rfl ?_
  refine w_callv k233_1427 rfl rfl W4.o rfl rfl rfl rfl (P6v (q := (q : Int)) hok W4 ⟨by omega, by omega⟩) (k_rq ?_) (fun E M1 h => absurd h (Rq_x E M1))
  intro r5 A5 hm5
  obtain ⟨⟨z5, hr5, hz5⟩, W5⟩ := hm5
  subst hr5
  have hz5 : z5 = rHandsV (rHandsI I (q : Int)) (q : Int) := hz5
  have e5 : rHandsUp I = z5 := (hz5.trans (b3)).symm
  subst e5
  show GP _ 233 (1430, [some (vR 0), some (vR (K + 1)), some (vR (K + 53)), some (vI nb), some (vL (smV I)), none, some (vI (rCount I 5)), some (vI (rPauseV I 0)), some (vI (rSilence I)), some (vI (rObject I (rSilence I))), some (vI (rHandsUp I)), some (vI s11), some (vI ((q : Int))), some (vI 0), y14, y15, y16, y17, y18, y19], [vI (rHandsUp I)], A5)
  refine w_iload (z := rHandsUp I) k233_1430 rfl ?_
  refine w_icmpF k233_1432 (decide_eq_false (show ¬ ((rHandsUp I : Int) ≠ (rHandsUp I : Int)) from fun h => h rfl)) ?_
  refine w_iload (z := 0) k233_1435 rfl ?_
  refine w_ifT (t' := 1455) k233_1437 rfl (decide_eq_true (show (0 : Int) = (0 : Int) from rfl)) ?_
  refine w_aload (q := some (K + 1)) k233_1455 rfl ?_
  refine w_callv k233_1456 rfl rfl W5.o rfl rfl rfl rfl (P30v hok W5 (J := I) hX.1 hI.1.1 hX.2.2) (k_rq ?_) (fun E M1 h => absurd h (Rq_x E M1))
  intro r6 A6 hm6
  obtain ⟨⟨z6, hr6, hz6⟩, W6⟩ := hm6
  subst hr6
  have hz6 : z6 = x 53 8 := hz6
  have e6 : 0 = z6 := (hz6.trans (hX.2.1)).symm
  subst e6
  show GP _ 233 (1459, [some (vR 0), some (vR (K + 1)), some (vR (K + 53)), some (vI nb), some (vL (smV I)), none, some (vI (rCount I 5)), some (vI (rPauseV I 0)), some (vI (rSilence I)), some (vI (rObject I (rSilence I))), some (vI (rHandsUp I)), some (vI s11), some (vI ((q : Int))), some (vI 0), y14, y15, y16, y17, y18, y19], [vI 0], A6)
  refine w_ifT (t' := 1464) k233_1459 rfl (decide_eq_true (show (0 : Int) = (0 : Int) from rfl)) ?_
  refine w_iinc (x := (q : Int)) (x' := ((q + 1 : Nat) : Int)) (L' := [some (vR 0), some (vR (K + 1)), some (vR (K + 53)), some (vI nb), some (vL (smV I)), none, some (vI (rCount I 5)), some (vI (rPauseV I 0)), some (vI (rSilence I)), some (vI (rObject I (rSilence I))), some (vI (rHandsUp I)), some (vI s11), some (vI (((q + 1 : Nat) : Int))), some (vI 0), y14, y15, y16, y17, y18, y19]) k233_1464 rfl (wrap_of (by omega) (by omega)) rfl ?_
  refine w_goto (t' := 1350) k233_1467 rfl ?_
  exact ih _ _ (W6.le (by omega))
theorem ls_20 (hok : ∀ y pc, okE y pc (cd y pc) = true) {K L j : Nat} {X : Nat → Int} {I u x : Im} {nb : Int} (hI : Wd I nb) (hX : XI x I) {s11 : Int} : ∀ (n q : Nat) (_ : (n : Int) + (q : Int) = nb) {A : Mm} {y13 y14 y15 y16 y17 y18 y19 : Option AV} (W : WA K 1 L X I u x nb (j + 20 * q) A) (ih : ∀ (z : Int) (y13 : Option AV) (A1 : Mm), WA K 1 L X I u x nb (j + 120) A1 → GP LPp 233 (1470, [some (vR 0), some (vR (K + 1)), some (vR (K + 53)), some (vI nb), some (vL (smV I)), none, some (vI (rCount I 5)), some (vI (rPauseV I 0)), some (vI (rSilence I)), some (vI (rObject I (rSilence I))), some (vI (rHandsUp I)), some (vI s11), some (vI z), y13, y14, y15, y16, y17, y18, y19], [], A1)), GP LPp 233 (1350, [some (vR 0), some (vR (K + 1)), some (vR (K + 53)), some (vI nb), some (vL (smV I)), none, some (vI (rCount I 5)), some (vI (rPauseV I 0)), some (vI (rSilence I)), some (vI (rObject I (rSilence I))), some (vI (rHandsUp I)), some (vI s11), some (vI ((q : Int))), y13, y14, y15, y16, y17, y18, y19], [], A)
  | 0, q, hq, A, y13, y14, y15, y16, y17, y18, y19, W, ih => by
    refine w_iload (z := (q : Int)) k233_1350 rfl ?_
    refine w_iload (z := nb) k233_1352 rfl ?_
    have h6 : nb ≤ 6 := by have := hI.1.2.1; have := hI.2.1; omega
    refine w_icmpT (t' := 1470) k233_1353 rfl (decide_eq_true (show (nb : Int) ≤ ((q : Int) : Int) by omega)) ?_
    exact ih _ _ _ (W.le (by omega))
  | n + 1, q, hq, A, y13, y14, y15, y16, y17, y18, y19, W, ih => by
    refine w_iload (z := (q : Int)) k233_1350 rfl ?_
    refine w_iload (z := nb) k233_1352 rfl ?_
    refine w_icmpF k233_1353 (decide_eq_false (show ¬ ((nb : Int) ≤ ((q : Int) : Int)) by omega)) ?_
    have hqn : (q : Int) < nb := by omega
    have h59 : (0 : Int) ≤ I 59 q := (hI.1.1 59 q).1
    have ih2 : ∀ (y13 : Option AV) (A1 : Mm), WA K 1 L X I u x nb (j + 20 * q + 20) A1 → GP LPp 233 (1350, [some (vR 0), some (vR (K + 1)), some (vR (K + 53)), some (vI nb), some (vL (smV I)), none, some (vI (rCount I 5)), some (vI (rPauseV I 0)), some (vI (rSilence I)), some (vI (rObject I (rSilence I))), some (vI (rHandsUp I)), some (vI s11), some (vI (((q + 1 : Nat) : Int))), y13, y14, y15, y16, y17, y18, y19], [], A1) := fun y13 A1 W1 => ls_20 hok hI hX n (q + 1) (by omega) (W1.le (by omega)) ih
    by_cases ht : I 58 q = 0
    · exact ls_20a hok W hI hqn hX ht ih2
    · by_cases hw : 0 < I 59 q
      · exact ls_20w hok W hI hqn hX ht hw ih2
      · exact ls_20n hok W hI hqn hX ht (by omega) ih2
theorem ls_21n (hok : ∀ y pc, okE y pc (cd y pc) = true) {K L j : Nat} {X : Nat → Int} {I u x : Im} {nb : Int} {A : Mm} (W : WA K 1 L X I u x nb j A) (hI : Wd I nb) {s11 : Int} {y12 y13 y14 y15 y16 y17 y18 y19 : Option AV} (hp : rPauses I 53 9 = -4 ∧ rPauses I 53 10 = -4 ∧ rPauses I 53 11 = -4) (ih : ∀ (b12 : Int) (A1 : Mm), WA K 1 L X I u x nb (j + 300) A1 → GP LPp 233 (1515, [some (vR 0), some (vR (K + 1)), some (vR (K + 53)), some (vI nb), some (vL (smV I)), none, some (vI (rCount I 5)), some (vI (rPauseV I 0)), some (vI (rSilence I)), some (vI (rObject I (rSilence I))), some (vI (rHandsUp I)), some (vI s11), some (vI b12), some (vI (((0 : Nat) : Int))), y14, y15, y16, y17, y18, y19], [], A1)) : GP LPp 233 (1470, [some (vR 0), some (vR (K + 1)), some (vR (K + 53)), some (vI nb), some (vL (smV I)), none, some (vI (rCount I 5)), some (vI (rPauseV I 0)), some (vI (rSilence I)), some (vI (rObject I (rSilence I))), some (vI (rHandsUp I)), some (vI s11), y12, y13, y14, y15, y16, y17, y18, y19], [], A) := by
  have h53 : 0 ≤ I 53 0 ∧ I 53 0 ≤ 6 := ⟨(hI.1.1 53 0).1, hI.1.2.1⟩
  have en := hI.2.1
  have hs : rSq I ≤ 6 := by unfold rSq; omega
  obtain ⟨d1, d2⟩ := bears_0 (v := I) (g := 3) (by decide)
  refine w_aload (q := some (K + 1)) k233_1470 rfl ?_
  refine w_calls k233_1471 rfl rfl rfl rfl rfl rfl rfl (sums_ct hok h53 W) (k_rq ?_) (fun E M1 h => absurd h (Rq_x E M1))
  intro r1 A1 hm1
  obtain ⟨hr1, W1⟩ := hm1
  subst hr1
  show GP _ 233 (1474, [some (vR 0), some (vR (K + 1)), some (vR (K + 53)), some (vI nb), some (vL (smV I)), none, some (vI (rCount I 5)), some (vI (rPauseV I 0)), some (vI (rSilence I)), some (vI (rObject I (rSilence I))), some (vI (rHandsUp I)), some (vI s11), y12, y13, y14, y15, y16, y17, y18, y19], [vL (smV I)], A1)
  refine w_lload (z := smV I) k233_1474 rfl ?_
  refine w_lcmp_eq k233_1476 rfl ?_
  refine w_ifT (t' := 1482) k233_1477 rfl (decide_eq_true (show (0 : Int) = 0 by decide)) ?_
  have hs9 : rPauseV I 0 = -4 := pv0.trans hp.1
  refine w_aload (q := some (K + 1)) k233_1482 rfl ?_
  refine w_iconst k233_1483 ?_
  refine w_iconst k233_1484 ?_
  refine w_callv k233_1485 rfl rfl W1.o rfl rfl rfl rfl (P24 (g := 3) (w := 0) hok W1 ⟨by decide, by decide⟩ ⟨by decide, by decide⟩) (k_rq ?_) (fun E M1 h => absurd h (Rq_x E M1))
  intro r2 A2 hm2
  obtain ⟨⟨z2, hr2, hz2⟩, W2⟩ := hm2
  subst hr2
  have hz2 : z2 = rBearsV I 3 0 := hz2
  have e2 : 0 = z2 := (hz2.trans (d1 hp.1)).symm
  subst e2
  show GP _ 233 (1488, [some (vR 0), some (vR (K + 1)), some (vR (K + 53)), some (vI nb), some (vL (smV I)), none, some (vI (rCount I 5)), some (vI (rPauseV I 0)), some (vI (rSilence I)), some (vI (rObject I (rSilence I))), some (vI (rHandsUp I)), some (vI s11), y12, y13, y14, y15, y16, y17, y18, y19], [vI 0], A2)
  refine w_istore (L' := [some (vR 0), some (vR (K + 1)), some (vR (K + 53)), some (vI nb), some (vL (smV I)), none, some (vI (rCount I 5)), some (vI (rPauseV I 0)), some (vI (rSilence I)), some (vI (rObject I (rSilence I))), some (vI (rHandsUp I)), some (vI s11), some (vI 0), y13, y14, y15, y16, y17, y18, y19]) k233_1488 rfl ?_
  refine w_iload (z := 0) k233_1490 rfl ?_
  refine w_ifF k233_1492 (decide_eq_false (show ¬ ((0 : Int) ≠ (0 : Int)) by decide)) ?_
  refine w_iload (z := rPauseV I 0) k233_1495 rfl ?_
  refine w_ifF k233_1497 (decide_eq_false (show ¬ ((0 : Int) ≤ (rPauseV I 0 : Int)) by omega)) ?_
  refine w_iload (z := 0) k233_1500 rfl ?_
  refine w_ifT (t' := 1512) k233_1502 rfl (decide_eq_true (show (0 : Int) ≤ (0 : Int) by decide)) ?_
  refine w_iconst k233_1512 ?_
  refine w_istore (L' := [some (vR 0), some (vR (K + 1)), some (vR (K + 53)), some (vI nb), some (vL (smV I)), none, some (vI (rCount I 5)), some (vI (rPauseV I 0)), some (vI (rSilence I)), some (vI (rObject I (rSilence I))), some (vI (rHandsUp I)), some (vI s11), some (vI 0), some (vI 0), y14, y15, y16, y17, y18, y19]) k233_1513 rfl ?_
  exact ih _ _ (W2.le (by omega))
theorem ls_21o (hok : ∀ y pc, okE y pc (cd y pc) = true) {K L j : Nat} {X : Nat → Int} {I u x : Im} {nb : Int} {A : Mm} (W : WA K 1 L X I u x nb j A) (hI : Wd I nb) {s11 : Int} {y12 y13 y14 y15 y16 y17 y18 y19 : Option AV} (hp : pGood I (rPauses I)) (ih : ∀ (b12 : Int) (A1 : Mm), WA K 1 L X I u x nb (j + 300) A1 → GP LPp 233 (1515, [some (vR 0), some (vR (K + 1)), some (vR (K + 53)), some (vI nb), some (vL (smV I)), none, some (vI (rCount I 5)), some (vI (rPauseV I 0)), some (vI (rSilence I)), some (vI (rObject I (rSilence I))), some (vI (rHandsUp I)), some (vI s11), some (vI b12), some (vI (((0 : Nat) : Int))), y14, y15, y16, y17, y18, y19], [], A1)) : GP LPp 233 (1470, [some (vR 0), some (vR (K + 1)), some (vR (K + 53)), some (vI nb), some (vL (smV I)), none, some (vI (rCount I 5)), some (vI (rPauseV I 0)), some (vI (rSilence I)), some (vI (rObject I (rSilence I))), some (vI (rHandsUp I)), some (vI s11), y12, y13, y14, y15, y16, y17, y18, y19], [], A) := by
  have h53 : 0 ≤ I 53 0 ∧ I 53 0 ≤ 6 := ⟨(hI.1.1 53 0).1, hI.1.2.1⟩
  have en := hI.2.1
  have hs : rSq I ≤ 6 := by unfold rSq; omega
  obtain ⟨d1, d2⟩ := bears_0 (v := I) (g := 3) (by decide)
  refine w_aload (q := some (K + 1)) k233_1470 rfl ?_
  refine w_calls k233_1471 rfl rfl rfl rfl rfl rfl rfl (sums_ct hok h53 W) (k_rq ?_) (fun E M1 h => absurd h (Rq_x E M1))
  intro r1 A1 hm1
  obtain ⟨hr1, W1⟩ := hm1
  subst hr1
  show GP _ 233 (1474, [some (vR 0), some (vR (K + 1)), some (vR (K + 53)), some (vI nb), some (vL (smV I)), none, some (vI (rCount I 5)), some (vI (rPauseV I 0)), some (vI (rSilence I)), some (vI (rObject I (rSilence I))), some (vI (rHandsUp I)), some (vI s11), y12, y13, y14, y15, y16, y17, y18, y19], [vL (smV I)], A1)
  refine w_lload (z := smV I) k233_1474 rfl ?_
  refine w_lcmp_eq k233_1476 rfl ?_
  refine w_ifT (t' := 1482) k233_1477 rfl (decide_eq_true (show (0 : Int) = 0 by decide)) ?_
  have hs9 : 0 ≤ rPauseV I 0 := by rw [pv0]; exact hp.1
  have hb : rBearsV I 3 0 ≠ 0 := fun e => by have h8 := d2 e; have h9 := hp.1; omega
  refine w_aload (q := some (K + 1)) k233_1482 rfl ?_
  refine w_iconst k233_1483 ?_
  refine w_iconst k233_1484 ?_
  refine w_callv k233_1485 rfl rfl W1.o rfl rfl rfl rfl (P24 (g := 3) (w := 0) hok W1 ⟨by decide, by decide⟩ ⟨by decide, by decide⟩) (k_rq ?_) (fun E M1 h => absurd h (Rq_x E M1))
  intro r2 A2 hm2
  obtain ⟨⟨z2, hr2, hz2⟩, W2⟩ := hm2
  subst hr2
  have hz2 : z2 = rBearsV I 3 0 := hz2
  subst hz2
  show GP _ 233 (1488, [some (vR 0), some (vR (K + 1)), some (vR (K + 53)), some (vI nb), some (vL (smV I)), none, some (vI (rCount I 5)), some (vI (rPauseV I 0)), some (vI (rSilence I)), some (vI (rObject I (rSilence I))), some (vI (rHandsUp I)), some (vI s11), y12, y13, y14, y15, y16, y17, y18, y19], [vI (rBearsV I 3 0)], A2)
  refine w_istore (L' := [some (vR 0), some (vR (K + 1)), some (vR (K + 53)), some (vI nb), some (vL (smV I)), none, some (vI (rCount I 5)), some (vI (rPauseV I 0)), some (vI (rSilence I)), some (vI (rObject I (rSilence I))), some (vI (rHandsUp I)), some (vI s11), some (vI (rBearsV I 3 0)), y13, y14, y15, y16, y17, y18, y19]) k233_1488 rfl ?_
  refine w_iload (z := rBearsV I 3 0) k233_1490 rfl ?_
  refine w_ifT (t' := 1500) k233_1492 rfl (decide_eq_true (show (rBearsV I 3 0 : Int) ≠ (0 : Int) from hb)) ?_
  refine w_iload (z := rBearsV I 3 0) k233_1500 rfl ?_
  refine w_ifle (t' := 1512) k233_1502 rfl (fun h1 => ?_) (fun h1 => ?_)
  · refine w_iconst k233_1512 ?_
    refine w_istore (L' := [some (vR 0), some (vR (K + 1)), some (vR (K + 53)), some (vI nb), some (vL (smV I)), none, some (vI (rCount I 5)), some (vI (rPauseV I 0)), some (vI (rSilence I)), some (vI (rObject I (rSilence I))), some (vI (rHandsUp I)), some (vI s11), some (vI (rBearsV I 3 0)), some (vI 0), y14, y15, y16, y17, y18, y19]) k233_1513 rfl ?_
    exact ih _ _ (W2.le (by omega))
  · refine w_iload (z := rPauseV I 0) k233_1505 rfl ?_
    refine w_ifT (t' := 1512) k233_1507 rfl (decide_eq_true (show (0 : Int) ≤ (rPauseV I 0 : Int) by omega)) ?_
    refine w_iconst k233_1512 ?_
    refine w_istore (L' := [some (vR 0), some (vR (K + 1)), some (vR (K + 53)), some (vI nb), some (vL (smV I)), none, some (vI (rCount I 5)), some (vI (rPauseV I 0)), some (vI (rSilence I)), some (vI (rObject I (rSilence I))), some (vI (rHandsUp I)), some (vI s11), some (vI (rBearsV I 3 0)), some (vI 0), y14, y15, y16, y17, y18, y19]) k233_1513 rfl ?_
    exact ih _ _ (W2.le (by omega))
theorem ls_21 (hok : ∀ y pc, okE y pc (cd y pc) = true) {K L j : Nat} {X : Nat → Int} {I u x : Im} {nb : Int} {A : Mm} (W : WA K 1 L X I u x nb j A) (hI : Wd I nb) {s11 : Int} {y12 y13 y14 y15 y16 y17 y18 y19 : Option AV} (ih : ∀ (b12 : Int) (A1 : Mm), WA K 1 L X I u x nb (j + 300) A1 → GP LPp 233 (1515, [some (vR 0), some (vR (K + 1)), some (vR (K + 53)), some (vI nb), some (vL (smV I)), none, some (vI (rCount I 5)), some (vI (rPauseV I 0)), some (vI (rSilence I)), some (vI (rObject I (rSilence I))), some (vI (rHandsUp I)), some (vI s11), some (vI b12), some (vI (((0 : Nat) : Int))), y14, y15, y16, y17, y18, y19], [], A1)) : GP LPp 233 (1470, [some (vR 0), some (vR (K + 1)), some (vR (K + 53)), some (vI nb), some (vL (smV I)), none, some (vI (rCount I 5)), some (vI (rPauseV I 0)), some (vI (rSilence I)), some (vI (rObject I (rSilence I))), some (vI (rHandsUp I)), some (vI s11), y12, y13, y14, y15, y16, y17, y18, y19], [], A) := by
  rcases pauses_spec hI.1.1 with hp | hp
  · exact ls_21n hok W hI hp ih
  · exact ls_21o hok W hI hp ih
