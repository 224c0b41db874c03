def cu_L_law : List Nat := [0, 3, 7, 11, 15, 18, 232, 251, 270, 275, 294, 313, 318, 337, 340, 359, 362, 367, 381, 395, 400, 419, 438, 443, 457, 471, 476, 500, 524, 529, 548, 567, 572, 596, 620, 625, 644, 663, 668, 682, 696, 701, 705, 709, 714, 718, 722, 727, 741, 755, 760, 774, 788, 793, 807, 821, 826, 835, 844, 849, 858, 867, 872, 881, 890, 895, 909, 923, 928, 942, 956, 961, 970, 979, 984, 988, 992, 997, 1006, 1015, 1020, 1029, 1038, 1043, 1062, 1081, 1086, 1100, 1114, 1119, 1133, 1147, 1152, 1166, 1180, 1185, 1199, 1213, 1218, 1237, 1256, 1261, 1290, 1293, 1322, 1325, 1330, 1344, 1358, 1363, 1372, 1381, 1386, 1400, 1414, 1419, 1423, 1427, 1432, 1441, 1450, 1455, 1464, 1473, 1478, 1497, 1516, 1521, 1540, 1559, 1564, 1593, 1622, 1627, 1631, 1635, 1640, 1644, 1648, 1653, 1657, 1661, 1666, 1675, 1684, 1689, 1698, 1707, 1712]
theorem hL_L_law : q_P 256 = q_find P_L_law := rfl
theorem c_L_law (a0 : Int) (s : q_M) : q_Cc 256 [(30, a0)] s = q_L 256 0 [(30, a0), (9, 0), (9, 0), (9, 0)] [] s := rfl
set_option maxHeartbeats 8000000 in
set_option maxRecDepth 100000 in
theorem e_L_law_0 (a0 : Int) (sh : Int × (Int → Nat × Int)) (h : Int → Int → Int) : q_L 256 0 [(30, a0), (9, 0), (9, 0), (9, 0)] [] (sh, h) = q_L 256 3 [(30, a0), (9, 0), (9, 0), (9, 0)] [(21, sh.1)] ((q_ms sh 21 8), (q_mh sh h (q_zf [0, 1, 2, 3, 4, 5, 6]))) :=
  (q_unL hL_L_law cu_L_law 400 0 _ _ _).trans rfl
set_option maxHeartbeats 8000000 in
set_option maxRecDepth 100000 in
theorem e_L_law_3 (a0 b0 : Int) (sh : Int × (Int → Nat × Int)) (h : Int → Int → Int) : q_L 256 3 [(30, a0), (9, 0), (9, 0), (9, 0)] [(21, b0)] (sh, h) = (q_Cc 106 [(21, b0)] (sh, h)).bind (fun r => q_L 256 7 [(30, a0), (9, 0), (9, 0), (9, 0)] [(21, b0)] r.2) :=
  (q_unL hL_L_law cu_L_law 400 3 _ _ _).trans rfl
set_option maxHeartbeats 8000000 in
set_option maxRecDepth 100000 in
theorem e_L_law_7 (a0 b0 : Int) (sh : Int × (Int → Nat × Int)) (h : Int → Int → Int) : q_L 256 7 [(30, a0), (9, 0), (9, 0), (9, 0)] [(21, b0)] (sh, h) = q_L 256 11 [(30, a0), (21, b0), (9, 0), (9, 0)] [(22, sh.1)] ((q_ms sh 22 28), (q_mh sh h (q_zf [0, 1, 2, 4, 6, 7, 8, 9, 10, 16, 17, 19, 20, 21, 22, 23, 26, 27]))) :=
  (q_unL hL_L_law cu_L_law 400 7 _ _ _).trans rfl
set_option maxHeartbeats 8000000 in
set_option maxRecDepth 100000 in
theorem e_L_law_11 (a0 a1 b0 : Int) (sh : Int × (Int → Nat × Int)) (h : Int → Int → Int) : q_L 256 11 [(30, a0), (21, a1), (9, 0), (9, 0)] [(22, b0)] (sh, h) = (q_Cc 160 [(22, b0)] (sh, h)).bind (fun r => q_L 256 15 [(30, a0), (21, a1), (9, 0), (9, 0)] [(22, b0)] r.2) :=
  (q_unL hL_L_law cu_L_law 400 11 _ _ _).trans rfl
set_option maxHeartbeats 8000000 in
set_option maxRecDepth 100000 in
theorem e_L_law_15 (a0 a1 b0 : Int) (sh : Int × (Int → Nat × Int)) (h : Int → Int → Int) : q_L 256 15 [(30, a0), (21, a1), (9, 0), (9, 0)] [(22, b0)] (sh, h) = q_L 256 18 [(30, a0), (21, a1), (22, b0), (0, 0)] [] (sh, h) :=
  (q_unL hL_L_law cu_L_law 400 15 _ _ _).trans rfl
set_option maxHeartbeats 8000000 in
set_option maxRecDepth 100000 in
theorem e_L_law_18 (a0 a1 a2 a3 : Int) (sh : Int × (Int → Nat × Int)) (h : Int → Int → Int) : q_L 256 18 [(30, a0), (21, a1), (22, a2), (0, a3)] [] (sh, h) = if (q_sub ((sh.2 a0).2) (6 : Int)) < a3 then (some ((0, 1), (sh, h))) else (if 0 ≤ a3 ∧ a3 < (sh.2 a0).2 then (if (q_and (h a0 a3) (63 : Int)) = 0 then (q_L 256 232 [(30, a0), (21, a1), (22, a2), (0, a3)] [] (sh, h)) else (if (q_and (h a0 a3) (63 : Int)) = 1 then (q_L 256 275 [(30, a0), (21, a1), (22, a2), (0, a3)] [] (sh, h)) else (if (q_and (h a0 a3) (63 : Int)) = 2 then (q_L 256 318 [(30, a0), (21, a1), (22, a2), (0, a3)] [] (sh, h)) else (if (q_and (h a0 a3) (63 : Int)) = 3 then (q_L 256 367 [(30, a0), (21, a1), (22, a2), (0, a3)] [] (sh, h)) else (if (q_and (h a0 a3) (63 : Int)) = 4 then (q_L 256 400 [(30, a0), (21, a1), (22, a2), (0, a3)] [] (sh, h)) else (if (q_and (h a0 a3) (63 : Int)) = 5 then (q_L 256 443 [(30, a0), (21, a1), (22, a2), (0, a3)] [] (sh, h)) else (if (q_and (h a0 a3) (63 : Int)) = 6 then (q_L 256 476 [(30, a0), (21, a1), (22, a2), (0, a3)] [] (sh, h)) else (if (q_and (h a0 a3) (63 : Int)) = 7 then (q_L 256 529 [(30, a0), (21, a1), (22, a2), (0, a3)] [] (sh, h)) else (if (q_and (h a0 a3) (63 : Int)) = 8 then (q_L 256 572 [(30, a0), (21, a1), (22, a2), (0, a3)] [] (sh, h)) else (if (q_and (h a0 a3) (63 : Int)) = 9 then (q_L 256 625 [(30, a0), (21, a1), (22, a2), (0, a3)] [] (sh, h)) else (if (q_and (h a0 a3) (63 : Int)) = 10 then (q_L 256 668 [(30, a0), (21, a1), (22, a2), (0, a3)] [] (sh, h)) else (if (q_and (h a0 a3) (63 : Int)) = 11 then (q_L 256 701 [(30, a0), (21, a1), (22, a2), (0, a3)] [] (sh, h)) else (if (q_and (h a0 a3) (63 : Int)) = 12 then (q_L 256 714 [(30, a0), (21, a1), (22, a2), (0, a3)] [] (sh, h)) else (if (q_and (h a0 a3) (63 : Int)) = 13 then (q_L 256 727 [(30, a0), (21, a1), (22, a2), (0, a3)] [] (sh, h)) else (if (q_and (h a0 a3) (63 : Int)) = 14 then (q_L 256 760 [(30, a0), (21, a1), (22, a2), (0, a3)] [] (sh, h)) else (if (q_and (h a0 a3) (63 : Int)) = 15 then (q_L 256 793 [(30, a0), (21, a1), (22, a2), (0, a3)] [] (sh, h)) else (if (q_and (h a0 a3) (63 : Int)) = 16 then (q_L 256 826 [(30, a0), (21, a1), (22, a2), (0, a3)] [] (sh, h)) else (if (q_and (h a0 a3) (63 : Int)) = 17 then (q_L 256 849 [(30, a0), (21, a1), (22, a2), (0, a3)] [] (sh, h)) else (if (q_and (h a0 a3) (63 : Int)) = 18 then (q_L 256 872 [(30, a0), (21, a1), (22, a2), (0, a3)] [] (sh, h)) else (if (q_and (h a0 a3) (63 : Int)) = 19 then (q_L 256 895 [(30, a0), (21, a1), (22, a2), (0, a3)] [] (sh, h)) else (if (q_and (h a0 a3) (63 : Int)) = 20 then (q_L 256 928 [(30, a0), (21, a1), (22, a2), (0, a3)] [] (sh, h)) else (if (q_and (h a0 a3) (63 : Int)) = 21 then (q_L 256 961 [(30, a0), (21, a1), (22, a2), (0, a3)] [] (sh, h)) else (if (q_and (h a0 a3) (63 : Int)) = 22 then (q_L 256 984 [(30, a0), (21, a1), (22, a2), (0, a3)] [] (sh, h)) else (if (q_and (h a0 a3) (63 : Int)) = 23 then (q_L 256 997 [(30, a0), (21, a1), (22, a2), (0, a3)] [] (sh, h)) else (if (q_and (h a0 a3) (63 : Int)) = 24 then (q_L 256 1020 [(30, a0), (21, a1), (22, a2), (0, a3)] [] (sh, h)) else (if (q_and (h a0 a3) (63 : Int)) = 25 then (q_L 256 1043 [(30, a0), (21, a1), (22, a2), (0, a3)] [] (sh, h)) else (if (q_and (h a0 a3) (63 : Int)) = 26 then (q_L 256 1086 [(30, a0), (21, a1), (22, a2), (0, a3)] [] (sh, h)) else (if (q_and (h a0 a3) (63 : Int)) = 27 then (q_L 256 1119 [(30, a0), (21, a1), (22, a2), (0, a3)] [] (sh, h)) else (if (q_and (h a0 a3) (63 : Int)) = 28 then (q_L 256 1152 [(30, a0), (21, a1), (22, a2), (0, a3)] [] (sh, h)) else (if (q_and (h a0 a3) (63 : Int)) = 29 then (q_L 256 1185 [(30, a0), (21, a1), (22, a2), (0, a3)] [] (sh, h)) else (if (q_and (h a0 a3) (63 : Int)) = 30 then (q_L 256 1218 [(30, a0), (21, a1), (22, a2), (0, a3)] [] (sh, h)) else (if (q_and (h a0 a3) (63 : Int)) = 31 then (q_L 256 1261 [(30, a0), (21, a1), (22, a2), (0, a3)] [] (sh, h)) else (if (q_and (h a0 a3) (63 : Int)) = 32 then (q_L 256 1330 [(30, a0), (21, a1), (22, a2), (0, a3)] [] (sh, h)) else (if (q_and (h a0 a3) (63 : Int)) = 33 then (q_L 256 1363 [(30, a0), (21, a1), (22, a2), (0, a3)] [] (sh, h)) else (if (q_and (h a0 a3) (63 : Int)) = 34 then (q_L 256 1386 [(30, a0), (21, a1), (22, a2), (0, a3)] [] (sh, h)) else (if (q_and (h a0 a3) (63 : Int)) = 35 then (q_L 256 1419 [(30, a0), (21, a1), (22, a2), (0, a3)] [] (sh, h)) else (if (q_and (h a0 a3) (63 : Int)) = 36 then (q_L 256 1432 [(30, a0), (21, a1), (22, a2), (0, a3)] [] (sh, h)) else (if (q_and (h a0 a3) (63 : Int)) = 37 then (q_L 256 1455 [(30, a0), (21, a1), (22, a2), (0, a3)] [] (sh, h)) else (if (q_and (h a0 a3) (63 : Int)) = 38 then (q_L 256 1478 [(30, a0), (21, a1), (22, a2), (0, a3)] [] (sh, h)) else (if (q_and (h a0 a3) (63 : Int)) = 39 then (q_L 256 1521 [(30, a0), (21, a1), (22, a2), (0, a3)] [] (sh, h)) else (if (q_and (h a0 a3) (63 : Int)) = 40 then (q_L 256 1564 [(30, a0), (21, a1), (22, a2), (0, a3)] [] (sh, h)) else (if (q_and (h a0 a3) (63 : Int)) = 41 then (q_L 256 1627 [(30, a0), (21, a1), (22, a2), (0, a3)] [] (sh, h)) else (if (q_and (h a0 a3) (63 : Int)) = 42 then (q_L 256 1640 [(30, a0), (21, a1), (22, a2), (0, a3)] [] (sh, h)) else (if (q_and (h a0 a3) (63 : Int)) = 43 then (q_L 256 1653 [(30, a0), (21, a1), (22, a2), (0, a3)] [] (sh, h)) else (if (q_and (h a0 a3) (63 : Int)) = 44 then (q_L 256 1666 [(30, a0), (21, a1), (22, a2), (0, a3)] [] (sh, h)) else (if (q_and (h a0 a3) (63 : Int)) = 45 then (q_L 256 1689 [(30, a0), (21, a1), (22, a2), (0, a3)] [] (sh, h)) else (q_L 256 1712 [(30, a0), (21, a1), (22, a2), (0, a3)] [] (sh, h)))))))))))))))))))))))))))))))))))))))))))))))) else none) :=
  (q_unL hL_L_law cu_L_law 400 18 _ _ _).trans rfl
set_option maxHeartbeats 8000000 in
set_option maxRecDepth 100000 in
theorem e_L_law_232 (a0 a1 a2 a3 : Int) (sh : Int × (Int → Nat × Int)) (h : Int → Int → Int) : q_L 256 232 [(30, a0), (21, a1), (22, a2), (0, a3)] [] (sh, h) = if 0 ≤ (q_add a3 (1 : Int)) ∧ (q_add a3 (1 : Int)) < (sh.2 a0).2 then (if 0 ≤ (q_add a3 (2 : Int)) ∧ (q_add a3 (2 : Int)) < (sh.2 a0).2 then (if 0 ≤ (q_add a3 (3 : Int)) ∧ (q_add a3 (3 : Int)) < (sh.2 a0).2 then ((q_Cc 107 [(21, a1), (0, h a0 (q_add a3 (1 : Int))), (0, h a0 (q_add a3 (2 : Int))), (0, h a0 (q_add a3 (3 : Int)))] (sh, h)).bind (fun r => q_L 256 251 [(30, a0), (21, a1), (22, a2), (0, a3)] [r.1] r.2)) else none) else none) else none :=
  (q_unL hL_L_law cu_L_law 400 232 _ _ _).trans rfl
set_option maxHeartbeats 8000000 in
set_option maxRecDepth 100000 in
theorem e_L_law_251 (a0 a1 a2 a3 b0 : Int) (sh : Int × (Int → Nat × Int)) (h : Int → Int → Int) : q_L 256 251 [(30, a0), (21, a1), (22, a2), (0, a3)] [(0, b0)] (sh, h) = if 0 ≤ (q_add a3 (1 : Int)) ∧ (q_add a3 (1 : Int)) < (sh.2 a0).2 then (if 0 ≤ (q_add a3 (2 : Int)) ∧ (q_add a3 (2 : Int)) < (sh.2 a0).2 then (if 0 ≤ (q_add a3 (3 : Int)) ∧ (q_add a3 (3 : Int)) < (sh.2 a0).2 then ((q_Cc 169 [(22, a2), (0, h a0 (q_add a3 (1 : Int))), (0, h a0 (q_add a3 (2 : Int))), (0, h a0 (q_add a3 (3 : Int)))] (sh, h)).bind (fun r => q_L 256 270 [(30, a0), (21, a1), (22, a2), (0, a3)] [r.1, (0, b0)] r.2)) else none) else none) else none :=
  (q_unL hL_L_law cu_L_law 400 251 _ _ _).trans rfl
set_option maxHeartbeats 8000000 in
set_option maxRecDepth 100000 in
theorem e_L_law_270 (a0 a1 a2 a3 b0 b1 : Int) (sh : Int × (Int → Nat × Int)) (h : Int → Int → Int) : q_L 256 270 [(30, a0), (21, a1), (22, a2), (0, a3)] [(0, b1), (0, b0)] (sh, h) = if b0 = b1 then (q_L 256 1712 [(30, a0), (21, a1), (22, a2), (0, a3)] [] (sh, h)) else (some ((0, 0), (sh, h))) :=
  (q_unL hL_L_law cu_L_law 400 270 _ _ _).trans rfl
set_option maxHeartbeats 8000000 in
set_option maxRecDepth 100000 in
theorem e_L_law_275 (a0 a1 a2 a3 : Int) (sh : Int × (Int → Nat × Int)) (h : Int → Int → Int) : q_L 256 275 [(30, a0), (21, a1), (22, a2), (0, a3)] [] (sh, h) = if 0 ≤ (q_add a3 (1 : Int)) ∧ (q_add a3 (1 : Int)) < (sh.2 a0).2 then (if 0 ≤ (q_add a3 (2 : Int)) ∧ (q_add a3 (2 : Int)) < (sh.2 a0).2 then (if 0 ≤ (q_add a3 (3 : Int)) ∧ (q_add a3 (3 : Int)) < (sh.2 a0).2 then ((q_Cc 108 [(21, a1), (0, h a0 (q_add a3 (1 : Int))), (0, h a0 (q_add a3 (2 : Int))), (0, h a0 (q_add a3 (3 : Int)))] (sh, h)).bind (fun r => q_L 256 294 [(30, a0), (21, a1), (22, a2), (0, a3)] [r.1] r.2)) else none) else none) else none :=
  (q_unL hL_L_law cu_L_law 400 275 _ _ _).trans rfl
set_option maxHeartbeats 8000000 in
set_option maxRecDepth 100000 in
theorem e_L_law_294 (a0 a1 a2 a3 b0 : Int) (sh : Int × (Int → Nat × Int)) (h : Int → Int → Int) : q_L 256 294 [(30, a0), (21, a1), (22, a2), (0, a3)] [(0, b0)] (sh, h) = if 0 ≤ (q_add a3 (1 : Int)) ∧ (q_add a3 (1 : Int)) < (sh.2 a0).2 then (if 0 ≤ (q_add a3 (2 : Int)) ∧ (q_add a3 (2 : Int)) < (sh.2 a0).2 then (if 0 ≤ (q_add a3 (3 : Int)) ∧ (q_add a3 (3 : Int)) < (sh.2 a0).2 then ((q_Cc 170 [(22, a2), (0, h a0 (q_add a3 (1 : Int))), (0, h a0 (q_add a3 (2 : Int))), (0, h a0 (q_add a3 (3 : Int)))] (sh, h)).bind (fun r => q_L 256 313 [(30, a0), (21, a1), (22, a2), (0, a3)] [r.1, (0, b0)] r.2)) else none) else none) else none :=
  (q_unL hL_L_law cu_L_law 400 294 _ _ _).trans rfl
set_option maxHeartbeats 8000000 in
set_option maxRecDepth 100000 in
theorem e_L_law_313 (a0 a1 a2 a3 b0 b1 : Int) (sh : Int × (Int → Nat × Int)) (h : Int → Int → Int) : q_L 256 313 [(30, a0), (21, a1), (22, a2), (0, a3)] [(0, b1), (0, b0)] (sh, h) = if b0 = b1 then (q_L 256 1712 [(30, a0), (21, a1), (22, a2), (0, a3)] [] (sh, h)) else (some ((0, 0), (sh, h))) :=
  (q_unL hL_L_law cu_L_law 400 313 _ _ _).trans rfl
set_option maxHeartbeats 8000000 in
set_option maxRecDepth 100000 in
theorem e_L_law_318 (a0 a1 a2 a3 : Int) (sh : Int × (Int → Nat × Int)) (h : Int → Int → Int) : q_L 256 318 [(30, a0), (21, a1), (22, a2), (0, a3)] [] (sh, h) = if 0 ≤ (q_add a3 (1 : Int)) ∧ (q_add a3 (1 : Int)) < (sh.2 a0).2 then (if 0 ≤ (q_add a3 (2 : Int)) ∧ (q_add a3 (2 : Int)) < (sh.2 a0).2 then (if (h a0 (q_add a3 (2 : Int))) = 0 then (q_L 256 337 [(30, a0), (21, a1), (22, a2), (0, a3)] [(0, 0), (0, h a0 (q_add a3 (1 : Int))), (21, a1)] (sh, h)) else (q_L 256 337 [(30, a0), (21, a1), (22, a2), (0, a3)] [(0, 1), (0, h a0 (q_add a3 (1 : Int))), (21, a1)] (sh, h))) else none) else none :=
  (q_unL hL_L_law cu_L_law 400 318 _ _ _).trans rfl
set_option maxHeartbeats 8000000 in
set_option maxRecDepth 100000 in
theorem e_L_law_337 (a0 a1 a2 a3 b0 b1 b2 : Int) (sh : Int × (Int → Nat × Int)) (h : Int → Int → Int) : q_L 256 337 [(30, a0), (21, a1), (22, a2), (0, a3)] [(0, b2), (0, b1), (21, b0)] (sh, h) = (q_Cc 109 [(21, b0), (0, b1), (0, b2)] (sh, h)).bind (fun r => q_L 256 340 [(30, a0), (21, a1), (22, a2), (0, a3)] [r.1] r.2) :=
  (q_unL hL_L_law cu_L_law 400 337 _ _ _).trans rfl
set_option maxHeartbeats 8000000 in
set_option maxRecDepth 100000 in
theorem e_L_law_340 (a0 a1 a2 a3 b0 : Int) (sh : Int × (Int → Nat × Int)) (h : Int → Int → Int) : q_L 256 340 [(30, a0), (21, a1), (22, a2), (0, a3)] [(0, b0)] (sh, h) = if 0 ≤ (q_add a3 (1 : Int)) ∧ (q_add a3 (1 : Int)) < (sh.2 a0).2 then (if 0 ≤ (q_add a3 (2 : Int)) ∧ (q_add a3 (2 : Int)) < (sh.2 a0).2 then (if (h a0 (q_add a3 (2 : Int))) = 0 then (q_L 256 359 [(30, a0), (21, a1), (22, a2), (0, a3)] [(0, 0), (0, h a0 (q_add a3 (1 : Int))), (22, a2), (0, b0)] (sh, h)) else (q_L 256 359 [(30, a0), (21, a1), (22, a2), (0, a3)] [(0, 1), (0, h a0 (q_add a3 (1 : Int))), (22, a2), (0, b0)] (sh, h))) else none) else none :=
  (q_unL hL_L_law cu_L_law 400 340 _ _ _).trans rfl
set_option maxHeartbeats 8000000 in
set_option maxRecDepth 100000 in
theorem e_L_law_359 (a0 a1 a2 a3 b0 b1 b2 b3 : Int) (sh : Int × (Int → Nat × Int)) (h : Int → Int → Int) : q_L 256 359 [(30, a0), (21, a1), (22, a2), (0, a3)] [(0, b3), (0, b2), (22, b1), (0, b0)] (sh, h) = (q_Cc 171 [(22, b1), (0, b2), (0, b3)] (sh, h)).bind (fun r => q_L 256 362 [(30, a0), (21, a1), (22, a2), (0, a3)] [r.1, (0, b0)] r.2) :=
  (q_unL hL_L_law cu_L_law 400 359 _ _ _).trans rfl
set_option maxHeartbeats 8000000 in
set_option maxRecDepth 100000 in
theorem e_L_law_362 (a0 a1 a2 a3 b0 b1 : Int) (sh : Int × (Int → Nat × Int)) (h : Int → Int → Int) : q_L 256 362 [(30, a0), (21, a1), (22, a2), (0, a3)] [(0, b1), (0, b0)] (sh, h) = if b0 = b1 then (q_L 256 1712 [(30, a0), (21, a1), (22, a2), (0, a3)] [] (sh, h)) else (some ((0, 0), (sh, h))) :=
  (q_unL hL_L_law cu_L_law 400 362 _ _ _).trans rfl
set_option maxHeartbeats 8000000 in
set_option maxRecDepth 100000 in
theorem e_L_law_367 (a0 a1 a2 a3 : Int) (sh : Int × (Int → Nat × Int)) (h : Int → Int → Int) : q_L 256 367 [(30, a0), (21, a1), (22, a2), (0, a3)] [] (sh, h) = if 0 ≤ (q_add a3 (1 : Int)) ∧ (q_add a3 (1 : Int)) < (sh.2 a0).2 then (if 0 ≤ (q_add a3 (2 : Int)) ∧ (q_add a3 (2 : Int)) < (sh.2 a0).2 then ((q_Cc 110 [(21, a1), (0, h a0 (q_add a3 (1 : Int))), (0, h a0 (q_add a3 (2 : Int)))] (sh, h)).bind (fun r => q_L 256 381 [(30, a0), (21, a1), (22, a2), (0, a3)] [r.1] r.2)) else none) else none :=
  (q_unL hL_L_law cu_L_law 400 367 _ _ _).trans rfl
set_option maxHeartbeats 8000000 in
set_option maxRecDepth 100000 in
theorem e_L_law_381 (a0 a1 a2 a3 b0 : Int) (sh : Int × (Int → Nat × Int)) (h : Int → Int → Int) : q_L 256 381 [(30, a0), (21, a1), (22, a2), (0, a3)] [(0, b0)] (sh, h) = if 0 ≤ (q_add a3 (1 : Int)) ∧ (q_add a3 (1 : Int)) < (sh.2 a0).2 then (if 0 ≤ (q_add a3 (2 : Int)) ∧ (q_add a3 (2 : Int)) < (sh.2 a0).2 then ((q_Cc 173 [(22, a2), (0, h a0 (q_add a3 (1 : Int))), (0, h a0 (q_add a3 (2 : Int)))] (sh, h)).bind (fun r => q_L 256 395 [(30, a0), (21, a1), (22, a2), (0, a3)] [r.1, (0, b0)] r.2)) else none) else none :=
  (q_unL hL_L_law cu_L_law 400 381 _ _ _).trans rfl
set_option maxHeartbeats 8000000 in
set_option maxRecDepth 100000 in
theorem e_L_law_395 (a0 a1 a2 a3 b0 b1 : Int) (sh : Int × (Int → Nat × Int)) (h : Int → Int → Int) : q_L 256 395 [(30, a0), (21, a1), (22, a2), (0, a3)] [(0, b1), (0, b0)] (sh, h) = if b0 = b1 then (q_L 256 1712 [(30, a0), (21, a1), (22, a2), (0, a3)] [] (sh, h)) else (some ((0, 0), (sh, h))) :=
  (q_unL hL_L_law cu_L_law 400 395 _ _ _).trans rfl
set_option maxHeartbeats 8000000 in
set_option maxRecDepth 100000 in
theorem e_L_law_400 (a0 a1 a2 a3 : Int) (sh : Int × (Int → Nat × Int)) (h : Int → Int → Int) : q_L 256 400 [(30, a0), (21, a1), (22, a2), (0, a3)] [] (sh, h) = if 0 ≤ (q_add a3 (1 : Int)) ∧ (q_add a3 (1 : Int)) < (sh.2 a0).2 then (if 0 ≤ (q_add a3 (2 : Int)) ∧ (q_add a3 (2 : Int)) < (sh.2 a0).2 then (if 0 ≤ (q_add a3 (3 : Int)) ∧ (q_add a3 (3 : Int)) < (sh.2 a0).2 then ((q_Cc 111 [(21, a1), (0, h a0 (q_add a3 (1 : Int))), (0, h a0 (q_add a3 (2 : Int))), (0, h a0 (q_add a3 (3 : Int)))] (sh, h)).bind (fun r => q_L 256 419 [(30, a0), (21, a1), (22, a2), (0, a3)] [r.1] r.2)) else none) else none) else none :=
  (q_unL hL_L_law cu_L_law 400 400 _ _ _).trans rfl
set_option maxHeartbeats 8000000 in
set_option maxRecDepth 100000 in
theorem e_L_law_419 (a0 a1 a2 a3 b0 : Int) (sh : Int × (Int → Nat × Int)) (h : Int → Int → Int) : q_L 256 419 [(30, a0), (21, a1), (22, a2), (0, a3)] [(0, b0)] (sh, h) = if 0 ≤ (q_add a3 (1 : Int)) ∧ (q_add a3 (1 : Int)) < (sh.2 a0).2 then (if 0 ≤ (q_add a3 (2 : Int)) ∧ (q_add a3 (2 : Int)) < (sh.2 a0).2 then (if 0 ≤ (q_add a3 (3 : Int)) ∧ (q_add a3 (3 : Int)) < (sh.2 a0).2 then ((q_Cc 174 [(22, a2), (0, h a0 (q_add a3 (1 : Int))), (0, h a0 (q_add a3 (2 : Int))), (0, h a0 (q_add a3 (3 : Int)))] (sh, h)).bind (fun r => q_L 256 438 [(30, a0), (21, a1), (22, a2), (0, a3)] [r.1, (0, b0)] r.2)) else none) else none) else none :=
  (q_unL hL_L_law cu_L_law 400 419 _ _ _).trans rfl
set_option maxHeartbeats 8000000 in
set_option maxRecDepth 100000 in
theorem e_L_law_438 (a0 a1 a2 a3 b0 b1 : Int) (sh : Int × (Int → Nat × Int)) (h : Int → Int → Int) : q_L 256 438 [(30, a0), (21, a1), (22, a2), (0, a3)] [(0, b1), (0, b0)] (sh, h) = if b0 = b1 then (q_L 256 1712 [(30, a0), (21, a1), (22, a2), (0, a3)] [] (sh, h)) else (some ((0, 0), (sh, h))) :=
  (q_unL hL_L_law cu_L_law 400 438 _ _ _).trans rfl
set_option maxHeartbeats 8000000 in
set_option maxRecDepth 100000 in
theorem e_L_law_443 (a0 a1 a2 a3 : Int) (sh : Int × (Int → Nat × Int)) (h : Int → Int → Int) : q_L 256 443 [(30, a0), (21, a1), (22, a2), (0, a3)] [] (sh, h) = if 0 ≤ (q_add a3 (1 : Int)) ∧ (q_add a3 (1 : Int)) < (sh.2 a0).2 then (if 0 ≤ (q_add a3 (2 : Int)) ∧ (q_add a3 (2 : Int)) < (sh.2 a0).2 then ((q_Cc 112 [(21, a1), (0, h a0 (q_add a3 (1 : Int))), (0, h a0 (q_add a3 (2 : Int)))] (sh, h)).bind (fun r => q_L 256 457 [(30, a0), (21, a1), (22, a2), (0, a3)] [r.1] r.2)) else none) else none :=
  (q_unL hL_L_law cu_L_law 400 443 _ _ _).trans rfl
set_option maxHeartbeats 8000000 in
set_option maxRecDepth 100000 in
theorem e_L_law_457 (a0 a1 a2 a3 b0 : Int) (sh : Int × (Int → Nat × Int)) (h : Int → Int → Int) : q_L 256 457 [(30, a0), (21, a1), (22, a2), (0, a3)] [(0, b0)] (sh, h) = if 0 ≤ (q_add a3 (1 : Int)) ∧ (q_add a3 (1 : Int)) < (sh.2 a0).2 then (if 0 ≤ (q_add a3 (2 : Int)) ∧ (q_add a3 (2 : Int)) < (sh.2 a0).2 then ((q_Cc 175 [(22, a2), (0, h a0 (q_add a3 (1 : Int))), (0, h a0 (q_add a3 (2 : Int)))] (sh, h)).bind (fun r => q_L 256 471 [(30, a0), (21, a1), (22, a2), (0, a3)] [r.1, (0, b0)] r.2)) else none) else none :=
  (q_unL hL_L_law cu_L_law 400 457 _ _ _).trans rfl
set_option maxHeartbeats 8000000 in
set_option maxRecDepth 100000 in
theorem e_L_law_471 (a0 a1 a2 a3 b0 b1 : Int) (sh : Int × (Int → Nat × Int)) (h : Int → Int → Int) : q_L 256 471 [(30, a0), (21, a1), (22, a2), (0, a3)] [(0, b1), (0, b0)] (sh, h) = if b0 = b1 then (q_L 256 1712 [(30, a0), (21, a1), (22, a2), (0, a3)] [] (sh, h)) else (some ((0, 0), (sh, h))) :=
  (q_unL hL_L_law cu_L_law 400 471 _ _ _).trans rfl
set_option maxHeartbeats 8000000 in
set_option maxRecDepth 100000 in
theorem e_L_law_476 (a0 a1 a2 a3 : Int) (sh : Int × (Int → Nat × Int)) (h : Int → Int → Int) : q_L 256 476 [(30, a0), (21, a1), (22, a2), (0, a3)] [] (sh, h) = if 0 ≤ (q_add a3 (1 : Int)) ∧ (q_add a3 (1 : Int)) < (sh.2 a0).2 then (if 0 ≤ (q_add a3 (2 : Int)) ∧ (q_add a3 (2 : Int)) < (sh.2 a0).2 then (if 0 ≤ (q_add a3 (3 : Int)) ∧ (q_add a3 (3 : Int)) < (sh.2 a0).2 then (if 0 ≤ (q_add a3 (4 : Int)) ∧ (q_add a3 (4 : Int)) < (sh.2 a0).2 then ((q_Cc 113 [(21, a1), (0, h a0 (q_add a3 (1 : Int))), (0, h a0 (q_add a3 (2 : Int))), (0, h a0 (q_add a3 (3 : Int))), (0, h a0 (q_add a3 (4 : Int)))] (sh, h)).bind (fun r => q_L 256 500 [(30, a0), (21, a1), (22, a2), (0, a3)] [r.1] r.2)) else none) else none) else none) else none :=
  (q_unL hL_L_law cu_L_law 400 476 _ _ _).trans rfl
set_option maxHeartbeats 8000000 in
set_option maxRecDepth 100000 in
theorem e_L_law_500 (a0 a1 a2 a3 b0 : Int) (sh : Int × (Int → Nat × Int)) (h : Int → Int → Int) : q_L 256 500 [(30, a0), (21, a1), (22, a2), (0, a3)] [(0, b0)] (sh, h) = if 0 ≤ (q_add a3 (1 : Int)) ∧ (q_add a3 (1 : Int)) < (sh.2 a0).2 then (if 0 ≤ (q_add a3 (2 : Int)) ∧ (q_add a3 (2 : Int)) < (sh.2 a0).2 then (if 0 ≤ (q_add a3 (3 : Int)) ∧ (q_add a3 (3 : Int)) < (sh.2 a0).2 then (if 0 ≤ (q_add a3 (4 : Int)) ∧ (q_add a3 (4 : Int)) < (sh.2 a0).2 then ((q_Cc 176 [(22, a2), (0, h a0 (q_add a3 (1 : Int))), (0, h a0 (q_add a3 (2 : Int))), (0, h a0 (q_add a3 (3 : Int))), (0, h a0 (q_add a3 (4 : Int)))] (sh, h)).bind (fun r => q_L 256 524 [(30, a0), (21, a1), (22, a2), (0, a3)] [r.1, (0, b0)] r.2)) else none) else none) else none) else none :=
  (q_unL hL_L_law cu_L_law 400 500 _ _ _).trans rfl
set_option maxHeartbeats 8000000 in
set_option maxRecDepth 100000 in
theorem e_L_law_524 (a0 a1 a2 a3 b0 b1 : Int) (sh : Int × (Int → Nat × Int)) (h : Int → Int → Int) : q_L 256 524 [(30, a0), (21, a1), (22, a2), (0, a3)] [(0, b1), (0, b0)] (sh, h) = if b0 = b1 then (q_L 256 1712 [(30, a0), (21, a1), (22, a2), (0, a3)] [] (sh, h)) else (some ((0, 0), (sh, h))) :=
  (q_unL hL_L_law cu_L_law 400 524 _ _ _).trans rfl
set_option maxHeartbeats 8000000 in
set_option maxRecDepth 100000 in
theorem e_L_law_529 (a0 a1 a2 a3 : Int) (sh : Int × (Int → Nat × Int)) (h : Int → Int → Int) : q_L 256 529 [(30, a0), (21, a1), (22, a2), (0, a3)] [] (sh, h) = if 0 ≤ (q_add a3 (1 : Int)) ∧ (q_add a3 (1 : Int)) < (sh.2 a0).2 then (if 0 ≤ (q_add a3 (2 : Int)) ∧ (q_add a3 (2 : Int)) < (sh.2 a0).2 then (if 0 ≤ (q_add a3 (3 : Int)) ∧ (q_add a3 (3 : Int)) < (sh.2 a0).2 then ((q_Cc 114 [(21, a1), (0, h a0 (q_add a3 (1 : Int))), (0, h a0 (q_add a3 (2 : Int))), (0, h a0 (q_add a3 (3 : Int)))] (sh, h)).bind (fun r => q_L 256 548 [(30, a0), (21, a1), (22, a2), (0, a3)] [r.1] r.2)) else none) else none) else none :=
  (q_unL hL_L_law cu_L_law 400 529 _ _ _).trans rfl
set_option maxHeartbeats 8000000 in
set_option maxRecDepth 100000 in
theorem e_L_law_548 (a0 a1 a2 a3 b0 : Int) (sh : Int × (Int → Nat × Int)) (h : Int → Int → Int) : q_L 256 548 [(30, a0), (21, a1), (22, a2), (0, a3)] [(0, b0)] (sh, h) = if 0 ≤ (q_add a3 (1 : Int)) ∧ (q_add a3 (1 : Int)) < (sh.2 a0).2 then (if 0 ≤ (q_add a3 (2 : Int)) ∧ (q_add a3 (2 : Int)) < (sh.2 a0).2 then (if 0 ≤ (q_add a3 (3 : Int)) ∧ (q_add a3 (3 : Int)) < (sh.2 a0).2 then ((q_Cc 179 [(22, a2), (0, h a0 (q_add a3 (1 : Int))), (0, h a0 (q_add a3 (2 : Int))), (0, h a0 (q_add a3 (3 : Int)))] (sh, h)).bind (fun r => q_L 256 567 [(30, a0), (21, a1), (22, a2), (0, a3)] [r.1, (0, b0)] r.2)) else none) else none) else none :=
  (q_unL hL_L_law cu_L_law 400 548 _ _ _).trans rfl
set_option maxHeartbeats 8000000 in
set_option maxRecDepth 100000 in
theorem e_L_law_567 (a0 a1 a2 a3 b0 b1 : Int) (sh : Int × (Int → Nat × Int)) (h : Int → Int → Int) : q_L 256 567 [(30, a0), (21, a1), (22, a2), (0, a3)] [(0, b1), (0, b0)] (sh, h) = if b0 = b1 then (q_L 256 1712 [(30, a0), (21, a1), (22, a2), (0, a3)] [] (sh, h)) else (some ((0, 0), (sh, h))) :=
  (q_unL hL_L_law cu_L_law 400 567 _ _ _).trans rfl
set_option maxHeartbeats 8000000 in
set_option maxRecDepth 100000 in
theorem e_L_law_572 (a0 a1 a2 a3 : Int) (sh : Int × (Int → Nat × Int)) (h : Int → Int → Int) : q_L 256 572 [(30, a0), (21, a1), (22, a2), (0, a3)] [] (sh, h) = if 0 ≤ (q_add a3 (1 : Int)) ∧ (q_add a3 (1 : Int)) < (sh.2 a0).2 then (if 0 ≤ (q_add a3 (2 : Int)) ∧ (q_add a3 (2 : Int)) < (sh.2 a0).2 then (if 0 ≤ (q_add a3 (3 : Int)) ∧ (q_add a3 (3 : Int)) < (sh.2 a0).2 then (if 0 ≤ (q_add a3 (4 : Int)) ∧ (q_add a3 (4 : Int)) < (sh.2 a0).2 then ((q_Cc 115 [(21, a1), (0, h a0 (q_add a3 (1 : Int))), (0, h a0 (q_add a3 (2 : Int))), (0, h a0 (q_add a3 (3 : Int))), (0, h a0 (q_add a3 (4 : Int)))] (sh, h)).bind (fun r => q_L 256 596 [(30, a0), (21, a1), (22, a2), (0, a3)] [r.1] r.2)) else none) else none) else none) else none :=
  (q_unL hL_L_law cu_L_law 400 572 _ _ _).trans rfl
set_option maxHeartbeats 8000000 in
set_option maxRecDepth 100000 in
theorem e_L_law_596 (a0 a1 a2 a3 b0 : Int) (sh : Int × (Int → Nat × Int)) (h : Int → Int → Int) : q_L 256 596 [(30, a0), (21, a1), (22, a2), (0, a3)] [(0, b0)] (sh, h) = if 0 ≤ (q_add a3 (1 : Int)) ∧ (q_add a3 (1 : Int)) < (sh.2 a0).2 then (if 0 ≤ (q_add a3 (2 : Int)) ∧ (q_add a3 (2 : Int)) < (sh.2 a0).2 then (if 0 ≤ (q_add a3 (3 : Int)) ∧ (q_add a3 (3 : Int)) < (sh.2 a0).2 then (if 0 ≤ (q_add a3 (4 : Int)) ∧ (q_add a3 (4 : Int)) < (sh.2 a0).2 then ((q_Cc 181 [(22, a2), (0, h a0 (q_add a3 (1 : Int))), (0, h a0 (q_add a3 (2 : Int))), (0, h a0 (q_add a3 (3 : Int))), (0, h a0 (q_add a3 (4 : Int)))] (sh, h)).bind (fun r => q_L 256 620 [(30, a0), (21, a1), (22, a2), (0, a3)] [r.1, (0, b0)] r.2)) else none) else none) else none) else none :=
  (q_unL hL_L_law cu_L_law 400 596 _ _ _).trans rfl
set_option maxHeartbeats 8000000 in
set_option maxRecDepth 100000 in
theorem e_L_law_620 (a0 a1 a2 a3 b0 b1 : Int) (sh : Int × (Int → Nat × Int)) (h : Int → Int → Int) : q_L 256 620 [(30, a0), (21, a1), (22, a2), (0, a3)] [(0, b1), (0, b0)] (sh, h) = if b0 = b1 then (q_L 256 1712 [(30, a0), (21, a1), (22, a2), (0, a3)] [] (sh, h)) else (some ((0, 0), (sh, h))) :=
  (q_unL hL_L_law cu_L_law 400 620 _ _ _).trans rfl
set_option maxHeartbeats 8000000 in
set_option maxRecDepth 100000 in
theorem e_L_law_625 (a0 a1 a2 a3 : Int) (sh : Int × (Int → Nat × Int)) (h : Int → Int → Int) : q_L 256 625 [(30, a0), (21, a1), (22, a2), (0, a3)] [] (sh, h) = if 0 ≤ (q_add a3 (1 : Int)) ∧ (q_add a3 (1 : Int)) < (sh.2 a0).2 then (if 0 ≤ (q_add a3 (2 : Int)) ∧ (q_add a3 (2 : Int)) < (sh.2 a0).2 then (if 0 ≤ (q_add a3 (3 : Int)) ∧ (q_add a3 (3 : Int)) < (sh.2 a0).2 then ((q_Cc 116 [(21, a1), (0, h a0 (q_add a3 (1 : Int))), (0, h a0 (q_add a3 (2 : Int))), (0, h a0 (q_add a3 (3 : Int)))] (sh, h)).bind (fun r => q_L 256 644 [(30, a0), (21, a1), (22, a2), (0, a3)] [r.1] r.2)) else none) else none) else none :=
  (q_unL hL_L_law cu_L_law 400 625 _ _ _).trans rfl
set_option maxHeartbeats 8000000 in
set_option maxRecDepth 100000 in
theorem e_L_law_644 (a0 a1 a2 a3 b0 : Int) (sh : Int × (Int → Nat × Int)) (h : Int → Int → Int) : q_L 256 644 [(30, a0), (21, a1), (22, a2), (0, a3)] [(0, b0)] (sh, h) = if 0 ≤ (q_add a3 (1 : Int)) ∧ (q_add a3 (1 : Int)) < (sh.2 a0).2 then (if 0 ≤ (q_add a3 (2 : Int)) ∧ (q_add a3 (2 : Int)) < (sh.2 a0).2 then (if 0 ≤ (q_add a3 (3 : Int)) ∧ (q_add a3 (3 : Int)) < (sh.2 a0).2 then ((q_Cc 183 [(22, a2), (0, h a0 (q_add a3 (1 : Int))), (0, h a0 (q_add a3 (2 : Int))), (0, h a0 (q_add a3 (3 : Int)))] (sh, h)).bind (fun r => q_L 256 663 [(30, a0), (21, a1), (22, a2), (0, a3)] [r.1, (0, b0)] r.2)) else none) else none) else none :=
  (q_unL hL_L_law cu_L_law 400 644 _ _ _).trans rfl
set_option maxHeartbeats 8000000 in
set_option maxRecDepth 100000 in
theorem e_L_law_663 (a0 a1 a2 a3 b0 b1 : Int) (sh : Int × (Int → Nat × Int)) (h : Int → Int → Int) : q_L 256 663 [(30, a0), (21, a1), (22, a2), (0, a3)] [(0, b1), (0, b0)] (sh, h) = if b0 = b1 then (q_L 256 1712 [(30, a0), (21, a1), (22, a2), (0, a3)] [] (sh, h)) else (some ((0, 0), (sh, h))) :=
  (q_unL hL_L_law cu_L_law 400 663 _ _ _).trans rfl
set_option maxHeartbeats 8000000 in
set_option maxRecDepth 100000 in
theorem e_L_law_668 (a0 a1 a2 a3 : Int) (sh : Int × (Int → Nat × Int)) (h : Int → Int → Int) : q_L 256 668 [(30, a0), (21, a1), (22, a2), (0, a3)] [] (sh, h) = if 0 ≤ (q_add a3 (1 : Int)) ∧ (q_add a3 (1 : Int)) < (sh.2 a0).2 then (if 0 ≤ (q_add a3 (2 : Int)) ∧ (q_add a3 (2 : Int)) < (sh.2 a0).2 then ((q_Cc 117 [(21, a1), (0, h a0 (q_add a3 (1 : Int))), (0, h a0 (q_add a3 (2 : Int)))] (sh, h)).bind (fun r => q_L 256 682 [(30, a0), (21, a1), (22, a2), (0, a3)] [r.1] r.2)) else none) else none :=
  (q_unL hL_L_law cu_L_law 400 668 _ _ _).trans rfl
set_option maxHeartbeats 8000000 in
set_option maxRecDepth 100000 in
theorem e_L_law_682 (a0 a1 a2 a3 b0 : Int) (sh : Int × (Int → Nat × Int)) (h : Int → Int → Int) : q_L 256 682 [(30, a0), (21, a1), (22, a2), (0, a3)] [(0, b0)] (sh, h) = if 0 ≤ (q_add a3 (1 : Int)) ∧ (q_add a3 (1 : Int)) < (sh.2 a0).2 then (if 0 ≤ (q_add a3 (2 : Int)) ∧ (q_add a3 (2 : Int)) < (sh.2 a0).2 then ((q_Cc 184 [(22, a2), (0, h a0 (q_add a3 (1 : Int))), (0, h a0 (q_add a3 (2 : Int)))] (sh, h)).bind (fun r => q_L 256 696 [(30, a0), (21, a1), (22, a2), (0, a3)] [r.1, (0, b0)] r.2)) else none) else none :=
  (q_unL hL_L_law cu_L_law 400 682 _ _ _).trans rfl
set_option maxHeartbeats 8000000 in
set_option maxRecDepth 100000 in
theorem e_L_law_696 (a0 a1 a2 a3 b0 b1 : Int) (sh : Int × (Int → Nat × Int)) (h : Int → Int → Int) : q_L 256 696 [(30, a0), (21, a1), (22, a2), (0, a3)] [(0, b1), (0, b0)] (sh, h) = if b0 = b1 then (q_L 256 1712 [(30, a0), (21, a1), (22, a2), (0, a3)] [] (sh, h)) else (some ((0, 0), (sh, h))) :=
  (q_unL hL_L_law cu_L_law 400 696 _ _ _).trans rfl
set_option maxHeartbeats 8000000 in
set_option maxRecDepth 100000 in
theorem e_L_law_701 (a0 a1 a2 a3 : Int) (sh : Int × (Int → Nat × Int)) (h : Int → Int → Int) : q_L 256 701 [(30, a0), (21, a1), (22, a2), (0, a3)] [] (sh, h) = (q_Cc 118 [(21, a1)] (sh, h)).bind (fun r => q_L 256 705 [(30, a0), (21, a1), (22, a2), (0, a3)] [r.1] r.2) :=
  (q_unL hL_L_law cu_L_law 400 701 _ _ _).trans rfl
set_option maxHeartbeats 8000000 in
set_option maxRecDepth 100000 in
theorem e_L_law_705 (a0 a1 a2 a3 b0 : Int) (sh : Int × (Int → Nat × Int)) (h : Int → Int → Int) : q_L 256 705 [(30, a0), (21, a1), (22, a2), (0, a3)] [(0, b0)] (sh, h) = (q_Cc 185 [(22, a2)] (sh, h)).bind (fun r => q_L 256 709 [(30, a0), (21, a1), (22, a2), (0, a3)] [r.1, (0, b0)] r.2) :=
  (q_unL hL_L_law cu_L_law 400 705 _ _ _).trans rfl
set_option maxHeartbeats 8000000 in
set_option maxRecDepth 100000 in
theorem e_L_law_709 (a0 a1 a2 a3 b0 b1 : Int) (sh : Int × (Int → Nat × Int)) (h : Int → Int → Int) : q_L 256 709 [(30, a0), (21, a1), (22, a2), (0, a3)] [(0, b1), (0, b0)] (sh, h) = if b0 = b1 then (q_L 256 1712 [(30, a0), (21, a1), (22, a2), (0, a3)] [] (sh, h)) else (some ((0, 0), (sh, h))) :=
  (q_unL hL_L_law cu_L_law 400 709 _ _ _).trans rfl
set_option maxHeartbeats 8000000 in
set_option maxRecDepth 100000 in
theorem e_L_law_714 (a0 a1 a2 a3 : Int) (sh : Int × (Int → Nat × Int)) (h : Int → Int → Int) : q_L 256 714 [(30, a0), (21, a1), (22, a2), (0, a3)] [] (sh, h) = (q_Cc 119 [(21, a1)] (sh, h)).bind (fun r => q_L 256 718 [(30, a0), (21, a1), (22, a2), (0, a3)] [r.1] r.2) :=
  (q_unL hL_L_law cu_L_law 400 714 _ _ _).trans rfl
set_option maxHeartbeats 8000000 in
set_option maxRecDepth 100000 in
theorem e_L_law_718 (a0 a1 a2 a3 b0 : Int) (sh : Int × (Int → Nat × Int)) (h : Int → Int → Int) : q_L 256 718 [(30, a0), (21, a1), (22, a2), (0, a3)] [(0, b0)] (sh, h) = (q_Cc 195 [(22, a2)] (sh, h)).bind (fun r => q_L 256 722 [(30, a0), (21, a1), (22, a2), (0, a3)] [r.1, (0, b0)] r.2) :=
  (q_unL hL_L_law cu_L_law 400 718 _ _ _).trans rfl
set_option maxHeartbeats 8000000 in
set_option maxRecDepth 100000 in
theorem e_L_law_722 (a0 a1 a2 a3 b0 b1 : Int) (sh : Int × (Int → Nat × Int)) (h : Int → Int → Int) : q_L 256 722 [(30, a0), (21, a1), (22, a2), (0, a3)] [(0, b1), (0, b0)] (sh, h) = if b0 = b1 then (q_L 256 1712 [(30, a0), (21, a1), (22, a2), (0, a3)] [] (sh, h)) else (some ((0, 0), (sh, h))) :=
  (q_unL hL_L_law cu_L_law 400 722 _ _ _).trans rfl
set_option maxHeartbeats 8000000 in
set_option maxRecDepth 100000 in
theorem e_L_law_727 (a0 a1 a2 a3 : Int) (sh : Int × (Int → Nat × Int)) (h : Int → Int → Int) : q_L 256 727 [(30, a0), (21, a1), (22, a2), (0, a3)] [] (sh, h) = if 0 ≤ (q_add a3 (1 : Int)) ∧ (q_add a3 (1 : Int)) < (sh.2 a0).2 then (if 0 ≤ (q_add a3 (2 : Int)) ∧ (q_add a3 (2 : Int)) < (sh.2 a0).2 then ((q_Cc 120 [(21, a1), (0, h a0 (q_add a3 (1 : Int))), (0, h a0 (q_add a3 (2 : Int)))] (sh, h)).bind (fun r => q_L 256 741 [(30, a0), (21, a1), (22, a2), (0, a3)] [r.1] r.2)) else none) else none :=
  (q_unL hL_L_law cu_L_law 400 727 _ _ _).trans rfl
set_option maxHeartbeats 8000000 in
set_option maxRecDepth 100000 in
theorem e_L_law_741 (a0 a1 a2 a3 b0 : Int) (sh : Int × (Int → Nat × Int)) (h : Int → Int → Int) : q_L 256 741 [(30, a0), (21, a1), (22, a2), (0, a3)] [(0, b0)] (sh, h) = if 0 ≤ (q_add a3 (1 : Int)) ∧ (q_add a3 (1 : Int)) < (sh.2 a0).2 then (if 0 ≤ (q_add a3 (2 : Int)) ∧ (q_add a3 (2 : Int)) < (sh.2 a0).2 then ((q_Cc 199 [(22, a2), (0, h a0 (q_add a3 (1 : Int))), (0, h a0 (q_add a3 (2 : Int)))] (sh, h)).bind (fun r => q_L 256 755 [(30, a0), (21, a1), (22, a2), (0, a3)] [r.1, (0, b0)] r.2)) else none) else none :=
  (q_unL hL_L_law cu_L_law 400 741 _ _ _).trans rfl
set_option maxHeartbeats 8000000 in
set_option maxRecDepth 100000 in
theorem e_L_law_755 (a0 a1 a2 a3 b0 b1 : Int) (sh : Int × (Int → Nat × Int)) (h : Int → Int → Int) : q_L 256 755 [(30, a0), (21, a1), (22, a2), (0, a3)] [(0, b1), (0, b0)] (sh, h) = if b0 = b1 then (q_L 256 1712 [(30, a0), (21, a1), (22, a2), (0, a3)] [] (sh, h)) else (some ((0, 0), (sh, h))) :=
  (q_unL hL_L_law cu_L_law 400 755 _ _ _).trans rfl
set_option maxHeartbeats 8000000 in
set_option maxRecDepth 100000 in
theorem e_L_law_760 (a0 a1 a2 a3 : Int) (sh : Int × (Int → Nat × Int)) (h : Int → Int → Int) : q_L 256 760 [(30, a0), (21, a1), (22, a2), (0, a3)] [] (sh, h) = if 0 ≤ (q_add a3 (1 : Int)) ∧ (q_add a3 (1 : Int)) < (sh.2 a0).2 then (if 0 ≤ (q_add a3 (2 : Int)) ∧ (q_add a3 (2 : Int)) < (sh.2 a0).2 then ((q_Cc 121 [(21, a1), (0, h a0 (q_add a3 (1 : Int))), (0, h a0 (q_add a3 (2 : Int)))] (sh, h)).bind (fun r => q_L 256 774 [(30, a0), (21, a1), (22, a2), (0, a3)] [r.1] r.2)) else none) else none :=
  (q_unL hL_L_law cu_L_law 400 760 _ _ _).trans rfl
set_option maxHeartbeats 8000000 in
set_option maxRecDepth 100000 in
theorem e_L_law_774 (a0 a1 a2 a3 b0 : Int) (sh : Int × (Int → Nat × Int)) (h : Int → Int → Int) : q_L 256 774 [(30, a0), (21, a1), (22, a2), (0, a3)] [(0, b0)] (sh, h) = if 0 ≤ (q_add a3 (1 : Int)) ∧ (q_add a3 (1 : Int)) < (sh.2 a0).2 then (if 0 ≤ (q_add a3 (2 : Int)) ∧ (q_add a3 (2 : Int)) < (sh.2 a0).2 then ((q_Cc 200 [(22, a2), (0, h a0 (q_add a3 (1 : Int))), (0, h a0 (q_add a3 (2 : Int)))] (sh, h)).bind (fun r => q_L 256 788 [(30, a0), (21, a1), (22, a2), (0, a3)] [r.1, (0, b0)] r.2)) else none) else none :=
  (q_unL hL_L_law cu_L_law 400 774 _ _ _).trans rfl
set_option maxHeartbeats 8000000 in
set_option maxRecDepth 100000 in
theorem e_L_law_788 (a0 a1 a2 a3 b0 b1 : Int) (sh : Int × (Int → Nat × Int)) (h : Int → Int → Int) : q_L 256 788 [(30, a0), (21, a1), (22, a2), (0, a3)] [(0, b1), (0, b0)] (sh, h) = if b0 = b1 then (q_L 256 1712 [(30, a0), (21, a1), (22, a2), (0, a3)] [] (sh, h)) else (some ((0, 0), (sh, h))) :=
  (q_unL hL_L_law cu_L_law 400 788 _ _ _).trans rfl
set_option maxHeartbeats 8000000 in
set_option maxRecDepth 100000 in
theorem e_L_law_793 (a0 a1 a2 a3 : Int) (sh : Int × (Int → Nat × Int)) (h : Int → Int → Int) : q_L 256 793 [(30, a0), (21, a1), (22, a2), (0, a3)] [] (sh, h) = if 0 ≤ (q_add a3 (1 : Int)) ∧ (q_add a3 (1 : Int)) < (sh.2 a0).2 then (if 0 ≤ (q_add a3 (2 : Int)) ∧ (q_add a3 (2 : Int)) < (sh.2 a0).2 then ((q_Cc 122 [(21, a1), (0, h a0 (q_add a3 (1 : Int))), (0, h a0 (q_add a3 (2 : Int)))] (sh, h)).bind (fun r => q_L 256 807 [(30, a0), (21, a1), (22, a2), (0, a3)] [r.1] r.2)) else none) else none :=
  (q_unL hL_L_law cu_L_law 400 793 _ _ _).trans rfl
set_option maxHeartbeats 8000000 in
set_option maxRecDepth 100000 in
theorem e_L_law_807 (a0 a1 a2 a3 b0 : Int) (sh : Int × (Int → Nat × Int)) (h : Int → Int → Int) : q_L 256 807 [(30, a0), (21, a1), (22, a2), (0, a3)] [(0, b0)] (sh, h) = if 0 ≤ (q_add a3 (1 : Int)) ∧ (q_add a3 (1 : Int)) < (sh.2 a0).2 then (if 0 ≤ (q_add a3 (2 : Int)) ∧ (q_add a3 (2 : Int)) < (sh.2 a0).2 then ((q_Cc 202 [(22, a2), (0, h a0 (q_add a3 (1 : Int))), (0, h a0 (q_add a3 (2 : Int)))] (sh, h)).bind (fun r => q_L 256 821 [(30, a0), (21, a1), (22, a2), (0, a3)] [r.1, (0, b0)] r.2)) else none) else none :=
  (q_unL hL_L_law cu_L_law 400 807 _ _ _).trans rfl
set_option maxHeartbeats 8000000 in
set_option maxRecDepth 100000 in
theorem e_L_law_821 (a0 a1 a2 a3 b0 b1 : Int) (sh : Int × (Int → Nat × Int)) (h : Int → Int → Int) : q_L 256 821 [(30, a0), (21, a1), (22, a2), (0, a3)] [(0, b1), (0, b0)] (sh, h) = if b0 = b1 then (q_L 256 1712 [(30, a0), (21, a1), (22, a2), (0, a3)] [] (sh, h)) else (some ((0, 0), (sh, h))) :=
  (q_unL hL_L_law cu_L_law 400 821 _ _ _).trans rfl
set_option maxHeartbeats 8000000 in
set_option maxRecDepth 100000 in
theorem e_L_law_826 (a0 a1 a2 a3 : Int) (sh : Int × (Int → Nat × Int)) (h : Int → Int → Int) : q_L 256 826 [(30, a0), (21, a1), (22, a2), (0, a3)] [] (sh, h) = if 0 ≤ (q_add a3 (1 : Int)) ∧ (q_add a3 (1 : Int)) < (sh.2 a0).2 then ((q_Cc 123 [(21, a1), (0, h a0 (q_add a3 (1 : Int)))] (sh, h)).bind (fun r => q_L 256 835 [(30, a0), (21, a1), (22, a2), (0, a3)] [r.1] r.2)) else none :=
  (q_unL hL_L_law cu_L_law 400 826 _ _ _).trans rfl
set_option maxHeartbeats 8000000 in
set_option maxRecDepth 100000 in
theorem e_L_law_835 (a0 a1 a2 a3 b0 : Int) (sh : Int × (Int → Nat × Int)) (h : Int → Int → Int) : q_L 256 835 [(30, a0), (21, a1), (22, a2), (0, a3)] [(0, b0)] (sh, h) = if 0 ≤ (q_add a3 (1 : Int)) ∧ (q_add a3 (1 : Int)) < (sh.2 a0).2 then ((q_Cc 211 [(22, a2), (0, h a0 (q_add a3 (1 : Int)))] (sh, h)).bind (fun r => q_L 256 844 [(30, a0), (21, a1), (22, a2), (0, a3)] [r.1, (0, b0)] r.2)) else none :=
  (q_unL hL_L_law cu_L_law 400 835 _ _ _).trans rfl
set_option maxHeartbeats 8000000 in
set_option maxRecDepth 100000 in
theorem e_L_law_844 (a0 a1 a2 a3 b0 b1 : Int) (sh : Int × (Int → Nat × Int)) (h : Int → Int → Int) : q_L 256 844 [(30, a0), (21, a1), (22, a2), (0, a3)] [(0, b1), (0, b0)] (sh, h) = if b0 = b1 then (q_L 256 1712 [(30, a0), (21, a1), (22, a2), (0, a3)] [] (sh, h)) else (some ((0, 0), (sh, h))) :=
  (q_unL hL_L_law cu_L_law 400 844 _ _ _).trans rfl
set_option maxHeartbeats 8000000 in
set_option maxRecDepth 100000 in
theorem e_L_law_849 (a0 a1 a2 a3 : Int) (sh : Int × (Int → Nat × Int)) (h : Int → Int → Int) : q_L 256 849 [(30, a0), (21, a1), (22, a2), (0, a3)] [] (sh, h) = if 0 ≤ (q_add a3 (1 : Int)) ∧ (q_add a3 (1 : Int)) < (sh.2 a0).2 then ((q_Cc 124 [(21, a1), (0, h a0 (q_add a3 (1 : Int)))] (sh, h)).bind (fun r => q_L 256 858 [(30, a0), (21, a1), (22, a2), (0, a3)] [r.1] r.2)) else none :=
  (q_unL hL_L_law cu_L_law 400 849 _ _ _).trans rfl
set_option maxHeartbeats 8000000 in
set_option maxRecDepth 100000 in
theorem e_L_law_858 (a0 a1 a2 a3 b0 : Int) (sh : Int × (Int → Nat × Int)) (h : Int → Int → Int) : q_L 256 858 [(30, a0), (21, a1), (22, a2), (0, a3)] [(0, b0)] (sh, h) = if 0 ≤ (q_add a3 (1 : Int)) ∧ (q_add a3 (1 : Int)) < (sh.2 a0).2 then ((q_Cc 212 [(22, a2), (0, h a0 (q_add a3 (1 : Int)))] (sh, h)).bind (fun r => q_L 256 867 [(30, a0), (21, a1), (22, a2), (0, a3)] [r.1, (0, b0)] r.2)) else none :=
  (q_unL hL_L_law cu_L_law 400 858 _ _ _).trans rfl
set_option maxHeartbeats 8000000 in
set_option maxRecDepth 100000 in
theorem e_L_law_867 (a0 a1 a2 a3 b0 b1 : Int) (sh : Int × (Int → Nat × Int)) (h : Int → Int → Int) : q_L 256 867 [(30, a0), (21, a1), (22, a2), (0, a3)] [(0, b1), (0, b0)] (sh, h) = if b0 = b1 then (q_L 256 1712 [(30, a0), (21, a1), (22, a2), (0, a3)] [] (sh, h)) else (some ((0, 0), (sh, h))) :=
  (q_unL hL_L_law cu_L_law 400 867 _ _ _).trans rfl
set_option maxHeartbeats 8000000 in
set_option maxRecDepth 100000 in
theorem e_L_law_872 (a0 a1 a2 a3 : Int) (sh : Int × (Int → Nat × Int)) (h : Int → Int → Int) : q_L 256 872 [(30, a0), (21, a1), (22, a2), (0, a3)] [] (sh, h) = if 0 ≤ (q_add a3 (1 : Int)) ∧ (q_add a3 (1 : Int)) < (sh.2 a0).2 then ((q_Cc 125 [(21, a1), (0, h a0 (q_add a3 (1 : Int)))] (sh, h)).bind (fun r => q_L 256 881 [(30, a0), (21, a1), (22, a2), (0, a3)] [r.1] r.2)) else none :=
  (q_unL hL_L_law cu_L_law 400 872 _ _ _).trans rfl
set_option maxHeartbeats 8000000 in
set_option maxRecDepth 100000 in
theorem e_L_law_881 (a0 a1 a2 a3 b0 : Int) (sh : Int × (Int → Nat × Int)) (h : Int → Int → Int) : q_L 256 881 [(30, a0), (21, a1), (22, a2), (0, a3)] [(0, b0)] (sh, h) = if 0 ≤ (q_add a3 (1 : Int)) ∧ (q_add a3 (1 : Int)) < (sh.2 a0).2 then ((q_Cc 213 [(22, a2), (0, h a0 (q_add a3 (1 : Int)))] (sh, h)).bind (fun r => q_L 256 890 [(30, a0), (21, a1), (22, a2), (0, a3)] [r.1, (0, b0)] r.2)) else none :=
  (q_unL hL_L_law cu_L_law 400 881 _ _ _).trans rfl
set_option maxHeartbeats 8000000 in
set_option maxRecDepth 100000 in
theorem e_L_law_890 (a0 a1 a2 a3 b0 b1 : Int) (sh : Int × (Int → Nat × Int)) (h : Int → Int → Int) : q_L 256 890 [(30, a0), (21, a1), (22, a2), (0, a3)] [(0, b1), (0, b0)] (sh, h) = if b0 = b1 then (q_L 256 1712 [(30, a0), (21, a1), (22, a2), (0, a3)] [] (sh, h)) else (some ((0, 0), (sh, h))) :=
  (q_unL hL_L_law cu_L_law 400 890 _ _ _).trans rfl
set_option maxHeartbeats 8000000 in
set_option maxRecDepth 100000 in
theorem e_L_law_895 (a0 a1 a2 a3 : Int) (sh : Int × (Int → Nat × Int)) (h : Int → Int → Int) : q_L 256 895 [(30, a0), (21, a1), (22, a2), (0, a3)] [] (sh, h) = if 0 ≤ (q_add a3 (1 : Int)) ∧ (q_add a3 (1 : Int)) < (sh.2 a0).2 then (if 0 ≤ (q_add a3 (2 : Int)) ∧ (q_add a3 (2 : Int)) < (sh.2 a0).2 then ((q_Cc 126 [(21, a1), (0, h a0 (q_add a3 (1 : Int))), (0, h a0 (q_add a3 (2 : Int)))] (sh, h)).bind (fun r => q_L 256 909 [(30, a0), (21, a1), (22, a2), (0, a3)] [r.1] r.2)) else none) else none :=
  (q_unL hL_L_law cu_L_law 400 895 _ _ _).trans rfl
set_option maxHeartbeats 8000000 in
set_option maxRecDepth 100000 in
theorem e_L_law_909 (a0 a1 a2 a3 b0 : Int) (sh : Int × (Int → Nat × Int)) (h : Int → Int → Int) : q_L 256 909 [(30, a0), (21, a1), (22, a2), (0, a3)] [(0, b0)] (sh, h) = if 0 ≤ (q_add a3 (1 : Int)) ∧ (q_add a3 (1 : Int)) < (sh.2 a0).2 then (if 0 ≤ (q_add a3 (2 : Int)) ∧ (q_add a3 (2 : Int)) < (sh.2 a0).2 then ((q_Cc 215 [(22, a2), (0, h a0 (q_add a3 (1 : Int))), (0, h a0 (q_add a3 (2 : Int)))] (sh, h)).bind (fun r => q_L 256 923 [(30, a0), (21, a1), (22, a2), (0, a3)] [r.1, (0, b0)] r.2)) else none) else none :=
  (q_unL hL_L_law cu_L_law 400 909 _ _ _).trans rfl
set_option maxHeartbeats 8000000 in
set_option maxRecDepth 100000 in
theorem e_L_law_923 (a0 a1 a2 a3 b0 b1 : Int) (sh : Int × (Int → Nat × Int)) (h : Int → Int → Int) : q_L 256 923 [(30, a0), (21, a1), (22, a2), (0, a3)] [(0, b1), (0, b0)] (sh, h) = if b0 = b1 then (q_L 256 1712 [(30, a0), (21, a1), (22, a2), (0, a3)] [] (sh, h)) else (some ((0, 0), (sh, h))) :=
  (q_unL hL_L_law cu_L_law 400 923 _ _ _).trans rfl
set_option maxHeartbeats 8000000 in
set_option maxRecDepth 100000 in
theorem e_L_law_928 (a0 a1 a2 a3 : Int) (sh : Int × (Int → Nat × Int)) (h : Int → Int → Int) : q_L 256 928 [(30, a0), (21, a1), (22, a2), (0, a3)] [] (sh, h) = if 0 ≤ (q_add a3 (1 : Int)) ∧ (q_add a3 (1 : Int)) < (sh.2 a0).2 then (if 0 ≤ (q_add a3 (2 : Int)) ∧ (q_add a3 (2 : Int)) < (sh.2 a0).2 then ((q_Cc 127 [(21, a1), (0, h a0 (q_add a3 (1 : Int))), (0, h a0 (q_add a3 (2 : Int)))] (sh, h)).bind (fun r => q_L 256 942 [(30, a0), (21, a1), (22, a2), (0, a3)] [r.1] r.2)) else none) else none :=
  (q_unL hL_L_law cu_L_law 400 928 _ _ _).trans rfl
set_option maxHeartbeats 8000000 in
set_option maxRecDepth 100000 in
theorem e_L_law_942 (a0 a1 a2 a3 b0 : Int) (sh : Int × (Int → Nat × Int)) (h : Int → Int → Int) : q_L 256 942 [(30, a0), (21, a1), (22, a2), (0, a3)] [(0, b0)] (sh, h) = if 0 ≤ (q_add a3 (1 : Int)) ∧ (q_add a3 (1 : Int)) < (sh.2 a0).2 then (if 0 ≤ (q_add a3 (2 : Int)) ∧ (q_add a3 (2 : Int)) < (sh.2 a0).2 then ((q_Cc 217 [(22, a2), (0, h a0 (q_add a3 (1 : Int))), (0, h a0 (q_add a3 (2 : Int)))] (sh, h)).bind (fun r => q_L 256 956 [(30, a0), (21, a1), (22, a2), (0, a3)] [r.1, (0, b0)] r.2)) else none) else none :=
  (q_unL hL_L_law cu_L_law 400 942 _ _ _).trans rfl
set_option maxHeartbeats 8000000 in
set_option maxRecDepth 100000 in
theorem e_L_law_956 (a0 a1 a2 a3 b0 b1 : Int) (sh : Int × (Int → Nat × Int)) (h : Int → Int → Int) : q_L 256 956 [(30, a0), (21, a1), (22, a2), (0, a3)] [(0, b1), (0, b0)] (sh, h) = if b0 = b1 then (q_L 256 1712 [(30, a0), (21, a1), (22, a2), (0, a3)] [] (sh, h)) else (some ((0, 0), (sh, h))) :=
  (q_unL hL_L_law cu_L_law 400 956 _ _ _).trans rfl
set_option maxHeartbeats 8000000 in
set_option maxRecDepth 100000 in
theorem e_L_law_961 (a0 a1 a2 a3 : Int) (sh : Int × (Int → Nat × Int)) (h : Int → Int → Int) : q_L 256 961 [(30, a0), (21, a1), (22, a2), (0, a3)] [] (sh, h) = if 0 ≤ (q_add a3 (1 : Int)) ∧ (q_add a3 (1 : Int)) < (sh.2 a0).2 then ((q_Cc 128 [(21, a1), (0, h a0 (q_add a3 (1 : Int)))] (sh, h)).bind (fun r => q_L 256 970 [(30, a0), (21, a1), (22, a2), (0, a3)] [r.1] r.2)) else none :=
  (q_unL hL_L_law cu_L_law 400 961 _ _ _).trans rfl
set_option maxHeartbeats 8000000 in
set_option maxRecDepth 100000 in
theorem e_L_law_970 (a0 a1 a2 a3 b0 : Int) (sh : Int × (Int → Nat × Int)) (h : Int → Int → Int) : q_L 256 970 [(30, a0), (21, a1), (22, a2), (0, a3)] [(0, b0)] (sh, h) = if 0 ≤ (q_add a3 (1 : Int)) ∧ (q_add a3 (1 : Int)) < (sh.2 a0).2 then ((q_Cc 218 [(22, a2), (0, h a0 (q_add a3 (1 : Int)))] (sh, h)).bind (fun r => q_L 256 979 [(30, a0), (21, a1), (22, a2), (0, a3)] [r.1, (0, b0)] r.2)) else none :=
  (q_unL hL_L_law cu_L_law 400 970 _ _ _).trans rfl
set_option maxHeartbeats 8000000 in
set_option maxRecDepth 100000 in
theorem e_L_law_979 (a0 a1 a2 a3 b0 b1 : Int) (sh : Int × (Int → Nat × Int)) (h : Int → Int → Int) : q_L 256 979 [(30, a0), (21, a1), (22, a2), (0, a3)] [(0, b1), (0, b0)] (sh, h) = if b0 = b1 then (q_L 256 1712 [(30, a0), (21, a1), (22, a2), (0, a3)] [] (sh, h)) else (some ((0, 0), (sh, h))) :=
  (q_unL hL_L_law cu_L_law 400 979 _ _ _).trans rfl
set_option maxHeartbeats 8000000 in
set_option maxRecDepth 100000 in
theorem e_L_law_984 (a0 a1 a2 a3 : Int) (sh : Int × (Int → Nat × Int)) (h : Int → Int → Int) : q_L 256 984 [(30, a0), (21, a1), (22, a2), (0, a3)] [] (sh, h) = (q_Cc 129 [(21, a1)] (sh, h)).bind (fun r => q_L 256 988 [(30, a0), (21, a1), (22, a2), (0, a3)] [r.1] r.2) :=
  (q_unL hL_L_law cu_L_law 400 984 _ _ _).trans rfl
set_option maxHeartbeats 8000000 in
set_option maxRecDepth 100000 in
theorem e_L_law_988 (a0 a1 a2 a3 b0 : Int) (sh : Int × (Int → Nat × Int)) (h : Int → Int → Int) : q_L 256 988 [(30, a0), (21, a1), (22, a2), (0, a3)] [(0, b0)] (sh, h) = (q_Cc 219 [(22, a2)] (sh, h)).bind (fun r => q_L 256 992 [(30, a0), (21, a1), (22, a2), (0, a3)] [r.1, (0, b0)] r.2) :=
  (q_unL hL_L_law cu_L_law 400 988 _ _ _).trans rfl
set_option maxHeartbeats 8000000 in
set_option maxRecDepth 100000 in
theorem e_L_law_992 (a0 a1 a2 a3 b0 b1 : Int) (sh : Int × (Int → Nat × Int)) (h : Int → Int → Int) : q_L 256 992 [(30, a0), (21, a1), (22, a2), (0, a3)] [(0, b1), (0, b0)] (sh, h) = if b0 = b1 then (q_L 256 1712 [(30, a0), (21, a1), (22, a2), (0, a3)] [] (sh, h)) else (some ((0, 0), (sh, h))) :=
  (q_unL hL_L_law cu_L_law 400 992 _ _ _).trans rfl
set_option maxHeartbeats 8000000 in
set_option maxRecDepth 100000 in
theorem e_L_law_997 (a0 a1 a2 a3 : Int) (sh : Int × (Int → Nat × Int)) (h : Int → Int → Int) : q_L 256 997 [(30, a0), (21, a1), (22, a2), (0, a3)] [] (sh, h) = if 0 ≤ (q_add a3 (1 : Int)) ∧ (q_add a3 (1 : Int)) < (sh.2 a0).2 then ((q_Cc 130 [(21, a1), (0, h a0 (q_add a3 (1 : Int)))] (sh, h)).bind (fun r => q_L 256 1006 [(30, a0), (21, a1), (22, a2), (0, a3)] [r.1] r.2)) else none :=
  (q_unL hL_L_law cu_L_law 400 997 _ _ _).trans rfl
set_option maxHeartbeats 8000000 in
set_option maxRecDepth 100000 in
theorem e_L_law_1006 (a0 a1 a2 a3 b0 : Int) (sh : Int × (Int → Nat × Int)) (h : Int → Int → Int) : q_L 256 1006 [(30, a0), (21, a1), (22, a2), (0, a3)] [(0, b0)] (sh, h) = if 0 ≤ (q_add a3 (1 : Int)) ∧ (q_add a3 (1 : Int)) < (sh.2 a0).2 then ((q_Cc 220 [(22, a2), (0, h a0 (q_add a3 (1 : Int)))] (sh, h)).bind (fun r => q_L 256 1015 [(30, a0), (21, a1), (22, a2), (0, a3)] [r.1, (0, b0)] r.2)) else none :=
  (q_unL hL_L_law cu_L_law 400 1006 _ _ _).trans rfl
set_option maxHeartbeats 8000000 in
set_option maxRecDepth 100000 in
theorem e_L_law_1015 (a0 a1 a2 a3 b0 b1 : Int) (sh : Int × (Int → Nat × Int)) (h : Int → Int → Int) : q_L 256 1015 [(30, a0), (21, a1), (22, a2), (0, a3)] [(0, b1), (0, b0)] (sh, h) = if b0 = b1 then (q_L 256 1712 [(30, a0), (21, a1), (22, a2), (0, a3)] [] (sh, h)) else (some ((0, 0), (sh, h))) :=
  (q_unL hL_L_law cu_L_law 400 1015 _ _ _).trans rfl
set_option maxHeartbeats 8000000 in
set_option maxRecDepth 100000 in
theorem e_L_law_1020 (a0 a1 a2 a3 : Int) (sh : Int × (Int → Nat × Int)) (h : Int → Int → Int) : q_L 256 1020 [(30, a0), (21, a1), (22, a2), (0, a3)] [] (sh, h) = if 0 ≤ (q_add a3 (1 : Int)) ∧ (q_add a3 (1 : Int)) < (sh.2 a0).2 then ((q_Cc 131 [(21, a1), (0, h a0 (q_add a3 (1 : Int)))] (sh, h)).bind (fun r => q_L 256 1029 [(30, a0), (21, a1), (22, a2), (0, a3)] [r.1] r.2)) else none :=
  (q_unL hL_L_law cu_L_law 400 1020 _ _ _).trans rfl
set_option maxHeartbeats 8000000 in
set_option maxRecDepth 100000 in
theorem e_L_law_1029 (a0 a1 a2 a3 b0 : Int) (sh : Int × (Int → Nat × Int)) (h : Int → Int → Int) : q_L 256 1029 [(30, a0), (21, a1), (22, a2), (0, a3)] [(0, b0)] (sh, h) = if 0 ≤ (q_add a3 (1 : Int)) ∧ (q_add a3 (1 : Int)) < (sh.2 a0).2 then ((q_Cc 227 [(22, a2), (0, h a0 (q_add a3 (1 : Int)))] (sh, h)).bind (fun r => q_L 256 1038 [(30, a0), (21, a1), (22, a2), (0, a3)] [r.1, (0, b0)] r.2)) else none :=
  (q_unL hL_L_law cu_L_law 400 1029 _ _ _).trans rfl
set_option maxHeartbeats 8000000 in
set_option maxRecDepth 100000 in
theorem e_L_law_1038 (a0 a1 a2 a3 b0 b1 : Int) (sh : Int × (Int → Nat × Int)) (h : Int → Int → Int) : q_L 256 1038 [(30, a0), (21, a1), (22, a2), (0, a3)] [(0, b1), (0, b0)] (sh, h) = if b0 = b1 then (q_L 256 1712 [(30, a0), (21, a1), (22, a2), (0, a3)] [] (sh, h)) else (some ((0, 0), (sh, h))) :=
  (q_unL hL_L_law cu_L_law 400 1038 _ _ _).trans rfl
set_option maxHeartbeats 8000000 in
set_option maxRecDepth 100000 in
theorem e_L_law_1043 (a0 a1 a2 a3 : Int) (sh : Int × (Int → Nat × Int)) (h : Int → Int → Int) : q_L 256 1043 [(30, a0), (21, a1), (22, a2), (0, a3)] [] (sh, h) = if 0 ≤ (q_add a3 (1 : Int)) ∧ (q_add a3 (1 : Int)) < (sh.2 a0).2 then (if 0 ≤ (q_add a3 (2 : Int)) ∧ (q_add a3 (2 : Int)) < (sh.2 a0).2 then (if 0 ≤ (q_add a3 (3 : Int)) ∧ (q_add a3 (3 : Int)) < (sh.2 a0).2 then ((q_Cc 132 [(21, a1), (0, h a0 (q_add a3 (1 : Int))), (0, h a0 (q_add a3 (2 : Int))), (0, h a0 (q_add a3 (3 : Int)))] (sh, h)).bind (fun r => q_L 256 1062 [(30, a0), (21, a1), (22, a2), (0, a3)] [r.1] r.2)) else none) else none) else none :=
  (q_unL hL_L_law cu_L_law 400 1043 _ _ _).trans rfl
set_option maxHeartbeats 8000000 in
set_option maxRecDepth 100000 in
theorem e_L_law_1062 (a0 a1 a2 a3 b0 : Int) (sh : Int × (Int → Nat × Int)) (h : Int → Int → Int) : q_L 256 1062 [(30, a0), (21, a1), (22, a2), (0, a3)] [(0, b0)] (sh, h) = if 0 ≤ (q_add a3 (1 : Int)) ∧ (q_add a3 (1 : Int)) < (sh.2 a0).2 then (if 0 ≤ (q_add a3 (2 : Int)) ∧ (q_add a3 (2 : Int)) < (sh.2 a0).2 then (if 0 ≤ (q_add a3 (3 : Int)) ∧ (q_add a3 (3 : Int)) < (sh.2 a0).2 then ((q_Cc 228 [(22, a2), (0, h a0 (q_add a3 (1 : Int))), (0, h a0 (q_add a3 (2 : Int))), (0, h a0 (q_add a3 (3 : Int)))] (sh, h)).bind (fun r => q_L 256 1081 [(30, a0), (21, a1), (22, a2), (0, a3)] [r.1, (0, b0)] r.2)) else none) else none) else none :=
  (q_unL hL_L_law cu_L_law 400 1062 _ _ _).trans rfl
set_option maxHeartbeats 8000000 in
set_option maxRecDepth 100000 in
theorem e_L_law_1081 (a0 a1 a2 a3 b0 b1 : Int) (sh : Int × (Int → Nat × Int)) (h : Int → Int → Int) : q_L 256 1081 [(30, a0), (21, a1), (22, a2), (0, a3)] [(0, b1), (0, b0)] (sh, h) = if b0 = b1 then (q_L 256 1712 [(30, a0), (21, a1), (22, a2), (0, a3)] [] (sh, h)) else (some ((0, 0), (sh, h))) :=
  (q_unL hL_L_law cu_L_law 400 1081 _ _ _).trans rfl
set_option maxHeartbeats 8000000 in
set_option maxRecDepth 100000 in
theorem e_L_law_1086 (a0 a1 a2 a3 : Int) (sh : Int × (Int → Nat × Int)) (h : Int → Int → Int) : q_L 256 1086 [(30, a0), (21, a1), (22, a2), (0, a3)] [] (sh, h) = if 0 ≤ (q_add a3 (1 : Int)) ∧ (q_add a3 (1 : Int)) < (sh.2 a0).2 then (if 0 ≤ (q_add a3 (2 : Int)) ∧ (q_add a3 (2 : Int)) < (sh.2 a0).2 then ((q_Cc 133 [(21, a1), (0, h a0 (q_add a3 (1 : Int))), (0, h a0 (q_add a3 (2 : Int)))] (sh, h)).bind (fun r => q_L 256 1100 [(30, a0), (21, a1), (22, a2), (0, a3)] [r.1] r.2)) else none) else none :=
  (q_unL hL_L_law cu_L_law 400 1086 _ _ _).trans rfl
set_option maxHeartbeats 8000000 in
set_option maxRecDepth 100000 in
theorem e_L_law_1100 (a0 a1 a2 a3 b0 : Int) (sh : Int × (Int → Nat × Int)) (h : Int → Int → Int) : q_L 256 1100 [(30, a0), (21, a1), (22, a2), (0, a3)] [(0, b0)] (sh, h) = if 0 ≤ (q_add a3 (1 : Int)) ∧ (q_add a3 (1 : Int)) < (sh.2 a0).2 then (if 0 ≤ (q_add a3 (2 : Int)) ∧ (q_add a3 (2 : Int)) < (sh.2 a0).2 then ((q_Cc 229 [(22, a2), (0, h a0 (q_add a3 (1 : Int))), (0, h a0 (q_add a3 (2 : Int)))] (sh, h)).bind (fun r => q_L 256 1114 [(30, a0), (21, a1), (22, a2), (0, a3)] [r.1, (0, b0)] r.2)) else none) else none :=
  (q_unL hL_L_law cu_L_law 400 1100 _ _ _).trans rfl
set_option maxHeartbeats 8000000 in
set_option maxRecDepth 100000 in
theorem e_L_law_1114 (a0 a1 a2 a3 b0 b1 : Int) (sh : Int × (Int → Nat × Int)) (h : Int → Int → Int) : q_L 256 1114 [(30, a0), (21, a1), (22, a2), (0, a3)] [(0, b1), (0, b0)] (sh, h) = if b0 = b1 then (q_L 256 1712 [(30, a0), (21, a1), (22, a2), (0, a3)] [] (sh, h)) else (some ((0, 0), (sh, h))) :=
  (q_unL hL_L_law cu_L_law 400 1114 _ _ _).trans rfl
set_option maxHeartbeats 8000000 in
set_option maxRecDepth 100000 in
theorem e_L_law_1119 (a0 a1 a2 a3 : Int) (sh : Int × (Int → Nat × Int)) (h : Int → Int → Int) : q_L 256 1119 [(30, a0), (21, a1), (22, a2), (0, a3)] [] (sh, h) = if 0 ≤ (q_add a3 (1 : Int)) ∧ (q_add a3 (1 : Int)) < (sh.2 a0).2 then (if 0 ≤ (q_add a3 (2 : Int)) ∧ (q_add a3 (2 : Int)) < (sh.2 a0).2 then ((q_Cc 134 [(21, a1), (0, h a0 (q_add a3 (1 : Int))), (0, h a0 (q_add a3 (2 : Int)))] (sh, h)).bind (fun r => q_L 256 1133 [(30, a0), (21, a1), (22, a2), (0, a3)] [r.1] r.2)) else none) else none :=
  (q_unL hL_L_law cu_L_law 400 1119 _ _ _).trans rfl
set_option maxHeartbeats 8000000 in
set_option maxRecDepth 100000 in
theorem e_L_law_1133 (a0 a1 a2 a3 b0 : Int) (sh : Int × (Int → Nat × Int)) (h : Int → Int → Int) : q_L 256 1133 [(30, a0), (21, a1), (22, a2), (0, a3)] [(0, b0)] (sh, h) = if 0 ≤ (q_add a3 (1 : Int)) ∧ (q_add a3 (1 : Int)) < (sh.2 a0).2 then (if 0 ≤ (q_add a3 (2 : Int)) ∧ (q_add a3 (2 : Int)) < (sh.2 a0).2 then ((q_Cc 231 [(22, a2), (0, h a0 (q_add a3 (1 : Int))), (0, h a0 (q_add a3 (2 : Int)))] (sh, h)).bind (fun r => q_L 256 1147 [(30, a0), (21, a1), (22, a2), (0, a3)] [r.1, (0, b0)] r.2)) else none) else none :=
  (q_unL hL_L_law cu_L_law 400 1133 _ _ _).trans rfl
set_option maxHeartbeats 8000000 in
set_option maxRecDepth 100000 in
theorem e_L_law_1147 (a0 a1 a2 a3 b0 b1 : Int) (sh : Int × (Int → Nat × Int)) (h : Int → Int → Int) : q_L 256 1147 [(30, a0), (21, a1), (22, a2), (0, a3)] [(0, b1), (0, b0)] (sh, h) = if b0 = b1 then (q_L 256 1712 [(30, a0), (21, a1), (22, a2), (0, a3)] [] (sh, h)) else (some ((0, 0), (sh, h))) :=
  (q_unL hL_L_law cu_L_law 400 1147 _ _ _).trans rfl
set_option maxHeartbeats 8000000 in
set_option maxRecDepth 100000 in
theorem e_L_law_1152 (a0 a1 a2 a3 : Int) (sh : Int × (Int → Nat × Int)) (h : Int → Int → Int) : q_L 256 1152 [(30, a0), (21, a1), (22, a2), (0, a3)] [] (sh, h) = if 0 ≤ (q_add a3 (1 : Int)) ∧ (q_add a3 (1 : Int)) < (sh.2 a0).2 then (if 0 ≤ (q_add a3 (2 : Int)) ∧ (q_add a3 (2 : Int)) < (sh.2 a0).2 then ((q_Cc 135 [(21, a1), (0, h a0 (q_add a3 (1 : Int))), (0, h a0 (q_add a3 (2 : Int)))] (sh, h)).bind (fun r => q_L 256 1166 [(30, a0), (21, a1), (22, a2), (0, a3)] [r.1] r.2)) else none) else none :=
  (q_unL hL_L_law cu_L_law 400 1152 _ _ _).trans rfl
set_option maxHeartbeats 8000000 in
set_option maxRecDepth 100000 in
theorem e_L_law_1166 (a0 a1 a2 a3 b0 : Int) (sh : Int × (Int → Nat × Int)) (h : Int → Int → Int) : q_L 256 1166 [(30, a0), (21, a1), (22, a2), (0, a3)] [(0, b0)] (sh, h) = if 0 ≤ (q_add a3 (1 : Int)) ∧ (q_add a3 (1 : Int)) < (sh.2 a0).2 then (if 0 ≤ (q_add a3 (2 : Int)) ∧ (q_add a3 (2 : Int)) < (sh.2 a0).2 then ((q_Cc 232 [(22, a2), (0, h a0 (q_add a3 (1 : Int))), (0, h a0 (q_add a3 (2 : Int)))] (sh, h)).bind (fun r => q_L 256 1180 [(30, a0), (21, a1), (22, a2), (0, a3)] [r.1, (0, b0)] r.2)) else none) else none :=
  (q_unL hL_L_law cu_L_law 400 1166 _ _ _).trans rfl
set_option maxHeartbeats 8000000 in
set_option maxRecDepth 100000 in
theorem e_L_law_1180 (a0 a1 a2 a3 b0 b1 : Int) (sh : Int × (Int → Nat × Int)) (h : Int → Int → Int) : q_L 256 1180 [(30, a0), (21, a1), (22, a2), (0, a3)] [(0, b1), (0, b0)] (sh, h) = if b0 = b1 then (q_L 256 1712 [(30, a0), (21, a1), (22, a2), (0, a3)] [] (sh, h)) else (some ((0, 0), (sh, h))) :=
  (q_unL hL_L_law cu_L_law 400 1180 _ _ _).trans rfl
set_option maxHeartbeats 8000000 in
set_option maxRecDepth 100000 in
theorem e_L_law_1185 (a0 a1 a2 a3 : Int) (sh : Int × (Int → Nat × Int)) (h : Int → Int → Int) : q_L 256 1185 [(30, a0), (21, a1), (22, a2), (0, a3)] [] (sh, h) = if 0 ≤ (q_add a3 (1 : Int)) ∧ (q_add a3 (1 : Int)) < (sh.2 a0).2 then (if 0 ≤ (q_add a3 (2 : Int)) ∧ (q_add a3 (2 : Int)) < (sh.2 a0).2 then ((q_Cc 136 [(21, a1), (0, h a0 (q_add a3 (1 : Int))), (0, h a0 (q_add a3 (2 : Int)))] (sh, h)).bind (fun r => q_L 256 1199 [(30, a0), (21, a1), (22, a2), (0, a3)] [r.1] r.2)) else none) else none :=
  (q_unL hL_L_law cu_L_law 400 1185 _ _ _).trans rfl
set_option maxHeartbeats 8000000 in
set_option maxRecDepth 100000 in
theorem e_L_law_1199 (a0 a1 a2 a3 b0 : Int) (sh : Int × (Int → Nat × Int)) (h : Int → Int → Int) : q_L 256 1199 [(30, a0), (21, a1), (22, a2), (0, a3)] [(0, b0)] (sh, h) = if 0 ≤ (q_add a3 (1 : Int)) ∧ (q_add a3 (1 : Int)) < (sh.2 a0).2 then (if 0 ≤ (q_add a3 (2 : Int)) ∧ (q_add a3 (2 : Int)) < (sh.2 a0).2 then ((q_Cc 234 [(22, a2), (0, h a0 (q_add a3 (1 : Int))), (0, h a0 (q_add a3 (2 : Int)))] (sh, h)).bind (fun r => q_L 256 1213 [(30, a0), (21, a1), (22, a2), (0, a3)] [r.1, (0, b0)] r.2)) else none) else none :=
  (q_unL hL_L_law cu_L_law 400 1199 _ _ _).trans rfl
set_option maxHeartbeats 8000000 in
set_option maxRecDepth 100000 in
theorem e_L_law_1213 (a0 a1 a2 a3 b0 b1 : Int) (sh : Int × (Int → Nat × Int)) (h : Int → Int → Int) : q_L 256 1213 [(30, a0), (21, a1), (22, a2), (0, a3)] [(0, b1), (0, b0)] (sh, h) = if b0 = b1 then (q_L 256 1712 [(30, a0), (21, a1), (22, a2), (0, a3)] [] (sh, h)) else (some ((0, 0), (sh, h))) :=
  (q_unL hL_L_law cu_L_law 400 1213 _ _ _).trans rfl
set_option maxHeartbeats 8000000 in
set_option maxRecDepth 100000 in
theorem e_L_law_1218 (a0 a1 a2 a3 : Int) (sh : Int × (Int → Nat × Int)) (h : Int → Int → Int) : q_L 256 1218 [(30, a0), (21, a1), (22, a2), (0, a3)] [] (sh, h) = if 0 ≤ (q_add a3 (1 : Int)) ∧ (q_add a3 (1 : Int)) < (sh.2 a0).2 then (if 0 ≤ (q_add a3 (2 : Int)) ∧ (q_add a3 (2 : Int)) < (sh.2 a0).2 then (if 0 ≤ (q_add a3 (3 : Int)) ∧ (q_add a3 (3 : Int)) < (sh.2 a0).2 then ((q_Cc 137 [(21, a1), (0, h a0 (q_add a3 (1 : Int))), (0, h a0 (q_add a3 (2 : Int))), (0, h a0 (q_add a3 (3 : Int)))] (sh, h)).bind (fun r => q_L 256 1237 [(30, a0), (21, a1), (22, a2), (0, a3)] [r.1] r.2)) else none) else none) else none :=
  (q_unL hL_L_law cu_L_law 400 1218 _ _ _).trans rfl
set_option maxHeartbeats 8000000 in
set_option maxRecDepth 100000 in
theorem e_L_law_1237 (a0 a1 a2 a3 b0 : Int) (sh : Int × (Int → Nat × Int)) (h : Int → Int → Int) : q_L 256 1237 [(30, a0), (21, a1), (22, a2), (0, a3)] [(0, b0)] (sh, h) = if 0 ≤ (q_add a3 (1 : Int)) ∧ (q_add a3 (1 : Int)) < (sh.2 a0).2 then (if 0 ≤ (q_add a3 (2 : Int)) ∧ (q_add a3 (2 : Int)) < (sh.2 a0).2 then (if 0 ≤ (q_add a3 (3 : Int)) ∧ (q_add a3 (3 : Int)) < (sh.2 a0).2 then ((q_Cc 235 [(22, a2), (0, h a0 (q_add a3 (1 : Int))), (0, h a0 (q_add a3 (2 : Int))), (0, h a0 (q_add a3 (3 : Int)))] (sh, h)).bind (fun r => q_L 256 1256 [(30, a0), (21, a1), (22, a2), (0, a3)] [r.1, (0, b0)] r.2)) else none) else none) else none :=
  (q_unL hL_L_law cu_L_law 400 1237 _ _ _).trans rfl
set_option maxHeartbeats 8000000 in
set_option maxRecDepth 100000 in
theorem e_L_law_1256 (a0 a1 a2 a3 b0 b1 : Int) (sh : Int × (Int → Nat × Int)) (h : Int → Int → Int) : q_L 256 1256 [(30, a0), (21, a1), (22, a2), (0, a3)] [(0, b1), (0, b0)] (sh, h) = if b0 = b1 then (q_L 256 1712 [(30, a0), (21, a1), (22, a2), (0, a3)] [] (sh, h)) else (some ((0, 0), (sh, h))) :=
  (q_unL hL_L_law cu_L_law 400 1256 _ _ _).trans rfl
set_option maxHeartbeats 8000000 in
set_option maxRecDepth 100000 in
theorem e_L_law_1261 (a0 a1 a2 a3 : Int) (sh : Int × (Int → Nat × Int)) (h : Int → Int → Int) : q_L 256 1261 [(30, a0), (21, a1), (22, a2), (0, a3)] [] (sh, h) = if 0 ≤ (q_add a3 (1 : Int)) ∧ (q_add a3 (1 : Int)) < (sh.2 a0).2 then (if 0 ≤ (q_add a3 (2 : Int)) ∧ (q_add a3 (2 : Int)) < (sh.2 a0).2 then (if 0 ≤ (q_add a3 (3 : Int)) ∧ (q_add a3 (3 : Int)) < (sh.2 a0).2 then (if 0 ≤ (q_add a3 (4 : Int)) ∧ (q_add a3 (4 : Int)) < (sh.2 a0).2 then (if (h a0 (q_add a3 (4 : Int))) = 0 then (q_L 256 1290 [(30, a0), (21, a1), (22, a2), (0, a3)] [(0, 0), (0, h a0 (q_add a3 (3 : Int))), (0, h a0 (q_add a3 (2 : Int))), (0, h a0 (q_add a3 (1 : Int))), (21, a1)] (sh, h)) else (q_L 256 1290 [(30, a0), (21, a1), (22, a2), (0, a3)] [(0, 1), (0, h a0 (q_add a3 (3 : Int))), (0, h a0 (q_add a3 (2 : Int))), (0, h a0 (q_add a3 (1 : Int))), (21, a1)] (sh, h))) else none) else none) else none) else none :=
  (q_unL hL_L_law cu_L_law 400 1261 _ _ _).trans rfl
set_option maxHeartbeats 8000000 in
set_option maxRecDepth 100000 in
theorem e_L_law_1290 (a0 a1 a2 a3 b0 b1 b2 b3 b4 : Int) (sh : Int × (Int → Nat × Int)) (h : Int → Int → Int) : q_L 256 1290 [(30, a0), (21, a1), (22, a2), (0, a3)] [(0, b4), (0, b3), (0, b2), (0, b1), (21, b0)] (sh, h) = (q_Cc 138 [(21, b0), (0, b1), (0, b2), (0, b3), (0, b4)] (sh, h)).bind (fun r => q_L 256 1293 [(30, a0), (21, a1), (22, a2), (0, a3)] [r.1] r.2) :=
  (q_unL hL_L_law cu_L_law 400 1290 _ _ _).trans rfl
set_option maxHeartbeats 8000000 in
set_option maxRecDepth 100000 in
theorem e_L_law_1293 (a0 a1 a2 a3 b0 : Int) (sh : Int × (Int → Nat × Int)) (h : Int → Int → Int) : q_L 256 1293 [(30, a0), (21, a1), (22, a2), (0, a3)] [(0, b0)] (sh, h) = if 0 ≤ (q_add a3 (1 : Int)) ∧ (q_add a3 (1 : Int)) < (sh.2 a0).2 then (if 0 ≤ (q_add a3 (2 : Int)) ∧ (q_add a3 (2 : Int)) < (sh.2 a0).2 then (if 0 ≤ (q_add a3 (3 : Int)) ∧ (q_add a3 (3 : Int)) < (sh.2 a0).2 then (if 0 ≤ (q_add a3 (4 : Int)) ∧ (q_add a3 (4 : Int)) < (sh.2 a0).2 then (if (h a0 (q_add a3 (4 : Int))) = 0 then (q_L 256 1322 [(30, a0), (21, a1), (22, a2), (0, a3)] [(0, 0), (0, h a0 (q_add a3 (3 : Int))), (0, h a0 (q_add a3 (2 : Int))), (0, h a0 (q_add a3 (1 : Int))), (22, a2), (0, b0)] (sh, h)) else (q_L 256 1322 [(30, a0), (21, a1), (22, a2), (0, a3)] [(0, 1), (0, h a0 (q_add a3 (3 : Int))), (0, h a0 (q_add a3 (2 : Int))), (0, h a0 (q_add a3 (1 : Int))), (22, a2), (0, b0)] (sh, h))) else none) else none) else none) else none :=
  (q_unL hL_L_law cu_L_law 400 1293 _ _ _).trans rfl
set_option maxHeartbeats 8000000 in
set_option maxRecDepth 100000 in
theorem e_L_law_1322 (a0 a1 a2 a3 b0 b1 b2 b3 b4 b5 : Int) (sh : Int × (Int → Nat × Int)) (h : Int → Int → Int) : q_L 256 1322 [(30, a0), (21, a1), (22, a2), (0, a3)] [(0, b5), (0, b4), (0, b3), (0, b2), (22, b1), (0, b0)] (sh, h) = (q_Cc 237 [(22, b1), (0, b2), (0, b3), (0, b4), (0, b5)] (sh, h)).bind (fun r => q_L 256 1325 [(30, a0), (21, a1), (22, a2), (0, a3)] [r.1, (0, b0)] r.2) :=
  (q_unL hL_L_law cu_L_law 400 1322 _ _ _).trans rfl
set_option maxHeartbeats 8000000 in
set_option maxRecDepth 100000 in
theorem e_L_law_1325 (a0 a1 a2 a3 b0 b1 : Int) (sh : Int × (Int → Nat × Int)) (h : Int → Int → Int) : q_L 256 1325 [(30, a0), (21, a1), (22, a2), (0, a3)] [(0, b1), (0, b0)] (sh, h) = if b0 = b1 then (q_L 256 1712 [(30, a0), (21, a1), (22, a2), (0, a3)] [] (sh, h)) else (some ((0, 0), (sh, h))) :=
  (q_unL hL_L_law cu_L_law 400 1325 _ _ _).trans rfl
set_option maxHeartbeats 8000000 in
set_option maxRecDepth 100000 in
theorem e_L_law_1330 (a0 a1 a2 a3 : Int) (sh : Int × (Int → Nat × Int)) (h : Int → Int → Int) : q_L 256 1330 [(30, a0), (21, a1), (22, a2), (0, a3)] [] (sh, h) = if 0 ≤ (q_add a3 (1 : Int)) ∧ (q_add a3 (1 : Int)) < (sh.2 a0).2 then (if 0 ≤ (q_add a3 (2 : Int)) ∧ (q_add a3 (2 : Int)) < (sh.2 a0).2 then ((q_Cc 139 [(21, a1), (0, h a0 (q_add a3 (1 : Int))), (0, h a0 (q_add a3 (2 : Int)))] (sh, h)).bind (fun r => q_L 256 1344 [(30, a0), (21, a1), (22, a2), (0, a3)] [r.1] r.2)) else none) else none :=
  (q_unL hL_L_law cu_L_law 400 1330 _ _ _).trans rfl
set_option maxHeartbeats 8000000 in
set_option maxRecDepth 100000 in
theorem e_L_law_1344 (a0 a1 a2 a3 b0 : Int) (sh : Int × (Int → Nat × Int)) (h : Int → Int → Int) : q_L 256 1344 [(30, a0), (21, a1), (22, a2), (0, a3)] [(0, b0)] (sh, h) = if 0 ≤ (q_add a3 (1 : Int)) ∧ (q_add a3 (1 : Int)) < (sh.2 a0).2 then (if 0 ≤ (q_add a3 (2 : Int)) ∧ (q_add a3 (2 : Int)) < (sh.2 a0).2 then ((q_Cc 239 [(22, a2), (0, h a0 (q_add a3 (1 : Int))), (0, h a0 (q_add a3 (2 : Int)))] (sh, h)).bind (fun r => q_L 256 1358 [(30, a0), (21, a1), (22, a2), (0, a3)] [r.1, (0, b0)] r.2)) else none) else none :=
  (q_unL hL_L_law cu_L_law 400 1344 _ _ _).trans rfl
set_option maxHeartbeats 8000000 in
set_option maxRecDepth 100000 in
theorem e_L_law_1358 (a0 a1 a2 a3 b0 b1 : Int) (sh : Int × (Int → Nat × Int)) (h : Int → Int → Int) : q_L 256 1358 [(30, a0), (21, a1), (22, a2), (0, a3)] [(0, b1), (0, b0)] (sh, h) = if b0 = b1 then (q_L 256 1712 [(30, a0), (21, a1), (22, a2), (0, a3)] [] (sh, h)) else (some ((0, 0), (sh, h))) :=
  (q_unL hL_L_law cu_L_law 400 1358 _ _ _).trans rfl
set_option maxHeartbeats 8000000 in
set_option maxRecDepth 100000 in
theorem e_L_law_1363 (a0 a1 a2 a3 : Int) (sh : Int × (Int → Nat × Int)) (h : Int → Int → Int) : q_L 256 1363 [(30, a0), (21, a1), (22, a2), (0, a3)] [] (sh, h) = if 0 ≤ (q_add a3 (1 : Int)) ∧ (q_add a3 (1 : Int)) < (sh.2 a0).2 then ((q_Cc 140 [(21, a1), (0, h a0 (q_add a3 (1 : Int)))] (sh, h)).bind (fun r => q_L 256 1372 [(30, a0), (21, a1), (22, a2), (0, a3)] [r.1] r.2)) else none :=
  (q_unL hL_L_law cu_L_law 400 1363 _ _ _).trans rfl
set_option maxHeartbeats 8000000 in
set_option maxRecDepth 100000 in
theorem e_L_law_1372 (a0 a1 a2 a3 b0 : Int) (sh : Int × (Int → Nat × Int)) (h : Int → Int → Int) : q_L 256 1372 [(30, a0), (21, a1), (22, a2), (0, a3)] [(0, b0)] (sh, h) = if 0 ≤ (q_add a3 (1 : Int)) ∧ (q_add a3 (1 : Int)) < (sh.2 a0).2 then ((q_Cc 240 [(22, a2), (0, h a0 (q_add a3 (1 : Int)))] (sh, h)).bind (fun r => q_L 256 1381 [(30, a0), (21, a1), (22, a2), (0, a3)] [r.1, (0, b0)] r.2)) else none :=
  (q_unL hL_L_law cu_L_law 400 1372 _ _ _).trans rfl
set_option maxHeartbeats 8000000 in
set_option maxRecDepth 100000 in
theorem e_L_law_1381 (a0 a1 a2 a3 b0 b1 : Int) (sh : Int × (Int → Nat × Int)) (h : Int → Int → Int) : q_L 256 1381 [(30, a0), (21, a1), (22, a2), (0, a3)] [(0, b1), (0, b0)] (sh, h) = if b0 = b1 then (q_L 256 1712 [(30, a0), (21, a1), (22, a2), (0, a3)] [] (sh, h)) else (some ((0, 0), (sh, h))) :=
  (q_unL hL_L_law cu_L_law 400 1381 _ _ _).trans rfl
set_option maxHeartbeats 8000000 in
set_option maxRecDepth 100000 in
theorem e_L_law_1386 (a0 a1 a2 a3 : Int) (sh : Int × (Int → Nat × Int)) (h : Int → Int → Int) : q_L 256 1386 [(30, a0), (21, a1), (22, a2), (0, a3)] [] (sh, h) = if 0 ≤ (q_add a3 (1 : Int)) ∧ (q_add a3 (1 : Int)) < (sh.2 a0).2 then (if 0 ≤ (q_add a3 (2 : Int)) ∧ (q_add a3 (2 : Int)) < (sh.2 a0).2 then ((q_Cc 141 [(21, a1), (0, h a0 (q_add a3 (1 : Int))), (0, h a0 (q_add a3 (2 : Int)))] (sh, h)).bind (fun r => q_L 256 1400 [(30, a0), (21, a1), (22, a2), (0, a3)] [r.1] r.2)) else none) else none :=
  (q_unL hL_L_law cu_L_law 400 1386 _ _ _).trans rfl
set_option maxHeartbeats 8000000 in
set_option maxRecDepth 100000 in
theorem e_L_law_1400 (a0 a1 a2 a3 b0 : Int) (sh : Int × (Int → Nat × Int)) (h : Int → Int → Int) : q_L 256 1400 [(30, a0), (21, a1), (22, a2), (0, a3)] [(0, b0)] (sh, h) = if 0 ≤ (q_add a3 (1 : Int)) ∧ (q_add a3 (1 : Int)) < (sh.2 a0).2 then (if 0 ≤ (q_add a3 (2 : Int)) ∧ (q_add a3 (2 : Int)) < (sh.2 a0).2 then ((q_Cc 241 [(22, a2), (0, h a0 (q_add a3 (1 : Int))), (0, h a0 (q_add a3 (2 : Int)))] (sh, h)).bind (fun r => q_L 256 1414 [(30, a0), (21, a1), (22, a2), (0, a3)] [r.1, (0, b0)] r.2)) else none) else none :=
  (q_unL hL_L_law cu_L_law 400 1400 _ _ _).trans rfl
set_option maxHeartbeats 8000000 in
set_option maxRecDepth 100000 in
theorem e_L_law_1414 (a0 a1 a2 a3 b0 b1 : Int) (sh : Int × (Int → Nat × Int)) (h : Int → Int → Int) : q_L 256 1414 [(30, a0), (21, a1), (22, a2), (0, a3)] [(0, b1), (0, b0)] (sh, h) = if b0 = b1 then (q_L 256 1712 [(30, a0), (21, a1), (22, a2), (0, a3)] [] (sh, h)) else (some ((0, 0), (sh, h))) :=
  (q_unL hL_L_law cu_L_law 400 1414 _ _ _).trans rfl
set_option maxHeartbeats 8000000 in
set_option maxRecDepth 100000 in
theorem e_L_law_1419 (a0 a1 a2 a3 : Int) (sh : Int × (Int → Nat × Int)) (h : Int → Int → Int) : q_L 256 1419 [(30, a0), (21, a1), (22, a2), (0, a3)] [] (sh, h) = (q_Cc 142 [(21, a1)] (sh, h)).bind (fun r => q_L 256 1423 [(30, a0), (21, a1), (22, a2), (0, a3)] [r.1] r.2) :=
  (q_unL hL_L_law cu_L_law 400 1419 _ _ _).trans rfl
set_option maxHeartbeats 8000000 in
set_option maxRecDepth 100000 in
theorem e_L_law_1423 (a0 a1 a2 a3 b0 : Int) (sh : Int × (Int → Nat × Int)) (h : Int → Int → Int) : q_L 256 1423 [(30, a0), (21, a1), (22, a2), (0, a3)] [(0, b0)] (sh, h) = (q_Cc 243 [(22, a2)] (sh, h)).bind (fun r => q_L 256 1427 [(30, a0), (21, a1), (22, a2), (0, a3)] [r.1, (0, b0)] r.2) :=
  (q_unL hL_L_law cu_L_law 400 1423 _ _ _).trans rfl
set_option maxHeartbeats 8000000 in
set_option maxRecDepth 100000 in
theorem e_L_law_1427 (a0 a1 a2 a3 b0 b1 : Int) (sh : Int × (Int → Nat × Int)) (h : Int → Int → Int) : q_L 256 1427 [(30, a0), (21, a1), (22, a2), (0, a3)] [(0, b1), (0, b0)] (sh, h) = if b0 = b1 then (q_L 256 1712 [(30, a0), (21, a1), (22, a2), (0, a3)] [] (sh, h)) else (some ((0, 0), (sh, h))) :=
  (q_unL hL_L_law cu_L_law 400 1427 _ _ _).trans rfl
set_option maxHeartbeats 8000000 in
set_option maxRecDepth 100000 in
theorem e_L_law_1432 (a0 a1 a2 a3 : Int) (sh : Int × (Int → Nat × Int)) (h : Int → Int → Int) : q_L 256 1432 [(30, a0), (21, a1), (22, a2), (0, a3)] [] (sh, h) = if 0 ≤ (q_add a3 (1 : Int)) ∧ (q_add a3 (1 : Int)) < (sh.2 a0).2 then ((q_Cc 143 [(21, a1), (0, h a0 (q_add a3 (1 : Int)))] (sh, h)).bind (fun r => q_L 256 1441 [(30, a0), (21, a1), (22, a2), (0, a3)] [r.1] r.2)) else none :=
  (q_unL hL_L_law cu_L_law 400 1432 _ _ _).trans rfl
set_option maxHeartbeats 8000000 in
set_option maxRecDepth 100000 in
theorem e_L_law_1441 (a0 a1 a2 a3 b0 : Int) (sh : Int × (Int → Nat × Int)) (h : Int → Int → Int) : q_L 256 1441 [(30, a0), (21, a1), (22, a2), (0, a3)] [(0, b0)] (sh, h) = if 0 ≤ (q_add a3 (1 : Int)) ∧ (q_add a3 (1 : Int)) < (sh.2 a0).2 then ((q_Cc 244 [(22, a2), (0, h a0 (q_add a3 (1 : Int)))] (sh, h)).bind (fun r => q_L 256 1450 [(30, a0), (21, a1), (22, a2), (0, a3)] [r.1, (0, b0)] r.2)) else none :=
  (q_unL hL_L_law cu_L_law 400 1441 _ _ _).trans rfl
set_option maxHeartbeats 8000000 in
set_option maxRecDepth 100000 in
theorem e_L_law_1450 (a0 a1 a2 a3 b0 b1 : Int) (sh : Int × (Int → Nat × Int)) (h : Int → Int → Int) : q_L 256 1450 [(30, a0), (21, a1), (22, a2), (0, a3)] [(0, b1), (0, b0)] (sh, h) = if b0 = b1 then (q_L 256 1712 [(30, a0), (21, a1), (22, a2), (0, a3)] [] (sh, h)) else (some ((0, 0), (sh, h))) :=
  (q_unL hL_L_law cu_L_law 400 1450 _ _ _).trans rfl
set_option maxHeartbeats 8000000 in
set_option maxRecDepth 100000 in
theorem e_L_law_1455 (a0 a1 a2 a3 : Int) (sh : Int × (Int → Nat × Int)) (h : Int → Int → Int) : q_L 256 1455 [(30, a0), (21, a1), (22, a2), (0, a3)] [] (sh, h) = if 0 ≤ (q_add a3 (1 : Int)) ∧ (q_add a3 (1 : Int)) < (sh.2 a0).2 then ((q_Cc 144 [(21, a1), (0, h a0 (q_add a3 (1 : Int)))] (sh, h)).bind (fun r => q_L 256 1464 [(30, a0), (21, a1), (22, a2), (0, a3)] [r.1] r.2)) else none :=
  (q_unL hL_L_law cu_L_law 400 1455 _ _ _).trans rfl
set_option maxHeartbeats 8000000 in
set_option maxRecDepth 100000 in
theorem e_L_law_1464 (a0 a1 a2 a3 b0 : Int) (sh : Int × (Int → Nat × Int)) (h : Int → Int → Int) : q_L 256 1464 [(30, a0), (21, a1), (22, a2), (0, a3)] [(0, b0)] (sh, h) = if 0 ≤ (q_add a3 (1 : Int)) ∧ (q_add a3 (1 : Int)) < (sh.2 a0).2 then ((q_Cc 245 [(22, a2), (0, h a0 (q_add a3 (1 : Int)))] (sh, h)).bind (fun r => q_L 256 1473 [(30, a0), (21, a1), (22, a2), (0, a3)] [r.1, (0, b0)] r.2)) else none :=
  (q_unL hL_L_law cu_L_law 400 1464 _ _ _).trans rfl
set_option maxHeartbeats 8000000 in
set_option maxRecDepth 100000 in
theorem e_L_law_1473 (a0 a1 a2 a3 b0 b1 : Int) (sh : Int × (Int → Nat × Int)) (h : Int → Int → Int) : q_L 256 1473 [(30, a0), (21, a1), (22, a2), (0, a3)] [(0, b1), (0, b0)] (sh, h) = if b0 = b1 then (q_L 256 1712 [(30, a0), (21, a1), (22, a2), (0, a3)] [] (sh, h)) else (some ((0, 0), (sh, h))) :=
  (q_unL hL_L_law cu_L_law 400 1473 _ _ _).trans rfl
set_option maxHeartbeats 8000000 in
set_option maxRecDepth 100000 in
theorem e_L_law_1478 (a0 a1 a2 a3 : Int) (sh : Int × (Int → Nat × Int)) (h : Int → Int → Int) : q_L 256 1478 [(30, a0), (21, a1), (22, a2), (0, a3)] [] (sh, h) = if 0 ≤ (q_add a3 (1 : Int)) ∧ (q_add a3 (1 : Int)) < (sh.2 a0).2 then (if 0 ≤ (q_add a3 (2 : Int)) ∧ (q_add a3 (2 : Int)) < (sh.2 a0).2 then (if 0 ≤ (q_add a3 (3 : Int)) ∧ (q_add a3 (3 : Int)) < (sh.2 a0).2 then ((q_Cc 145 [(21, a1), (0, h a0 (q_add a3 (1 : Int))), (0, h a0 (q_add a3 (2 : Int))), (0, h a0 (q_add a3 (3 : Int)))] (sh, h)).bind (fun r => q_L 256 1497 [(30, a0), (21, a1), (22, a2), (0, a3)] [r.1] r.2)) else none) else none) else none :=
  (q_unL hL_L_law cu_L_law 400 1478 _ _ _).trans rfl
set_option maxHeartbeats 8000000 in
set_option maxRecDepth 100000 in
theorem e_L_law_1497 (a0 a1 a2 a3 b0 : Int) (sh : Int × (Int → Nat × Int)) (h : Int → Int → Int) : q_L 256 1497 [(30, a0), (21, a1), (22, a2), (0, a3)] [(0, b0)] (sh, h) = if 0 ≤ (q_add a3 (1 : Int)) ∧ (q_add a3 (1 : Int)) < (sh.2 a0).2 then (if 0 ≤ (q_add a3 (2 : Int)) ∧ (q_add a3 (2 : Int)) < (sh.2 a0).2 then (if 0 ≤ (q_add a3 (3 : Int)) ∧ (q_add a3 (3 : Int)) < (sh.2 a0).2 then ((q_Cc 247 [(22, a2), (0, h a0 (q_add a3 (1 : Int))), (0, h a0 (q_add a3 (2 : Int))), (0, h a0 (q_add a3 (3 : Int)))] (sh, h)).bind (fun r => q_L 256 1516 [(30, a0), (21, a1), (22, a2), (0, a3)] [r.1, (0, b0)] r.2)) else none) else none) else none :=
  (q_unL hL_L_law cu_L_law 400 1497 _ _ _).trans rfl
set_option maxHeartbeats 8000000 in
set_option maxRecDepth 100000 in
theorem e_L_law_1516 (a0 a1 a2 a3 b0 b1 : Int) (sh : Int × (Int → Nat × Int)) (h : Int → Int → Int) : q_L 256 1516 [(30, a0), (21, a1), (22, a2), (0, a3)] [(0, b1), (0, b0)] (sh, h) = if b0 = b1 then (q_L 256 1712 [(30, a0), (21, a1), (22, a2), (0, a3)] [] (sh, h)) else (some ((0, 0), (sh, h))) :=
  (q_unL hL_L_law cu_L_law 400 1516 _ _ _).trans rfl
set_option maxHeartbeats 8000000 in
set_option maxRecDepth 100000 in
theorem e_L_law_1521 (a0 a1 a2 a3 : Int) (sh : Int × (Int → Nat × Int)) (h : Int → Int → Int) : q_L 256 1521 [(30, a0), (21, a1), (22, a2), (0, a3)] [] (sh, h) = if 0 ≤ (q_add a3 (1 : Int)) ∧ (q_add a3 (1 : Int)) < (sh.2 a0).2 then (if 0 ≤ (q_add a3 (2 : Int)) ∧ (q_add a3 (2 : Int)) < (sh.2 a0).2 then (if 0 ≤ (q_add a3 (3 : Int)) ∧ (q_add a3 (3 : Int)) < (sh.2 a0).2 then ((q_Cc 146 [(21, a1), (0, h a0 (q_add a3 (1 : Int))), (0, h a0 (q_add a3 (2 : Int))), (0, h a0 (q_add a3 (3 : Int)))] (sh, h)).bind (fun r => q_L 256 1540 [(30, a0), (21, a1), (22, a2), (0, a3)] [r.1] r.2)) else none) else none) else none :=
  (q_unL hL_L_law cu_L_law 400 1521 _ _ _).trans rfl
set_option maxHeartbeats 8000000 in
set_option maxRecDepth 100000 in
theorem e_L_law_1540 (a0 a1 a2 a3 b0 : Int) (sh : Int × (Int → Nat × Int)) (h : Int → Int → Int) : q_L 256 1540 [(30, a0), (21, a1), (22, a2), (0, a3)] [(0, b0)] (sh, h) = if 0 ≤ (q_add a3 (1 : Int)) ∧ (q_add a3 (1 : Int)) < (sh.2 a0).2 then (if 0 ≤ (q_add a3 (2 : Int)) ∧ (q_add a3 (2 : Int)) < (sh.2 a0).2 then (if 0 ≤ (q_add a3 (3 : Int)) ∧ (q_add a3 (3 : Int)) < (sh.2 a0).2 then ((q_Cc 248 [(22, a2), (0, h a0 (q_add a3 (1 : Int))), (0, h a0 (q_add a3 (2 : Int))), (0, h a0 (q_add a3 (3 : Int)))] (sh, h)).bind (fun r => q_L 256 1559 [(30, a0), (21, a1), (22, a2), (0, a3)] [r.1, (0, b0)] r.2)) else none) else none) else none :=
  (q_unL hL_L_law cu_L_law 400 1540 _ _ _).trans rfl
set_option maxHeartbeats 8000000 in
set_option maxRecDepth 100000 in
theorem e_L_law_1559 (a0 a1 a2 a3 b0 b1 : Int) (sh : Int × (Int → Nat × Int)) (h : Int → Int → Int) : q_L 256 1559 [(30, a0), (21, a1), (22, a2), (0, a3)] [(0, b1), (0, b0)] (sh, h) = if b0 = b1 then (q_L 256 1712 [(30, a0), (21, a1), (22, a2), (0, a3)] [] (sh, h)) else (some ((0, 0), (sh, h))) :=
  (q_unL hL_L_law cu_L_law 400 1559 _ _ _).trans rfl
set_option maxHeartbeats 8000000 in
set_option maxRecDepth 100000 in
theorem e_L_law_1564 (a0 a1 a2 a3 : Int) (sh : Int × (Int → Nat × Int)) (h : Int → Int → Int) : q_L 256 1564 [(30, a0), (21, a1), (22, a2), (0, a3)] [] (sh, h) = if 0 ≤ (q_add a3 (1 : Int)) ∧ (q_add a3 (1 : Int)) < (sh.2 a0).2 then (if 0 ≤ (q_add a3 (2 : Int)) ∧ (q_add a3 (2 : Int)) < (sh.2 a0).2 then (if 0 ≤ (q_add a3 (3 : Int)) ∧ (q_add a3 (3 : Int)) < (sh.2 a0).2 then (if 0 ≤ (q_add a3 (4 : Int)) ∧ (q_add a3 (4 : Int)) < (sh.2 a0).2 then (if 0 ≤ (q_add a3 (5 : Int)) ∧ (q_add a3 (5 : Int)) < (sh.2 a0).2 then ((q_Cc 147 [(21, a1), (0, h a0 (q_add a3 (1 : Int))), (0, h a0 (q_add a3 (2 : Int))), (0, h a0 (q_add a3 (3 : Int))), (0, h a0 (q_add a3 (4 : Int))), (0, h a0 (q_add a3 (5 : Int)))] (sh, h)).bind (fun r => q_L 256 1593 [(30, a0), (21, a1), (22, a2), (0, a3)] [r.1] r.2)) else none) else none) else none) else none) else none :=
  (q_unL hL_L_law cu_L_law 400 1564 _ _ _).trans rfl
set_option maxHeartbeats 8000000 in
set_option maxRecDepth 100000 in
theorem e_L_law_1593 (a0 a1 a2 a3 b0 : Int) (sh : Int × (Int → Nat × Int)) (h : Int → Int → Int) : q_L 256 1593 [(30, a0), (21, a1), (22, a2), (0, a3)] [(0, b0)] (sh, h) = if 0 ≤ (q_add a3 (1 : Int)) ∧ (q_add a3 (1 : Int)) < (sh.2 a0).2 then (if 0 ≤ (q_add a3 (2 : Int)) ∧ (q_add a3 (2 : Int)) < (sh.2 a0).2 then (if 0 ≤ (q_add a3 (3 : Int)) ∧ (q_add a3 (3 : Int)) < (sh.2 a0).2 then (if 0 ≤ (q_add a3 (4 : Int)) ∧ (q_add a3 (4 : Int)) < (sh.2 a0).2 then (if 0 ≤ (q_add a3 (5 : Int)) ∧ (q_add a3 (5 : Int)) < (sh.2 a0).2 then ((q_Cc 249 [(22, a2), (0, h a0 (q_add a3 (1 : Int))), (0, h a0 (q_add a3 (2 : Int))), (0, h a0 (q_add a3 (3 : Int))), (0, h a0 (q_add a3 (4 : Int))), (0, h a0 (q_add a3 (5 : Int)))] (sh, h)).bind (fun r => q_L 256 1622 [(30, a0), (21, a1), (22, a2), (0, a3)] [r.1, (0, b0)] r.2)) else none) else none) else none) else none) else none :=
  (q_unL hL_L_law cu_L_law 400 1593 _ _ _).trans rfl
set_option maxHeartbeats 8000000 in
set_option maxRecDepth 100000 in
theorem e_L_law_1622 (a0 a1 a2 a3 b0 b1 : Int) (sh : Int × (Int → Nat × Int)) (h : Int → Int → Int) : q_L 256 1622 [(30, a0), (21, a1), (22, a2), (0, a3)] [(0, b1), (0, b0)] (sh, h) = if b0 = b1 then (q_L 256 1712 [(30, a0), (21, a1), (22, a2), (0, a3)] [] (sh, h)) else (some ((0, 0), (sh, h))) :=
  (q_unL hL_L_law cu_L_law 400 1622 _ _ _).trans rfl
set_option maxHeartbeats 8000000 in
set_option maxRecDepth 100000 in
theorem e_L_law_1627 (a0 a1 a2 a3 : Int) (sh : Int × (Int → Nat × Int)) (h : Int → Int → Int) : q_L 256 1627 [(30, a0), (21, a1), (22, a2), (0, a3)] [] (sh, h) = (q_Cc 148 [(21, a1)] (sh, h)).bind (fun r => q_L 256 1631 [(30, a0), (21, a1), (22, a2), (0, a3)] [r.1] r.2) :=
  (q_unL hL_L_law cu_L_law 400 1627 _ _ _).trans rfl
set_option maxHeartbeats 8000000 in
set_option maxRecDepth 100000 in
theorem e_L_law_1631 (a0 a1 a2 a3 b0 : Int) (sh : Int × (Int → Nat × Int)) (h : Int → Int → Int) : q_L 256 1631 [(30, a0), (21, a1), (22, a2), (0, a3)] [(0, b0)] (sh, h) = (q_Cc 250 [(22, a2)] (sh, h)).bind (fun r => q_L 256 1635 [(30, a0), (21, a1), (22, a2), (0, a3)] [r.1, (0, b0)] r.2) :=
  (q_unL hL_L_law cu_L_law 400 1631 _ _ _).trans rfl
set_option maxHeartbeats 8000000 in
set_option maxRecDepth 100000 in
theorem e_L_law_1635 (a0 a1 a2 a3 b0 b1 : Int) (sh : Int × (Int → Nat × Int)) (h : Int → Int → Int) : q_L 256 1635 [(30, a0), (21, a1), (22, a2), (0, a3)] [(0, b1), (0, b0)] (sh, h) = if b0 = b1 then (q_L 256 1712 [(30, a0), (21, a1), (22, a2), (0, a3)] [] (sh, h)) else (some ((0, 0), (sh, h))) :=
  (q_unL hL_L_law cu_L_law 400 1635 _ _ _).trans rfl
set_option maxHeartbeats 8000000 in
set_option maxRecDepth 100000 in
theorem e_L_law_1640 (a0 a1 a2 a3 : Int) (sh : Int × (Int → Nat × Int)) (h : Int → Int → Int) : q_L 256 1640 [(30, a0), (21, a1), (22, a2), (0, a3)] [] (sh, h) = (q_Cc 149 [(21, a1)] (sh, h)).bind (fun r => q_L 256 1644 [(30, a0), (21, a1), (22, a2), (0, a3)] [r.1] r.2) :=
  (q_unL hL_L_law cu_L_law 400 1640 _ _ _).trans rfl
set_option maxHeartbeats 8000000 in
set_option maxRecDepth 100000 in
theorem e_L_law_1644 (a0 a1 a2 a3 b0 : Int) (sh : Int × (Int → Nat × Int)) (h : Int → Int → Int) : q_L 256 1644 [(30, a0), (21, a1), (22, a2), (0, a3)] [(0, b0)] (sh, h) = (q_Cc 251 [(22, a2)] (sh, h)).bind (fun r => q_L 256 1648 [(30, a0), (21, a1), (22, a2), (0, a3)] [r.1, (0, b0)] r.2) :=
  (q_unL hL_L_law cu_L_law 400 1644 _ _ _).trans rfl
set_option maxHeartbeats 8000000 in
set_option maxRecDepth 100000 in
theorem e_L_law_1648 (a0 a1 a2 a3 b0 b1 : Int) (sh : Int × (Int → Nat × Int)) (h : Int → Int → Int) : q_L 256 1648 [(30, a0), (21, a1), (22, a2), (0, a3)] [(0, b1), (0, b0)] (sh, h) = if b0 = b1 then (q_L 256 1712 [(30, a0), (21, a1), (22, a2), (0, a3)] [] (sh, h)) else (some ((0, 0), (sh, h))) :=
  (q_unL hL_L_law cu_L_law 400 1648 _ _ _).trans rfl
set_option maxHeartbeats 8000000 in
set_option maxRecDepth 100000 in
theorem e_L_law_1653 (a0 a1 a2 a3 : Int) (sh : Int × (Int → Nat × Int)) (h : Int → Int → Int) : q_L 256 1653 [(30, a0), (21, a1), (22, a2), (0, a3)] [] (sh, h) = (q_Cc 150 [(21, a1)] (sh, h)).bind (fun r => q_L 256 1657 [(30, a0), (21, a1), (22, a2), (0, a3)] [r.1] r.2) :=
  (q_unL hL_L_law cu_L_law 400 1653 _ _ _).trans rfl
set_option maxHeartbeats 8000000 in
set_option maxRecDepth 100000 in
theorem e_L_law_1657 (a0 a1 a2 a3 b0 : Int) (sh : Int × (Int → Nat × Int)) (h : Int → Int → Int) : q_L 256 1657 [(30, a0), (21, a1), (22, a2), (0, a3)] [(0, b0)] (sh, h) = (q_Cc 252 [(22, a2)] (sh, h)).bind (fun r => q_L 256 1661 [(30, a0), (21, a1), (22, a2), (0, a3)] [r.1, (0, b0)] r.2) :=
  (q_unL hL_L_law cu_L_law 400 1657 _ _ _).trans rfl
set_option maxHeartbeats 8000000 in
set_option maxRecDepth 100000 in
theorem e_L_law_1661 (a0 a1 a2 a3 b0 b1 : Int) (sh : Int × (Int → Nat × Int)) (h : Int → Int → Int) : q_L 256 1661 [(30, a0), (21, a1), (22, a2), (0, a3)] [(0, b1), (0, b0)] (sh, h) = if b0 = b1 then (q_L 256 1712 [(30, a0), (21, a1), (22, a2), (0, a3)] [] (sh, h)) else (some ((0, 0), (sh, h))) :=
  (q_unL hL_L_law cu_L_law 400 1661 _ _ _).trans rfl
set_option maxHeartbeats 8000000 in
set_option maxRecDepth 100000 in
theorem e_L_law_1666 (a0 a1 a2 a3 : Int) (sh : Int × (Int → Nat × Int)) (h : Int → Int → Int) : q_L 256 1666 [(30, a0), (21, a1), (22, a2), (0, a3)] [] (sh, h) = if 0 ≤ (q_add a3 (1 : Int)) ∧ (q_add a3 (1 : Int)) < (sh.2 a0).2 then ((q_Cc 151 [(21, a1), (0, h a0 (q_add a3 (1 : Int)))] (sh, h)).bind (fun r => q_L 256 1675 [(30, a0), (21, a1), (22, a2), (0, a3)] [r.1] r.2)) else none :=
  (q_unL hL_L_law cu_L_law 400 1666 _ _ _).trans rfl
set_option maxHeartbeats 8000000 in
set_option maxRecDepth 100000 in
theorem e_L_law_1675 (a0 a1 a2 a3 b0 : Int) (sh : Int × (Int → Nat × Int)) (h : Int → Int → Int) : q_L 256 1675 [(30, a0), (21, a1), (22, a2), (0, a3)] [(0, b0)] (sh, h) = if 0 ≤ (q_add a3 (1 : Int)) ∧ (q_add a3 (1 : Int)) < (sh.2 a0).2 then ((q_Cc 254 [(22, a2), (0, h a0 (q_add a3 (1 : Int)))] (sh, h)).bind (fun r => q_L 256 1684 [(30, a0), (21, a1), (22, a2), (0, a3)] [r.1, (0, b0)] r.2)) else none :=
  (q_unL hL_L_law cu_L_law 400 1675 _ _ _).trans rfl
set_option maxHeartbeats 8000000 in
set_option maxRecDepth 100000 in
theorem e_L_law_1684 (a0 a1 a2 a3 b0 b1 : Int) (sh : Int × (Int → Nat × Int)) (h : Int → Int → Int) : q_L 256 1684 [(30, a0), (21, a1), (22, a2), (0, a3)] [(0, b1), (0, b0)] (sh, h) = if b0 = b1 then (q_L 256 1712 [(30, a0), (21, a1), (22, a2), (0, a3)] [] (sh, h)) else (some ((0, 0), (sh, h))) :=
  (q_unL hL_L_law cu_L_law 400 1684 _ _ _).trans rfl
set_option maxHeartbeats 8000000 in
set_option maxRecDepth 100000 in
theorem e_L_law_1689 (a0 a1 a2 a3 : Int) (sh : Int × (Int → Nat × Int)) (h : Int → Int → Int) : q_L 256 1689 [(30, a0), (21, a1), (22, a2), (0, a3)] [] (sh, h) = if 0 ≤ (q_add a3 (1 : Int)) ∧ (q_add a3 (1 : Int)) < (sh.2 a0).2 then ((q_Cc 152 [(21, a1), (0, h a0 (q_add a3 (1 : Int)))] (sh, h)).bind (fun r => q_L 256 1698 [(30, a0), (21, a1), (22, a2), (0, a3)] [r.1] r.2)) else none :=
  (q_unL hL_L_law cu_L_law 400 1689 _ _ _).trans rfl
set_option maxHeartbeats 8000000 in
set_option maxRecDepth 100000 in
theorem e_L_law_1698 (a0 a1 a2 a3 b0 : Int) (sh : Int × (Int → Nat × Int)) (h : Int → Int → Int) : q_L 256 1698 [(30, a0), (21, a1), (22, a2), (0, a3)] [(0, b0)] (sh, h) = if 0 ≤ (q_add a3 (1 : Int)) ∧ (q_add a3 (1 : Int)) < (sh.2 a0).2 then ((q_Cc 255 [(22, a2), (0, h a0 (q_add a3 (1 : Int)))] (sh, h)).bind (fun r => q_L 256 1707 [(30, a0), (21, a1), (22, a2), (0, a3)] [r.1, (0, b0)] r.2)) else none :=
  (q_unL hL_L_law cu_L_law 400 1698 _ _ _).trans rfl
set_option maxHeartbeats 8000000 in
set_option maxRecDepth 100000 in
theorem e_L_law_1707 (a0 a1 a2 a3 b0 b1 : Int) (sh : Int × (Int → Nat × Int)) (h : Int → Int → Int) : q_L 256 1707 [(30, a0), (21, a1), (22, a2), (0, a3)] [(0, b1), (0, b0)] (sh, h) = if b0 = b1 then (q_L 256 1712 [(30, a0), (21, a1), (22, a2), (0, a3)] [] (sh, h)) else (some ((0, 0), (sh, h))) :=
  (q_unL hL_L_law cu_L_law 400 1707 _ _ _).trans rfl
set_option maxHeartbeats 8000000 in
set_option maxRecDepth 100000 in
theorem e_L_law_1712 (a0 a1 a2 a3 : Int) (sh : Int × (Int → Nat × Int)) (h : Int → Int → Int) : q_L 256 1712 [(30, a0), (21, a1), (22, a2), (0, a3)] [] (sh, h) = q_L 256 18 [(30, a0), (21, a1), (22, a2), (0, q_w (a3 + 6))] [] (sh, h) :=
  (q_unL hL_L_law cu_L_law 400 1712 _ _ _).trans rfl
