def cu_X12_init : List Nat := [0, 10, 19, 28, 36, 44, 51, 58, 66, 74, 82, 90, 110, 131, 153, 177, 199, 221, 244, 266, 290, 314, 336, 356, 377, 399, 421, 443, 465, 488, 495, 502, 509, 516, 523, 531, 539, 544, 552]
theorem hL_X12_init : q_P 160 = q_find P_X12_init := rfl
theorem c_X12_init (a0 : Int) (s : q_M) : q_Cc 160 [(22, a0)] s = q_L 160 0 [(22, a0), (9, 0), (9, 0)] [] s := rfl
set_option maxRecDepth 100000 in
theorem e_X12_init_0 (a0 : Int) (sh : Int × (Int → Nat × Int)) (h : Int → Int → Int) : q_L 160 0 [(22, a0), (9, 0), (9, 0)] [] (sh, h) = if 0 ≤ (1354 : Int) ∧ (1354 : Int) ≤ 10000 then (q_L 160 10 [(22, a0), (9, 0), (9, 0)] [(30, sh.1), (22, a0)] ((q_ms sh 30 (1354 : Int)), (q_mh sh h (fun _ => 0)))) else none :=
  (q_unL hL_X12_init cu_X12_init 400 0 _ _ _).trans rfl
set_option maxRecDepth 100000 in
theorem e_X12_init_10 (a0 b0 b1 : Int) (sh : Int × (Int → Nat × Int)) (h : Int → Int → Int) : q_L 160 10 [(22, a0), (9, 0), (9, 0)] [(30, b1), (22, b0)] (sh, h) = if 0 ≤ b1 then (if 0 ≤ (1354 : Int) ∧ (1354 : Int) ≤ 10000 then (q_L 160 19 [(22, a0), (9, 0), (9, 0)] [(30, sh.1), (22, a0)] ((q_ms sh 30 (1354 : Int)), (q_mh sh (q_up h b0 0 b1) (fun _ => 0)))) else none) else none :=
  (q_unL hL_X12_init cu_X12_init 400 10 _ _ _).trans rfl
set_option maxRecDepth 100000 in
theorem e_X12_init_19 (a0 b0 b1 : Int) (sh : Int × (Int → Nat × Int)) (h : Int → Int → Int) : q_L 160 19 [(22, a0), (9, 0), (9, 0)] [(30, b1), (22, b0)] (sh, h) = if 0 ≤ b1 then (if 0 ≤ (1354 : Int) ∧ (1354 : Int) ≤ 10000 then (q_L 160 28 [(22, a0), (9, 0), (9, 0)] [(30, sh.1), (22, a0)] ((q_ms sh 30 (1354 : Int)), (q_mh sh (q_up h b0 1 b1) (fun _ => 0)))) else none) else none :=
  (q_unL hL_X12_init cu_X12_init 400 19 _ _ _).trans rfl
set_option maxRecDepth 100000 in
theorem e_X12_init_28 (a0 b0 b1 : Int) (sh : Int × (Int → Nat × Int)) (h : Int → Int → Int) : q_L 160 28 [(22, a0), (9, 0), (9, 0)] [(30, b1), (22, b0)] (sh, h) = if 0 ≤ b1 then (if 0 ≤ (110 : Int) ∧ (110 : Int) ≤ 10000 then (q_L 160 36 [(22, a0), (9, 0), (9, 0)] [(30, sh.1), (22, a0)] ((q_ms sh 30 (110 : Int)), (q_mh sh (q_up h b0 2 b1) (fun _ => 0)))) else none) else none :=
  (q_unL hL_X12_init cu_X12_init 400 28 _ _ _).trans rfl
set_option maxRecDepth 100000 in
theorem e_X12_init_36 (a0 b0 b1 : Int) (sh : Int × (Int → Nat × Int)) (h : Int → Int → Int) : q_L 160 36 [(22, a0), (9, 0), (9, 0)] [(30, b1), (22, b0)] (sh, h) = if 0 ≤ b1 then (if 0 ≤ (7 : Int) ∧ (7 : Int) ≤ 10000 then (q_L 160 44 [(22, a0), (9, 0), (9, 0)] [(30, sh.1), (22, a0)] ((q_ms sh 30 (7 : Int)), (q_mh sh (q_up h b0 4 b1) (fun _ => 0)))) else none) else none :=
  (q_unL hL_X12_init cu_X12_init 400 36 _ _ _).trans rfl
set_option maxRecDepth 100000 in
theorem e_X12_init_44 (a0 b0 b1 : Int) (sh : Int × (Int → Nat × Int)) (h : Int → Int → Int) : q_L 160 44 [(22, a0), (9, 0), (9, 0)] [(30, b1), (22, b0)] (sh, h) = if 0 ≤ b1 then (if 0 ≤ (4 : Int) ∧ (4 : Int) ≤ 10000 then (q_L 160 51 [(22, a0), (9, 0), (9, 0)] [(30, sh.1), (22, a0)] ((q_ms sh 30 (4 : Int)), (q_mh sh (q_up h b0 6 b1) (fun _ => 0)))) else none) else none :=
  (q_unL hL_X12_init cu_X12_init 400 44 _ _ _).trans rfl
set_option maxRecDepth 100000 in
theorem e_X12_init_51 (a0 b0 b1 : Int) (sh : Int × (Int → Nat × Int)) (h : Int → Int → Int) : q_L 160 51 [(22, a0), (9, 0), (9, 0)] [(30, b1), (22, b0)] (sh, h) = if 0 ≤ b1 then (if 0 ≤ (4 : Int) ∧ (4 : Int) ≤ 10000 then (q_L 160 58 [(22, a0), (9, 0), (9, 0)] [(30, sh.1), (22, a0)] ((q_ms sh 30 (4 : Int)), (q_mh sh (q_up h b0 7 b1) (fun _ => 0)))) else none) else none :=
  (q_unL hL_X12_init cu_X12_init 400 51 _ _ _).trans rfl
set_option maxRecDepth 100000 in
theorem e_X12_init_58 (a0 b0 b1 : Int) (sh : Int × (Int → Nat × Int)) (h : Int → Int → Int) : q_L 160 58 [(22, a0), (9, 0), (9, 0)] [(30, b1), (22, b0)] (sh, h) = if 0 ≤ b1 then (if 0 ≤ (96 : Int) ∧ (96 : Int) ≤ 10000 then (q_L 160 66 [(22, a0), (9, 0), (9, 0)] [(30, sh.1), (22, a0)] ((q_ms sh 30 (96 : Int)), (q_mh sh (q_up h b0 8 b1) (fun _ => 0)))) else none) else none :=
  (q_unL hL_X12_init cu_X12_init 400 58 _ _ _).trans rfl
set_option maxRecDepth 100000 in
theorem e_X12_init_66 (a0 b0 b1 : Int) (sh : Int × (Int → Nat × Int)) (h : Int → Int → Int) : q_L 160 66 [(22, a0), (9, 0), (9, 0)] [(30, b1), (22, b0)] (sh, h) = if 0 ≤ b1 then (if 0 ≤ (24 : Int) ∧ (24 : Int) ≤ 10000 then (q_L 160 74 [(22, a0), (9, 0), (9, 0)] [(30, sh.1), (22, a0)] ((q_ms sh 30 (24 : Int)), (q_mh sh (q_up h b0 9 b1) (fun _ => 0)))) else none) else none :=
  (q_unL hL_X12_init cu_X12_init 400 66 _ _ _).trans rfl
set_option maxRecDepth 100000 in
theorem e_X12_init_74 (a0 b0 b1 : Int) (sh : Int × (Int → Nat × Int)) (h : Int → Int → Int) : q_L 160 74 [(22, a0), (9, 0), (9, 0)] [(30, b1), (22, b0)] (sh, h) = if 0 ≤ b1 then (if 0 ≤ (24 : Int) ∧ (24 : Int) ≤ 10000 then (q_L 160 82 [(22, a0), (9, 0), (9, 0)] [(30, sh.1), (22, a0)] ((q_ms sh 30 (24 : Int)), (q_mh sh (q_up h b0 10 b1) (fun _ => 0)))) else none) else none :=
  (q_unL hL_X12_init cu_X12_init 400 74 _ _ _).trans rfl
set_option maxRecDepth 100000 in
theorem e_X12_init_82 (a0 b0 b1 : Int) (sh : Int × (Int → Nat × Int)) (h : Int → Int → Int) : q_L 160 82 [(22, a0), (9, 0), (9, 0)] [(30, b1), (22, b0)] (sh, h) = if 0 ≤ b1 then (if 0 ≤ (72 : Int) ∧ (72 : Int) ≤ 10000 then (q_L 160 90 [(22, a0), (9, 0), (9, 0)] [(30, sh.1), (22, a0)] ((q_ms sh 30 (72 : Int)), (q_mh sh (q_up h b0 16 b1) (fun _ => 0)))) else none) else none :=
  (q_unL hL_X12_init cu_X12_init 400 82 _ _ _).trans rfl
set_option maxRecDepth 100000 in
theorem e_X12_init_90 (a0 b0 b1 : Int) (sh : Int × (Int → Nat × Int)) (h : Int → Int → Int) : q_L 160 90 [(22, a0), (9, 0), (9, 0)] [(30, b1), (22, b0)] (sh, h) = if 0 ≤ (0 : Int) ∧ (0 : Int) < (sh.2 b1).2 ∧ 0 ≤ b1 then (if 0 ≤ (1 : Int) ∧ (1 : Int) < (sh.2 b1).2 ∧ 0 ≤ b1 then (if 0 ≤ (2 : Int) ∧ (2 : Int) < (sh.2 b1).2 ∧ 0 ≤ b1 then (if 0 ≤ (3 : Int) ∧ (3 : Int) < (sh.2 b1).2 ∧ 0 ≤ b1 then (q_L 160 110 [(22, a0), (9, 0), (9, 0)] [(30, b1), (22, b0)] (sh, q_up (q_up (q_up (q_up h b1 (0 : Int) (116 : Int)) b1 (1 : Int) (114 : Int)) b1 (2 : Int) (97 : Int)) b1 (3 : Int) (99 : Int))) else none) else none) else none) else none :=
  (q_unL hL_X12_init cu_X12_init 400 90 _ _ _).trans rfl
set_option maxRecDepth 100000 in
theorem e_X12_init_110 (a0 b0 b1 : Int) (sh : Int × (Int → Nat × Int)) (h : Int → Int → Int) : q_L 160 110 [(22, a0), (9, 0), (9, 0)] [(30, b1), (22, b0)] (sh, h) = if 0 ≤ (4 : Int) ∧ (4 : Int) < (sh.2 b1).2 ∧ 0 ≤ b1 then (if 0 ≤ (5 : Int) ∧ (5 : Int) < (sh.2 b1).2 ∧ 0 ≤ b1 then (if 0 ≤ (6 : Int) ∧ (6 : Int) < (sh.2 b1).2 ∧ 0 ≤ b1 then (if 0 ≤ (7 : Int) ∧ (7 : Int) < (sh.2 b1).2 ∧ 0 ≤ b1 then (q_L 160 131 [(22, a0), (9, 0), (9, 0)] [(30, b1), (22, b0)] (sh, q_up (q_up (q_up (q_up h b1 (4 : Int) (107 : Int)) b1 (5 : Int) (0 : Int)) b1 (6 : Int) (115 : Int)) b1 (7 : Int) (101 : Int))) else none) else none) else none) else none :=
  (q_unL hL_X12_init cu_X12_init 400 110 _ _ _).trans rfl
set_option maxRecDepth 100000 in
theorem e_X12_init_131 (a0 b0 b1 : Int) (sh : Int × (Int → Nat × Int)) (h : Int → Int → Int) : q_L 160 131 [(22, a0), (9, 0), (9, 0)] [(30, b1), (22, b0)] (sh, h) = if 0 ≤ (8 : Int) ∧ (8 : Int) < (sh.2 b1).2 ∧ 0 ≤ b1 then (if 0 ≤ (9 : Int) ∧ (9 : Int) < (sh.2 b1).2 ∧ 0 ≤ b1 then (if 0 ≤ (10 : Int) ∧ (10 : Int) < (sh.2 b1).2 ∧ 0 ≤ b1 then (if 0 ≤ (11 : Int) ∧ (11 : Int) < (sh.2 b1).2 ∧ 0 ≤ b1 then (q_L 160 153 [(22, a0), (9, 0), (9, 0)] [(30, b1), (22, b0)] (sh, q_up (q_up (q_up (q_up h b1 (8 : Int) (110 : Int)) b1 (9 : Int) (100 : Int)) b1 (10 : Int) (0 : Int)) b1 (11 : Int) (0 : Int))) else none) else none) else none) else none :=
  (q_unL hL_X12_init cu_X12_init 400 131 _ _ _).trans rfl
set_option maxRecDepth 100000 in
theorem e_X12_init_153 (a0 b0 b1 : Int) (sh : Int × (Int → Nat × Int)) (h : Int → Int → Int) : q_L 160 153 [(22, a0), (9, 0), (9, 0)] [(30, b1), (22, b0)] (sh, h) = if 0 ≤ (12 : Int) ∧ (12 : Int) < (sh.2 b1).2 ∧ 0 ≤ b1 then (if 0 ≤ (13 : Int) ∧ (13 : Int) < (sh.2 b1).2 ∧ 0 ≤ b1 then (if 0 ≤ (14 : Int) ∧ (14 : Int) < (sh.2 b1).2 ∧ 0 ≤ b1 then (if 0 ≤ (15 : Int) ∧ (15 : Int) < (sh.2 b1).2 ∧ 0 ≤ b1 then (q_L 160 177 [(22, a0), (9, 0), (9, 0)] [(30, b1), (22, b0)] (sh, q_up (q_up (q_up (q_up h b1 (12 : Int) (104 : Int)) b1 (13 : Int) (101 : Int)) b1 (14 : Int) (97 : Int)) b1 (15 : Int) (114 : Int))) else none) else none) else none) else none :=
  (q_unL hL_X12_init cu_X12_init 400 153 _ _ _).trans rfl
set_option maxRecDepth 100000 in
theorem e_X12_init_177 (a0 b0 b1 : Int) (sh : Int × (Int → Nat × Int)) (h : Int → Int → Int) : q_L 160 177 [(22, a0), (9, 0), (9, 0)] [(30, b1), (22, b0)] (sh, h) = if 0 ≤ (16 : Int) ∧ (16 : Int) < (sh.2 b1).2 ∧ 0 ≤ b1 then (if 0 ≤ (17 : Int) ∧ (17 : Int) < (sh.2 b1).2 ∧ 0 ≤ b1 then (if 0 ≤ (18 : Int) ∧ (18 : Int) < (sh.2 b1).2 ∧ 0 ≤ b1 then (if 0 ≤ (19 : Int) ∧ (19 : Int) < (sh.2 b1).2 ∧ 0 ≤ b1 then (q_L 160 199 [(22, a0), (9, 0), (9, 0)] [(30, b1), (22, b0)] (sh, q_up (q_up (q_up (q_up h b1 (16 : Int) (0 : Int)) b1 (17 : Int) (0 : Int)) b1 (18 : Int) (98 : Int)) b1 (19 : Int) (111 : Int))) else none) else none) else none) else none :=
  (q_unL hL_X12_init cu_X12_init 400 177 _ _ _).trans rfl
set_option maxRecDepth 100000 in
theorem e_X12_init_199 (a0 b0 b1 : Int) (sh : Int × (Int → Nat × Int)) (h : Int → Int → Int) : q_L 160 199 [(22, a0), (9, 0), (9, 0)] [(30, b1), (22, b0)] (sh, h) = if 0 ≤ (20 : Int) ∧ (20 : Int) < (sh.2 b1).2 ∧ 0 ≤ b1 then (if 0 ≤ (21 : Int) ∧ (21 : Int) < (sh.2 b1).2 ∧ 0 ≤ b1 then (if 0 ≤ (22 : Int) ∧ (22 : Int) < (sh.2 b1).2 ∧ 0 ≤ b1 then (if 0 ≤ (23 : Int) ∧ (23 : Int) < (sh.2 b1).2 ∧ 0 ≤ b1 then (q_L 160 221 [(22, a0), (9, 0), (9, 0)] [(30, b1), (22, b0)] (sh, q_up (q_up (q_up (q_up h b1 (20 : Int) (116 : Int)) b1 (21 : Int) (104 : Int)) b1 (22 : Int) (0 : Int)) b1 (23 : Int) (0 : Int))) else none) else none) else none) else none :=
  (q_unL hL_X12_init cu_X12_init 400 199 _ _ _).trans rfl
set_option maxRecDepth 100000 in
theorem e_X12_init_221 (a0 b0 b1 : Int) (sh : Int × (Int → Nat × Int)) (h : Int → Int → Int) : q_L 160 221 [(22, a0), (9, 0), (9, 0)] [(30, b1), (22, b0)] (sh, h) = if 0 ≤ (24 : Int) ∧ (24 : Int) < (sh.2 b1).2 ∧ 0 ≤ b1 then (if 0 ≤ (25 : Int) ∧ (25 : Int) < (sh.2 b1).2 ∧ 0 ≤ b1 then (if 0 ≤ (26 : Int) ∧ (26 : Int) < (sh.2 b1).2 ∧ 0 ≤ b1 then (if 0 ≤ (27 : Int) ∧ (27 : Int) < (sh.2 b1).2 ∧ 0 ≤ b1 then (q_L 160 244 [(22, a0), (9, 0), (9, 0)] [(30, b1), (22, b0)] (sh, q_up (q_up (q_up (q_up h b1 (24 : Int) (102 : Int)) b1 (25 : Int) (97 : Int)) b1 (26 : Int) (114 : Int)) b1 (27 : Int) (0 : Int))) else none) else none) else none) else none :=
  (q_unL hL_X12_init cu_X12_init 400 221 _ _ _).trans rfl
set_option maxRecDepth 100000 in
theorem e_X12_init_244 (a0 b0 b1 : Int) (sh : Int × (Int → Nat × Int)) (h : Int → Int → Int) : q_L 160 244 [(22, a0), (9, 0), (9, 0)] [(30, b1), (22, b0)] (sh, h) = if 0 ≤ (28 : Int) ∧ (28 : Int) < (sh.2 b1).2 ∧ 0 ≤ b1 then (if 0 ≤ (29 : Int) ∧ (29 : Int) < (sh.2 b1).2 ∧ 0 ≤ b1 then (if 0 ≤ (30 : Int) ∧ (30 : Int) < (sh.2 b1).2 ∧ 0 ≤ b1 then (if 0 ≤ (31 : Int) ∧ (31 : Int) < (sh.2 b1).2 ∧ 0 ≤ b1 then (q_L 160 266 [(22, a0), (9, 0), (9, 0)] [(30, b1), (22, b0)] (sh, q_up (q_up (q_up (q_up h b1 (28 : Int) (0 : Int)) b1 (29 : Int) (0 : Int)) b1 (30 : Int) (115 : Int)) b1 (31 : Int) (104 : Int))) else none) else none) else none) else none :=
  (q_unL hL_X12_init cu_X12_init 400 244 _ _ _).trans rfl
set_option maxRecDepth 100000 in
theorem e_X12_init_266 (a0 b0 b1 : Int) (sh : Int × (Int → Nat × Int)) (h : Int → Int → Int) : q_L 160 266 [(22, a0), (9, 0), (9, 0)] [(30, b1), (22, b0)] (sh, h) = if 0 ≤ (32 : Int) ∧ (32 : Int) < (sh.2 b1).2 ∧ 0 ≤ b1 then (if 0 ≤ (33 : Int) ∧ (33 : Int) < (sh.2 b1).2 ∧ 0 ≤ b1 then (if 0 ≤ (34 : Int) ∧ (34 : Int) < (sh.2 b1).2 ∧ 0 ≤ b1 then (if 0 ≤ (35 : Int) ∧ (35 : Int) < (sh.2 b1).2 ∧ 0 ≤ b1 then (q_L 160 290 [(22, a0), (9, 0), (9, 0)] [(30, b1), (22, b0)] (sh, q_up (q_up (q_up (q_up h b1 (32 : Int) (97 : Int)) b1 (33 : Int) (114 : Int)) b1 (34 : Int) (101 : Int)) b1 (35 : Int) (100 : Int))) else none) else none) else none) else none :=
  (q_unL hL_X12_init cu_X12_init 400 266 _ _ _).trans rfl
set_option maxRecDepth 100000 in
theorem e_X12_init_290 (a0 b0 b1 : Int) (sh : Int × (Int → Nat × Int)) (h : Int → Int → Int) : q_L 160 290 [(22, a0), (9, 0), (9, 0)] [(30, b1), (22, b0)] (sh, h) = if 0 ≤ (36 : Int) ∧ (36 : Int) < (sh.2 b1).2 ∧ 0 ≤ b1 then (if 0 ≤ (37 : Int) ∧ (37 : Int) < (sh.2 b1).2 ∧ 0 ≤ b1 then (if 0 ≤ (38 : Int) ∧ (38 : Int) < (sh.2 b1).2 ∧ 0 ≤ b1 then (if 0 ≤ (39 : Int) ∧ (39 : Int) < (sh.2 b1).2 ∧ 0 ≤ b1 then (q_L 160 314 [(22, a0), (9, 0), (9, 0)] [(30, b1), (22, b0)] (sh, q_up (q_up (q_up (q_up h b1 (36 : Int) (97 : Int)) b1 (37 : Int) (114 : Int)) b1 (38 : Int) (114 : Int)) b1 (39 : Int) (97 : Int))) else none) else none) else none) else none :=
  (q_unL hL_X12_init cu_X12_init 400 290 _ _ _).trans rfl
set_option maxRecDepth 100000 in
theorem e_X12_init_314 (a0 b0 b1 : Int) (sh : Int × (Int → Nat × Int)) (h : Int → Int → Int) : q_L 160 314 [(22, a0), (9, 0), (9, 0)] [(30, b1), (22, b0)] (sh, h) = if 0 ≤ (40 : Int) ∧ (40 : Int) < (sh.2 b1).2 ∧ 0 ≤ b1 then (if 0 ≤ (41 : Int) ∧ (41 : Int) < (sh.2 b1).2 ∧ 0 ≤ b1 then (if 0 ≤ (42 : Int) ∧ (42 : Int) < (sh.2 b1).2 ∧ 0 ≤ b1 then (if 0 ≤ (43 : Int) ∧ (43 : Int) < (sh.2 b1).2 ∧ 0 ≤ b1 then (q_L 160 336 [(22, a0), (9, 0), (9, 0)] [(30, b1), (22, b0)] (sh, q_up (q_up (q_up (q_up h b1 (40 : Int) (121 : Int)) b1 (41 : Int) (0 : Int)) b1 (42 : Int) (99 : Int)) b1 (43 : Int) (0 : Int))) else none) else none) else none) else none :=
  (q_unL hL_X12_init cu_X12_init 400 314 _ _ _).trans rfl
set_option maxRecDepth 100000 in
theorem e_X12_init_336 (a0 b0 b1 : Int) (sh : Int × (Int → Nat × Int)) (h : Int → Int → Int) : q_L 160 336 [(22, a0), (9, 0), (9, 0)] [(30, b1), (22, b0)] (sh, h) = if 0 ≤ (44 : Int) ∧ (44 : Int) < (sh.2 b1).2 ∧ 0 ≤ b1 then (if 0 ≤ (45 : Int) ∧ (45 : Int) < (sh.2 b1).2 ∧ 0 ≤ b1 then (if 0 ≤ (46 : Int) ∧ (46 : Int) < (sh.2 b1).2 ∧ 0 ≤ b1 then (if 0 ≤ (47 : Int) ∧ (47 : Int) < (sh.2 b1).2 ∧ 0 ≤ b1 then (q_L 160 356 [(22, a0), (9, 0), (9, 0)] [(30, b1), (22, b0)] (sh, q_up (q_up (q_up (q_up h b1 (44 : Int) (0 : Int)) b1 (45 : Int) (0 : Int)) b1 (46 : Int) (0 : Int)) b1 (47 : Int) (0 : Int))) else none) else none) else none) else none :=
  (q_unL hL_X12_init cu_X12_init 400 336 _ _ _).trans rfl
set_option maxRecDepth 100000 in
theorem e_X12_init_356 (a0 b0 b1 : Int) (sh : Int × (Int → Nat × Int)) (h : Int → Int → Int) : q_L 160 356 [(22, a0), (9, 0), (9, 0)] [(30, b1), (22, b0)] (sh, h) = if 0 ≤ (48 : Int) ∧ (48 : Int) < (sh.2 b1).2 ∧ 0 ≤ b1 then (if 0 ≤ (49 : Int) ∧ (49 : Int) < (sh.2 b1).2 ∧ 0 ≤ b1 then (if 0 ≤ (50 : Int) ∧ (50 : Int) < (sh.2 b1).2 ∧ 0 ≤ b1 then (if 0 ≤ (51 : Int) ∧ (51 : Int) < (sh.2 b1).2 ∧ 0 ≤ b1 then (q_L 160 377 [(22, a0), (9, 0), (9, 0)] [(30, b1), (22, b0)] (sh, q_up (q_up (q_up (q_up h b1 (48 : Int) (110 : Int)) b1 (49 : Int) (0 : Int)) b1 (50 : Int) (0 : Int)) b1 (51 : Int) (0 : Int))) else none) else none) else none) else none :=
  (q_unL hL_X12_init cu_X12_init 400 356 _ _ _).trans rfl
set_option maxRecDepth 100000 in
theorem e_X12_init_377 (a0 b0 b1 : Int) (sh : Int × (Int → Nat × Int)) (h : Int → Int → Int) : q_L 160 377 [(22, a0), (9, 0), (9, 0)] [(30, b1), (22, b0)] (sh, h) = if 0 ≤ (52 : Int) ∧ (52 : Int) < (sh.2 b1).2 ∧ 0 ≤ b1 then (if 0 ≤ (53 : Int) ∧ (53 : Int) < (sh.2 b1).2 ∧ 0 ≤ b1 then (if 0 ≤ (54 : Int) ∧ (54 : Int) < (sh.2 b1).2 ∧ 0 ≤ b1 then (if 0 ≤ (55 : Int) ∧ (55 : Int) < (sh.2 b1).2 ∧ 0 ≤ b1 then (q_L 160 399 [(22, a0), (9, 0), (9, 0)] [(30, b1), (22, b0)] (sh, q_up (q_up (q_up (q_up h b1 (52 : Int) (0 : Int)) b1 (53 : Int) (0 : Int)) b1 (54 : Int) (102 : Int)) b1 (55 : Int) (114 : Int))) else none) else none) else none) else none :=
  (q_unL hL_X12_init cu_X12_init 400 377 _ _ _).trans rfl
set_option maxRecDepth 100000 in
theorem e_X12_init_399 (a0 b0 b1 : Int) (sh : Int × (Int → Nat × Int)) (h : Int → Int → Int) : q_L 160 399 [(22, a0), (9, 0), (9, 0)] [(30, b1), (22, b0)] (sh, h) = if 0 ≤ (56 : Int) ∧ (56 : Int) < (sh.2 b1).2 ∧ 0 ≤ b1 then (if 0 ≤ (57 : Int) ∧ (57 : Int) < (sh.2 b1).2 ∧ 0 ≤ b1 then (if 0 ≤ (58 : Int) ∧ (58 : Int) < (sh.2 b1).2 ∧ 0 ≤ b1 then (if 0 ≤ (59 : Int) ∧ (59 : Int) < (sh.2 b1).2 ∧ 0 ≤ b1 then (q_L 160 421 [(22, a0), (9, 0), (9, 0)] [(30, b1), (22, b0)] (sh, q_up (q_up (q_up (q_up h b1 (56 : Int) (111 : Int)) b1 (57 : Int) (109 : Int)) b1 (58 : Int) (0 : Int)) b1 (59 : Int) (0 : Int))) else none) else none) else none) else none :=
  (q_unL hL_X12_init cu_X12_init 400 399 _ _ _).trans rfl
set_option maxRecDepth 100000 in
theorem e_X12_init_421 (a0 b0 b1 : Int) (sh : Int × (Int → Nat × Int)) (h : Int → Int → Int) : q_L 160 421 [(22, a0), (9, 0), (9, 0)] [(30, b1), (22, b0)] (sh, h) = if 0 ≤ (60 : Int) ∧ (60 : Int) < (sh.2 b1).2 ∧ 0 ≤ b1 then (if 0 ≤ (61 : Int) ∧ (61 : Int) < (sh.2 b1).2 ∧ 0 ≤ b1 then (if 0 ≤ (62 : Int) ∧ (62 : Int) < (sh.2 b1).2 ∧ 0 ≤ b1 then (if 0 ≤ (63 : Int) ∧ (63 : Int) < (sh.2 b1).2 ∧ 0 ≤ b1 then (q_L 160 443 [(22, a0), (9, 0), (9, 0)] [(30, b1), (22, b0)] (sh, q_up (q_up (q_up (q_up h b1 (60 : Int) (116 : Int)) b1 (61 : Int) (111 : Int)) b1 (62 : Int) (0 : Int)) b1 (63 : Int) (0 : Int))) else none) else none) else none) else none :=
  (q_unL hL_X12_init cu_X12_init 400 421 _ _ _).trans rfl
set_option maxRecDepth 100000 in
theorem e_X12_init_443 (a0 b0 b1 : Int) (sh : Int × (Int → Nat × Int)) (h : Int → Int → Int) : q_L 160 443 [(22, a0), (9, 0), (9, 0)] [(30, b1), (22, b0)] (sh, h) = if 0 ≤ (64 : Int) ∧ (64 : Int) < (sh.2 b1).2 ∧ 0 ≤ b1 then (if 0 ≤ (65 : Int) ∧ (65 : Int) < (sh.2 b1).2 ∧ 0 ≤ b1 then (if 0 ≤ (66 : Int) ∧ (66 : Int) < (sh.2 b1).2 ∧ 0 ≤ b1 then (if 0 ≤ (67 : Int) ∧ (67 : Int) < (sh.2 b1).2 ∧ 0 ≤ b1 then (q_L 160 465 [(22, a0), (9, 0), (9, 0)] [(30, b1), (22, b0)] (sh, q_up (q_up (q_up (q_up h b1 (64 : Int) (0 : Int)) b1 (65 : Int) (0 : Int)) b1 (66 : Int) (119 : Int)) b1 (67 : Int) (111 : Int))) else none) else none) else none) else none :=
  (q_unL hL_X12_init cu_X12_init 400 443 _ _ _).trans rfl
set_option maxRecDepth 100000 in
theorem e_X12_init_465 (a0 b0 b1 : Int) (sh : Int × (Int → Nat × Int)) (h : Int → Int → Int) : q_L 160 465 [(22, a0), (9, 0), (9, 0)] [(30, b1), (22, b0)] (sh, h) = if 0 ≤ (68 : Int) ∧ (68 : Int) < (sh.2 b1).2 ∧ 0 ≤ b1 then (if 0 ≤ (69 : Int) ∧ (69 : Int) < (sh.2 b1).2 ∧ 0 ≤ b1 then (if 0 ≤ (70 : Int) ∧ (70 : Int) < (sh.2 b1).2 ∧ 0 ≤ b1 then (if 0 ≤ (71 : Int) ∧ (71 : Int) < (sh.2 b1).2 ∧ 0 ≤ b1 then (q_L 160 488 [(22, a0), (9, 0), (9, 0)] [(30, b1), (22, b0)] (sh, q_up (q_up (q_up (q_up h b1 (68 : Int) (114 : Int)) b1 (69 : Int) (116 : Int)) b1 (70 : Int) (104 : Int)) b1 (71 : Int) (0 : Int))) else none) else none) else none) else none :=
  (q_unL hL_X12_init cu_X12_init 400 465 _ _ _).trans rfl
set_option maxRecDepth 100000 in
theorem e_X12_init_488 (a0 b0 b1 : Int) (sh : Int × (Int → Nat × Int)) (h : Int → Int → Int) : q_L 160 488 [(22, a0), (9, 0), (9, 0)] [(30, b1), (22, b0)] (sh, h) = if 0 ≤ b1 then (if 0 ≤ (5 : Int) ∧ (5 : Int) ≤ 10000 then (q_L 160 495 [(22, a0), (9, 0), (9, 0)] [(30, sh.1), (22, a0)] ((q_ms sh 30 (5 : Int)), (q_mh sh (q_up h b0 17 b1) (fun _ => 0)))) else none) else none :=
  (q_unL hL_X12_init cu_X12_init 400 488 _ _ _).trans rfl
set_option maxRecDepth 100000 in
theorem e_X12_init_495 (a0 b0 b1 : Int) (sh : Int × (Int → Nat × Int)) (h : Int → Int → Int) : q_L 160 495 [(22, a0), (9, 0), (9, 0)] [(30, b1), (22, b0)] (sh, h) = if 0 ≤ b1 then (if 0 ≤ (5 : Int) ∧ (5 : Int) ≤ 10000 then (q_L 160 502 [(22, a0), (9, 0), (9, 0)] [(30, sh.1), (22, a0)] ((q_ms sh 30 (5 : Int)), (q_mh sh (q_up h b0 19 b1) (fun _ => 0)))) else none) else none :=
  (q_unL hL_X12_init cu_X12_init 400 495 _ _ _).trans rfl
set_option maxRecDepth 100000 in
theorem e_X12_init_502 (a0 b0 b1 : Int) (sh : Int × (Int → Nat × Int)) (h : Int → Int → Int) : q_L 160 502 [(22, a0), (9, 0), (9, 0)] [(30, b1), (22, b0)] (sh, h) = if 0 ≤ b1 then (if 0 ≤ (5 : Int) ∧ (5 : Int) ≤ 10000 then (q_L 160 509 [(22, a0), (9, 0), (9, 0)] [(30, sh.1), (22, a0)] ((q_ms sh 30 (5 : Int)), (q_mh sh (q_up h b0 20 b1) (fun _ => 0)))) else none) else none :=
  (q_unL hL_X12_init cu_X12_init 400 502 _ _ _).trans rfl
set_option maxRecDepth 100000 in
theorem e_X12_init_509 (a0 b0 b1 : Int) (sh : Int × (Int → Nat × Int)) (h : Int → Int → Int) : q_L 160 509 [(22, a0), (9, 0), (9, 0)] [(30, b1), (22, b0)] (sh, h) = if 0 ≤ b1 then (if 0 ≤ (5 : Int) ∧ (5 : Int) ≤ 10000 then (q_L 160 516 [(22, a0), (9, 0), (9, 0)] [(30, sh.1), (22, a0)] ((q_ms sh 30 (5 : Int)), (q_mh sh (q_up h b0 21 b1) (fun _ => 0)))) else none) else none :=
  (q_unL hL_X12_init cu_X12_init 400 509 _ _ _).trans rfl
set_option maxRecDepth 100000 in
theorem e_X12_init_516 (a0 b0 b1 : Int) (sh : Int × (Int → Nat × Int)) (h : Int → Int → Int) : q_L 160 516 [(22, a0), (9, 0), (9, 0)] [(30, b1), (22, b0)] (sh, h) = if 0 ≤ b1 then (if 0 ≤ (5 : Int) ∧ (5 : Int) ≤ 10000 then (q_L 160 523 [(22, a0), (9, 0), (9, 0)] [(30, sh.1), (22, a0)] ((q_ms sh 30 (5 : Int)), (q_mh sh (q_up h b0 22 b1) (fun _ => 0)))) else none) else none :=
  (q_unL hL_X12_init cu_X12_init 400 516 _ _ _).trans rfl
set_option maxRecDepth 100000 in
theorem e_X12_init_523 (a0 b0 b1 : Int) (sh : Int × (Int → Nat × Int)) (h : Int → Int → Int) : q_L 160 523 [(22, a0), (9, 0), (9, 0)] [(30, b1), (22, b0)] (sh, h) = if 0 ≤ b1 then (if 0 ≤ (6 : Int) ∧ (6 : Int) ≤ 10000 then (q_L 160 531 [(22, a0), (9, 0), (9, 0)] [(30, sh.1), (22, a0)] ((q_ms sh 30 (6 : Int)), (q_mh sh (q_up h b0 23 b1) (fun _ => 0)))) else none) else none :=
  (q_unL hL_X12_init cu_X12_init 400 523 _ _ _).trans rfl
set_option maxRecDepth 100000 in
theorem e_X12_init_531 (a0 b0 b1 : Int) (sh : Int × (Int → Nat × Int)) (h : Int → Int → Int) : q_L 160 531 [(22, a0), (9, 0), (9, 0)] [(30, b1), (22, b0)] (sh, h) = if 0 ≤ b1 then (if 0 ≤ (12 : Int) ∧ (12 : Int) ≤ 10000 then (q_L 160 539 [(22, a0), (9, 0), (9, 0)] [(31, sh.1), (22, a0)] ((q_ms sh 31 (12 : Int)), (q_mh sh (q_up h b0 26 b1) (fun _ => 0)))) else none) else none :=
  (q_unL hL_X12_init cu_X12_init 400 531 _ _ _).trans rfl
set_option maxRecDepth 100000 in
theorem e_X12_init_539 (a0 b0 b1 : Int) (sh : Int × (Int → Nat × Int)) (h : Int → Int → Int) : q_L 160 539 [(22, a0), (9, 0), (9, 0)] [(31, b1), (22, b0)] (sh, h) = if 0 ≤ b1 then (q_L 160 544 [(22, a0), (0, 0), (9, 0)] [] (sh, q_up h b0 27 b1)) else none :=
  (q_unL hL_X12_init cu_X12_init 400 539 _ _ _).trans rfl
set_option maxRecDepth 100000 in
theorem e_X12_init_544 (a0 a1 : Int) (x2 : q_V) (sh : Int × (Int → Nat × Int)) (h : Int → Int → Int) : q_L 160 544 [(22, a0), (0, a1), x2] [] (sh, h) = if a1 < (8 : Int) then (q_L 160 552 [(22, a0), (0, a1), (0, 0)] [] (sh, h)) else (some ((9, 0), (sh, h))) :=
  (q_unL hL_X12_init cu_X12_init 400 544 _ _ _).trans rfl
set_option maxRecDepth 100000 in
theorem e_X12_init_552 (a0 a1 a2 : Int) (sh : Int × (Int → Nat × Int)) (h : Int → Int → Int) : q_L 160 552 [(22, a0), (0, a1), (0, a2)] [] (sh, h) = if a2 < (8 : Int) then (if 0 ≤ h a0 0 then (if 0 ≤ (q_add (q_add (1098 : Int) (q_mul (8 : Int) a1)) a2) ∧ (q_add (q_add (1098 : Int) (q_mul (8 : Int) a1)) a2) < (sh.2 (h a0 0)).2 ∧ 0 ≤ (h a0 0) then (q_L 160 552 [(22, a0), (0, a1), (0, q_w (a2 + 1))] [] (sh, q_up h (h a0 0) (q_add (q_add (1098 : Int) (q_mul (8 : Int) a1)) a2) a2)) else none) else none) else (q_L 160 544 [(22, a0), (0, q_w (a1 + 1)), (0, a2)] [] (sh, h)) :=
  (q_unL hL_X12_init cu_X12_init 400 552 _ _ _).trans rfl
def cu_X12_finds : List Nat := [0]
theorem hL_X12_finds : q_P 161 = q_find P_X12_finds := rfl
theorem c_X12_finds (a0 a1 : Int) (s : q_M) : q_Cc 161 [(22, a0), (0, a1)] s = q_L 161 0 [(22, a0), (0, a1)] [] s := rfl
set_option maxRecDepth 100000 in
theorem e_X12_finds_0 (a0 a1 : Int) (sh : Int × (Int → Nat × Int)) (h : Int → Int → Int) : q_L 161 0 [(22, a0), (0, a1)] [] (sh, h) = if 0 ≤ h a0 6 then (if 0 ≤ (q_sub (-1000001 : Int) a1) ∧ (q_sub (-1000001 : Int) a1) < (sh.2 (h a0 6)).2 then (if 0 ≤ (q_sub (-1000001 : Int) a1) ∧ (q_sub (-1000001 : Int) a1) < (sh.2 (h a0 6)).2 ∧ 0 ≤ (h a0 6) then (some ((0, a1), (sh, q_up h (h a0 6) (q_sub (-1000001 : Int) a1) (q_add (h (h a0 6) (q_sub (-1000001 : Int) a1)) (1 : Int))))) else none) else none) else none :=
  (q_unL hL_X12_finds cu_X12_finds 400 0 _ _ _).trans rfl
def cu_X12_in : List Nat := [0, 14, 15]
theorem hL_X12_in : q_P 162 = q_find P_X12_in := rfl
theorem c_X12_in (a0 a1 a2 : Int) (s : q_M) : q_Cc 162 [(0, a0), (0, a1), (0, a2)] s = q_L 162 0 [(0, a0), (0, a1), (0, a2)] [] s := rfl
set_option maxRecDepth 100000 in
theorem e_X12_in_0 (a0 a1 a2 : Int) (sh : Int × (Int → Nat × Int)) (h : Int → Int → Int) : q_L 162 0 [(0, a0), (0, a1), (0, a2)] [] (sh, h) = if a0 < a1 then (q_L 162 14 [(0, a0), (0, a1), (0, a2)] [] (sh, h)) else (if a2 < a0 then (q_L 162 14 [(0, a0), (0, a1), (0, a2)] [] (sh, h)) else (q_L 162 15 [(0, a0), (0, a1), (0, a2)] [(0, 1)] (sh, h))) :=
  (q_unL hL_X12_in cu_X12_in 400 0 _ _ _).trans rfl
set_option maxRecDepth 100000 in
theorem e_X12_in_14 (a0 a1 a2 : Int) (sh : Int × (Int → Nat × Int)) (h : Int → Int → Int) : q_L 162 14 [(0, a0), (0, a1), (0, a2)] [] (sh, h) = q_L 162 15 [(0, a0), (0, a1), (0, a2)] [(0, 0)] (sh, h) :=
  (q_unL hL_X12_in cu_X12_in 400 14 _ _ _).trans rfl
set_option maxRecDepth 100000 in
theorem e_X12_in_15 (a0 a1 a2 b0 : Int) (sh : Int × (Int → Nat × Int)) (h : Int → Int → Int) : q_L 162 15 [(0, a0), (0, a1), (0, a2)] [(0, b0)] (sh, h) = if b0 = 0 ∨ b0 = 1 then some ((0, b0), (sh, h)) else none :=
  (q_unL hL_X12_in cu_X12_in 400 15 _ _ _).trans rfl
def cu_X12_isPlace : List Nat := [0, 6]
theorem hL_X12_isPlace : q_P 163 = q_find P_X12_isPlace := rfl
theorem c_X12_isPlace (a0 : Int) (s : q_M) : q_Cc 163 [(0, a0)] s = q_L 163 0 [(0, a0)] [] s := rfl
set_option maxRecDepth 100000 in
theorem e_X12_isPlace_0 (a0 : Int) (sh : Int × (Int → Nat × Int)) (h : Int → Int → Int) : q_L 163 0 [(0, a0)] [] (sh, h) = (q_Cc 162 [(0, a0), (0, 0), (0, 2)] (sh, h)).bind (fun r => q_L 163 6 [(0, a0)] [r.1] r.2) :=
  (q_unL hL_X12_isPlace cu_X12_isPlace 400 0 _ _ _).trans rfl
set_option maxRecDepth 100000 in
theorem e_X12_isPlace_6 (a0 b0 : Int) (sh : Int × (Int → Nat × Int)) (h : Int → Int → Int) : q_L 163 6 [(0, a0)] [(0, b0)] (sh, h) = if b0 = 0 ∨ b0 = 1 then some ((0, b0), (sh, h)) else none :=
  (q_unL hL_X12_isPlace cu_X12_isPlace 400 6 _ _ _).trans rfl
def cu_X12_isDish : List Nat := [0, 13]
theorem hL_X12_isDish : q_P 164 = q_find P_X12_isDish := rfl
theorem c_X12_isDish (a0 a1 : Int) (s : q_M) : q_Cc 164 [(22, a0), (0, a1)] s = q_L 164 0 [(22, a0), (0, a1)] [] s := rfl
set_option maxRecDepth 100000 in
theorem e_X12_isDish_0 (a0 a1 : Int) (sh : Int × (Int → Nat × Int)) (h : Int → Int → Int) : q_L 164 0 [(22, a0), (0, a1)] [] (sh, h) = if 0 ≤ h a0 0 then (if 0 ≤ (1 : Int) ∧ (1 : Int) < (sh.2 (h a0 0)).2 then ((q_Cc 162 [(0, a1), (0, 0), (0, q_sub (h (h a0 0) (1 : Int)) (1 : Int))] (sh, h)).bind (fun r => q_L 164 13 [(22, a0), (0, a1)] [r.1] r.2)) else none) else none :=
  (q_unL hL_X12_isDish cu_X12_isDish 400 0 _ _ _).trans rfl
set_option maxRecDepth 100000 in
theorem e_X12_isDish_13 (a0 a1 b0 : Int) (sh : Int × (Int → Nat × Int)) (h : Int → Int → Int) : q_L 164 13 [(22, a0), (0, a1)] [(0, b0)] (sh, h) = if b0 = 0 ∨ b0 = 1 then some ((0, b0), (sh, h)) else none :=
  (q_unL hL_X12_isDish cu_X12_isDish 400 13 _ _ _).trans rfl
def cu_X12_isCraft : List Nat := [0, 13]
theorem hL_X12_isCraft : q_P 165 = q_find P_X12_isCraft := rfl
theorem c_X12_isCraft (a0 a1 : Int) (s : q_M) : q_Cc 165 [(22, a0), (0, a1)] s = q_L 165 0 [(22, a0), (0, a1)] [] s := rfl
set_option maxRecDepth 100000 in
theorem e_X12_isCraft_0 (a0 a1 : Int) (sh : Int × (Int → Nat × Int)) (h : Int → Int → Int) : q_L 165 0 [(22, a0), (0, a1)] [] (sh, h) = if 0 ≤ h a0 0 then (if 0 ≤ (2 : Int) ∧ (2 : Int) < (sh.2 (h a0 0)).2 then ((q_Cc 162 [(0, a1), (0, 0), (0, q_sub (h (h a0 0) (2 : Int)) (1 : Int))] (sh, h)).bind (fun r => q_L 165 13 [(22, a0), (0, a1)] [r.1] r.2)) else none) else none :=
  (q_unL hL_X12_isCraft cu_X12_isCraft 400 0 _ _ _).trans rfl
set_option maxRecDepth 100000 in
theorem e_X12_isCraft_13 (a0 a1 b0 : Int) (sh : Int × (Int → Nat × Int)) (h : Int → Int → Int) : q_L 165 13 [(22, a0), (0, a1)] [(0, b0)] (sh, h) = if b0 = 0 ∨ b0 = 1 then some ((0, b0), (sh, h)) else none :=
  (q_unL hL_X12_isCraft cu_X12_isCraft 400 13 _ _ _).trans rfl
def cu_X12_isAsking : List Nat := [0, 13]
theorem hL_X12_isAsking : q_P 166 = q_find P_X12_isAsking := rfl
theorem c_X12_isAsking (a0 a1 : Int) (s : q_M) : q_Cc 166 [(22, a0), (0, a1)] s = q_L 166 0 [(22, a0), (0, a1)] [] s := rfl
set_option maxRecDepth 100000 in
theorem e_X12_isAsking_0 (a0 a1 : Int) (sh : Int × (Int → Nat × Int)) (h : Int → Int → Int) : q_L 166 0 [(22, a0), (0, a1)] [] (sh, h) = if 0 ≤ h a0 0 then (if 0 ≤ (3 : Int) ∧ (3 : Int) < (sh.2 (h a0 0)).2 then ((q_Cc 162 [(0, a1), (0, 0), (0, q_sub (h (h a0 0) (3 : Int)) (1 : Int))] (sh, h)).bind (fun r => q_L 166 13 [(22, a0), (0, a1)] [r.1] r.2)) else none) else none :=
  (q_unL hL_X12_isAsking cu_X12_isAsking 400 0 _ _ _).trans rfl
set_option maxRecDepth 100000 in
theorem e_X12_isAsking_13 (a0 a1 b0 : Int) (sh : Int × (Int → Nat × Int)) (h : Int → Int → Int) : q_L 166 13 [(22, a0), (0, a1)] [(0, b0)] (sh, h) = if b0 = 0 ∨ b0 = 1 then some ((0, b0), (sh, h)) else none :=
  (q_unL hL_X12_isAsking cu_X12_isAsking 400 13 _ _ _).trans rfl
def cu_X12_isHour : List Nat := [0, 8]
theorem hL_X12_isHour : q_P 167 = q_find P_X12_isHour := rfl
theorem c_X12_isHour (a0 : Int) (s : q_M) : q_Cc 167 [(0, a0)] s = q_L 167 0 [(0, a0)] [] s := rfl
set_option maxRecDepth 100000 in
theorem e_X12_isHour_0 (a0 : Int) (sh : Int × (Int → Nat × Int)) (h : Int → Int → Int) : q_L 167 0 [(0, a0)] [] (sh, h) = (q_Cc 162 [(0, a0), (0, 0), (0, 4000)] (sh, h)).bind (fun r => q_L 167 8 [(0, a0)] [r.1] r.2) :=
  (q_unL hL_X12_isHour cu_X12_isHour 400 0 _ _ _).trans rfl
set_option maxRecDepth 100000 in
theorem e_X12_isHour_8 (a0 b0 : Int) (sh : Int × (Int → Nat × Int)) (h : Int → Int → Int) : q_L 167 8 [(0, a0)] [(0, b0)] (sh, h) = if b0 = 0 ∨ b0 = 1 then some ((0, b0), (sh, h)) else none :=
  (q_unL hL_X12_isHour cu_X12_isHour 400 8 _ _ _).trans rfl
def cu_X12_becomes : List Nat := [0]
theorem hL_X12_becomes : q_P 168 = q_find P_X12_becomes := rfl
theorem c_X12_becomes (a0 a1 a2 : Int) (s : q_M) : q_Cc 168 [(22, a0), (0, a1), (0, a2)] s = q_L 168 0 [(22, a0), (0, a1), (0, a2), (9, 0)] [] s := rfl
set_option maxRecDepth 100000 in
theorem e_X12_becomes_0 (a0 a1 a2 : Int) (sh : Int × (Int → Nat × Int)) (h : Int → Int → Int) : q_L 168 0 [(22, a0), (0, a1), (0, a2), (9, 0)] [] (sh, h) = if 0 ≤ h a0 0 then (if 0 ≤ a1 ∧ a1 < (sh.2 (h a0 0)).2 then (if 0 ≤ h a0 0 then (if 0 ≤ a1 ∧ a1 < (sh.2 (h a0 0)).2 ∧ 0 ≤ (h a0 0) then (some ((0, h (h a0 0) a1), (sh, q_up h (h a0 0) a1 a2))) else none) else none) else none) else none :=
  (q_unL hL_X12_becomes cu_X12_becomes 400 0 _ _ _).trans rfl
def cu_X12_rain : List Nat := [0, 4, 14, 24, 41, 44, 50]
theorem hL_X12_rain : q_P 169 = q_find P_X12_rain := rfl
theorem c_X12_rain (a0 a1 a2 a3 : Int) (s : q_M) : q_Cc 169 [(22, a0), (0, a1), (0, a2), (0, a3)] s = q_L 169 0 [(22, a0), (0, a1), (0, a2), (0, a3)] [] s := rfl
set_option maxRecDepth 100000 in
theorem e_X12_rain_0 (a0 a1 a2 a3 : Int) (sh : Int × (Int → Nat × Int)) (h : Int → Int → Int) : q_L 169 0 [(22, a0), (0, a1), (0, a2), (0, a3)] [] (sh, h) = (q_Cc 163 [(0, a1)] (sh, h)).bind (fun r => q_L 169 4 [(22, a0), (0, a1), (0, a2), (0, a3)] [r.1] r.2) :=
  (q_unL hL_X12_rain cu_X12_rain 400 0 _ _ _).trans rfl
set_option maxRecDepth 100000 in
theorem e_X12_rain_4 (a0 a1 a2 a3 b0 : Int) (sh : Int × (Int → Nat × Int)) (h : Int → Int → Int) : q_L 169 4 [(22, a0), (0, a1), (0, a2), (0, a3)] [(0, b0)] (sh, h) = if b0 = 0 then (q_L 169 44 [(22, a0), (0, a1), (0, a2), (0, a3)] [] (sh, h)) else ((q_Cc 162 [(0, a2), (0, 0), (0, 13)] (sh, h)).bind (fun r => q_L 169 14 [(22, a0), (0, a1), (0, a2), (0, a3)] [r.1] r.2)) :=
  (q_unL hL_X12_rain cu_X12_rain 400 4 _ _ _).trans rfl
set_option maxRecDepth 100000 in
theorem e_X12_rain_14 (a0 a1 a2 a3 b0 : Int) (sh : Int × (Int → Nat × Int)) (h : Int → Int → Int) : q_L 169 14 [(22, a0), (0, a1), (0, a2), (0, a3)] [(0, b0)] (sh, h) = if b0 = 0 then (q_L 169 44 [(22, a0), (0, a1), (0, a2), (0, a3)] [] (sh, h)) else ((q_Cc 162 [(0, a3), (0, 0), (0, 9)] (sh, h)).bind (fun r => q_L 169 24 [(22, a0), (0, a1), (0, a2), (0, a3)] [r.1] r.2)) :=
  (q_unL hL_X12_rain cu_X12_rain 400 14 _ _ _).trans rfl
set_option maxRecDepth 100000 in
theorem e_X12_rain_24 (a0 a1 a2 a3 b0 : Int) (sh : Int × (Int → Nat × Int)) (h : Int → Int → Int) : q_L 169 24 [(22, a0), (0, a1), (0, a2), (0, a3)] [(0, b0)] (sh, h) = if b0 = 0 then (q_L 169 44 [(22, a0), (0, a1), (0, a2), (0, a3)] [] (sh, h)) else ((q_Cc 168 [(22, a0), (0, q_add (q_add (10 : Int) (q_mul (14 : Int) a1)) a2), (0, a3)] (sh, h)).bind (fun r => q_L 169 41 [(22, a0), (0, a1), (0, a2), (0, a3)] [r.1] r.2)) :=
  (q_unL hL_X12_rain cu_X12_rain 400 24 _ _ _).trans rfl
set_option maxRecDepth 100000 in
theorem e_X12_rain_41 (a0 a1 a2 a3 b0 : Int) (sh : Int × (Int → Nat × Int)) (h : Int → Int → Int) : q_L 169 41 [(22, a0), (0, a1), (0, a2), (0, a3)] [(0, b0)] (sh, h) = q_L 169 50 [(22, a0), (0, a1), (0, a2), (0, a3)] [(0, b0)] (sh, h) :=
  (q_unL hL_X12_rain cu_X12_rain 400 41 _ _ _).trans rfl
set_option maxRecDepth 100000 in
theorem e_X12_rain_44 (a0 a1 a2 a3 : Int) (sh : Int × (Int → Nat × Int)) (h : Int → Int → Int) : q_L 169 44 [(22, a0), (0, a1), (0, a2), (0, a3)] [] (sh, h) = (q_Cc 161 [(22, a0), (0, (-1000001))] (sh, h)).bind (fun r => q_L 169 50 [(22, a0), (0, a1), (0, a2), (0, a3)] [r.1] r.2) :=
  (q_unL hL_X12_rain cu_X12_rain 400 44 _ _ _).trans rfl
set_option maxRecDepth 100000 in
theorem e_X12_rain_50 (a0 a1 a2 a3 b0 : Int) (sh : Int × (Int → Nat × Int)) (h : Int → Int → Int) : q_L 169 50 [(22, a0), (0, a1), (0, a2), (0, a3)] [(0, b0)] (sh, h) = some ((0, b0), (sh, h)) :=
  (q_unL hL_X12_rain cu_X12_rain 400 50 _ _ _).trans rfl
def cu_X12_dish : List Nat := [0, 4, 14, 23, 26, 32, 54]
theorem hL_X12_dish : q_P 170 = q_find P_X12_dish := rfl
theorem c_X12_dish (a0 a1 a2 a3 : Int) (s : q_M) : q_Cc 170 [(22, a0), (0, a1), (0, a2), (0, a3)] s = q_L 170 0 [(22, a0), (0, a1), (0, a2), (0, a3), (9, 0)] [] s := rfl
set_option maxRecDepth 100000 in
theorem e_X12_dish_0 (a0 a1 a2 a3 : Int) (sh : Int × (Int → Nat × Int)) (h : Int → Int → Int) : q_L 170 0 [(22, a0), (0, a1), (0, a2), (0, a3), (9, 0)] [] (sh, h) = (q_Cc 163 [(0, a1)] (sh, h)).bind (fun r => q_L 170 4 [(22, a0), (0, a1), (0, a2), (0, a3), (9, 0)] [r.1] r.2) :=
  (q_unL hL_X12_dish cu_X12_dish 400 0 _ _ _).trans rfl
set_option maxRecDepth 100000 in
theorem e_X12_dish_4 (a0 a1 a2 a3 b0 : Int) (sh : Int × (Int → Nat × Int)) (h : Int → Int → Int) : q_L 170 4 [(22, a0), (0, a1), (0, a2), (0, a3), (9, 0)] [(0, b0)] (sh, h) = if b0 = 0 then (q_L 170 26 [(22, a0), (0, a1), (0, a2), (0, a3), (9, 0)] [] (sh, h)) else ((q_Cc 162 [(0, a2), (0, 1), (0, 9)] (sh, h)).bind (fun r => q_L 170 14 [(22, a0), (0, a1), (0, a2), (0, a3), (9, 0)] [r.1] r.2)) :=
  (q_unL hL_X12_dish cu_X12_dish 400 4 _ _ _).trans rfl
set_option maxRecDepth 100000 in
theorem e_X12_dish_14 (a0 a1 a2 a3 b0 : Int) (sh : Int × (Int → Nat × Int)) (h : Int → Int → Int) : q_L 170 14 [(22, a0), (0, a1), (0, a2), (0, a3), (9, 0)] [(0, b0)] (sh, h) = if b0 = 0 then (q_L 170 26 [(22, a0), (0, a1), (0, a2), (0, a3), (9, 0)] [] (sh, h)) else ((q_Cc 162 [(0, a3), (0, 0), (0, 3)] (sh, h)).bind (fun r => q_L 170 23 [(22, a0), (0, a1), (0, a2), (0, a3), (9, 0)] [r.1] r.2)) :=
  (q_unL hL_X12_dish cu_X12_dish 400 14 _ _ _).trans rfl
set_option maxRecDepth 100000 in
theorem e_X12_dish_23 (a0 a1 a2 a3 b0 : Int) (sh : Int × (Int → Nat × Int)) (h : Int → Int → Int) : q_L 170 23 [(22, a0), (0, a1), (0, a2), (0, a3), (9, 0)] [(0, b0)] (sh, h) = if b0 = 0 then (q_L 170 26 [(22, a0), (0, a1), (0, a2), (0, a3), (9, 0)] [] (sh, h)) else (if 0 ≤ h a0 0 then (if 0 ≤ (1 : Int) ∧ (1 : Int) < (sh.2 (h a0 0)).2 then (if (h (h a0 0) (1 : Int)) = (6 : Int) then ((q_Cc 161 [(22, a0), (0, (-1000002))] (sh, h)).bind (fun r => q_L 170 54 [(22, a0), (0, a1), (0, a2), (0, a3), (0, h (h a0 0) (1 : Int))] [r.1] r.2)) else (if 0 ≤ h a0 0 then (if 0 ≤ (q_add (52 : Int) (h (h a0 0) (1 : Int))) ∧ (q_add (52 : Int) (h (h a0 0) (1 : Int))) < (sh.2 (h a0 0)).2 ∧ 0 ≤ (h a0 0) then (if 0 ≤ (q_up h (h a0 0) (q_add (52 : Int) (h (h a0 0) (1 : Int))) a1) a0 0 then (if 0 ≤ (q_add (58 : Int) (h (h a0 0) (1 : Int))) ∧ (q_add (58 : Int) (h (h a0 0) (1 : Int))) < (sh.2 ((q_up h (h a0 0) (q_add (52 : Int) (h (h a0 0) (1 : Int))) a1) a0 0)).2 ∧ 0 ≤ ((q_up h (h a0 0) (q_add (52 : Int) (h (h a0 0) (1 : Int))) a1) a0 0) then (if 0 ≤ (q_up (q_up h (h a0 0) (q_add (52 : Int) (h (h a0 0) (1 : Int))) a1) ((q_up h (h a0 0) (q_add (52 : Int) (h (h a0 0) (1 : Int))) a1) a0 0) (q_add (58 : Int) (h (h a0 0) (1 : Int))) a2) a0 0 then (if 0 ≤ (q_add (64 : Int) (h (h a0 0) (1 : Int))) ∧ (q_add (64 : Int) (h (h a0 0) (1 : Int))) < (sh.2 ((q_up (q_up h (h a0 0) (q_add (52 : Int) (h (h a0 0) (1 : Int))) a1) ((q_up h (h a0 0) (q_add (52 : Int) (h (h a0 0) (1 : Int))) a1) a0 0) (q_add (58 : Int) (h (h a0 0) (1 : Int))) a2) a0 0)).2 ∧ 0 ≤ ((q_up (q_up h (h a0 0) (q_add (52 : Int) (h (h a0 0) (1 : Int))) a1) ((q_up h (h a0 0) (q_add (52 : Int) (h (h a0 0) (1 : Int))) a1) a0 0) (q_add (58 : Int) (h (h a0 0) (1 : Int))) a2) a0 0) then (if 0 ≤ (q_up (q_up (q_up h (h a0 0) (q_add (52 : Int) (h (h a0 0) (1 : Int))) a1) ((q_up h (h a0 0) (q_add (52 : Int) (h (h a0 0) (1 : Int))) a1) a0 0) (q_add (58 : Int) (h (h a0 0) (1 : Int))) a2) ((q_up (q_up h (h a0 0) (q_add (52 : Int) (h (h a0 0) (1 : Int))) a1) ((q_up h (h a0 0) (q_add (52 : Int) (h (h a0 0) (1 : Int))) a1) a0 0) (q_add (58 : Int) (h (h a0 0) (1 : Int))) a2) a0 0) (q_add (64 : Int) (h (h a0 0) (1 : Int))) a3) a0 0 then (if 0 ≤ (q_add (70 : Int) (h (h a0 0) (1 : Int))) ∧ (q_add (70 : Int) (h (h a0 0) (1 : Int))) < (sh.2 ((q_up (q_up (q_up h (h a0 0) (q_add (52 : Int) (h (h a0 0) (1 : Int))) a1) ((q_up h (h a0 0) (q_add (52 : Int) (h (h a0 0) (1 : Int))) a1) a0 0) (q_add (58 : Int) (h (h a0 0) (1 : Int))) a2) ((q_up (q_up h (h a0 0) (q_add (52 : Int) (h (h a0 0) (1 : Int))) a1) ((q_up h (h a0 0) (q_add (52 : Int) (h (h a0 0) (1 : Int))) a1) a0 0) (q_add (58 : Int) (h (h a0 0) (1 : Int))) a2) a0 0) (q_add (64 : Int) (h (h a0 0) (1 : Int))) a3) a0 0)).2 ∧ 0 ≤ ((q_up (q_up (q_up h (h a0 0) (q_add (52 : Int) (h (h a0 0) (1 : Int))) a1) ((q_up h (h a0 0) (q_add (52 : Int) (h (h a0 0) (1 : Int))) a1) a0 0) (q_add (58 : Int) (h (h a0 0) (1 : Int))) a2) ((q_up (q_up h (h a0 0) (q_add (52 : Int) (h (h a0 0) (1 : Int))) a1) ((q_up h (h a0 0) (q_add (52 : Int) (h (h a0 0) (1 : Int))) a1) a0 0) (q_add (58 : Int) (h (h a0 0) (1 : Int))) a2) a0 0) (q_add (64 : Int) (h (h a0 0) (1 : Int))) a3) a0 0) then (if 0 ≤ (q_up (q_up (q_up (q_up h (h a0 0) (q_add (52 : Int) (h (h a0 0) (1 : Int))) a1) ((q_up h (h a0 0) (q_add (52 : Int) (h (h a0 0) (1 : Int))) a1) a0 0) (q_add (58 : Int) (h (h a0 0) (1 : Int))) a2) ((q_up (q_up h (h a0 0) (q_add (52 : Int) (h (h a0 0) (1 : Int))) a1) ((q_up h (h a0 0) (q_add (52 : Int) (h (h a0 0) (1 : Int))) a1) a0 0) (q_add (58 : Int) (h (h a0 0) (1 : Int))) a2) a0 0) (q_add (64 : Int) (h (h a0 0) (1 : Int))) a3) ((q_up (q_up (q_up h (h a0 0) (q_add (52 : Int) (h (h a0 0) (1 : Int))) a1) ((q_up h (h a0 0) (q_add (52 : Int) (h (h a0 0) (1 : Int))) a1) a0 0) (q_add (58 : Int) (h (h a0 0) (1 : Int))) a2) ((q_up (q_up h (h a0 0) (q_add (52 : Int) (h (h a0 0) (1 : Int))) a1) ((q_up h (h a0 0) (q_add (52 : Int) (h (h a0 0) (1 : Int))) a1) a0 0) (q_add (58 : Int) (h (h a0 0) (1 : Int))) a2) a0 0) (q_add (64 : Int) (h (h a0 0) (1 : Int))) a3) a0 0) (q_add (70 : Int) (h (h a0 0) (1 : Int))) (0 : Int)) a0 0 then (if 0 ≤ (1 : Int) ∧ (1 : Int) < (sh.2 ((q_up (q_up (q_up (q_up h (h a0 0) (q_add (52 : Int) (h (h a0 0) (1 : Int))) a1) ((q_up h (h a0 0) (q_add (52 : Int) (h (h a0 0) (1 : Int))) a1) a0 0) (q_add (58 : Int) (h (h a0 0) (1 : Int))) a2) ((q_up (q_up h (h a0 0) (q_add (52 : Int) (h (h a0 0) (1 : Int))) a1) ((q_up h (h a0 0) (q_add (52 : Int) (h (h a0 0) (1 : Int))) a1) a0 0) (q_add (58 : Int) (h (h a0 0) (1 : Int))) a2) a0 0) (q_add (64 : Int) (h (h a0 0) (1 : Int))) a3) ((q_up (q_up (q_up h (h a0 0) (q_add (52 : Int) (h (h a0 0) (1 : Int))) a1) ((q_up h (h a0 0) (q_add (52 : Int) (h (h a0 0) (1 : Int))) a1) a0 0) (q_add (58 : Int) (h (h a0 0) (1 : Int))) a2) ((q_up (q_up h (h a0 0) (q_add (52 : Int) (h (h a0 0) (1 : Int))) a1) ((q_up h (h a0 0) (q_add (52 : Int) (h (h a0 0) (1 : Int))) a1) a0 0) (q_add (58 : Int) (h (h a0 0) (1 : Int))) a2) a0 0) (q_add (64 : Int) (h (h a0 0) (1 : Int))) a3) a0 0) (q_add (70 : Int) (h (h a0 0) (1 : Int))) (0 : Int)) a0 0)).2 then (if 0 ≤ (1 : Int) ∧ (1 : Int) < (sh.2 ((q_up (q_up (q_up (q_up h (h a0 0) (q_add (52 : Int) (h (h a0 0) (1 : Int))) a1) ((q_up h (h a0 0) (q_add (52 : Int) (h (h a0 0) (1 : Int))) a1) a0 0) (q_add (58 : Int) (h (h a0 0) (1 : Int))) a2) ((q_up (q_up h (h a0 0) (q_add (52 : Int) (h (h a0 0) (1 : Int))) a1) ((q_up h (h a0 0) (q_add (52 : Int) (h (h a0 0) (1 : Int))) a1) a0 0) (q_add (58 : Int) (h (h a0 0) (1 : Int))) a2) a0 0) (q_add (64 : Int) (h (h a0 0) (1 : Int))) a3) ((q_up (q_up (q_up h (h a0 0) (q_add (52 : Int) (h (h a0 0) (1 : Int))) a1) ((q_up h (h a0 0) (q_add (52 : Int) (h (h a0 0) (1 : Int))) a1) a0 0) (q_add (58 : Int) (h (h a0 0) (1 : Int))) a2) ((q_up (q_up h (h a0 0) (q_add (52 : Int) (h (h a0 0) (1 : Int))) a1) ((q_up h (h a0 0) (q_add (52 : Int) (h (h a0 0) (1 : Int))) a1) a0 0) (q_add (58 : Int) (h (h a0 0) (1 : Int))) a2) a0 0) (q_add (64 : Int) (h (h a0 0) (1 : Int))) a3) a0 0) (q_add (70 : Int) (h (h a0 0) (1 : Int))) (0 : Int)) a0 0)).2 ∧ 0 ≤ ((q_up (q_up (q_up (q_up h (h a0 0) (q_add (52 : Int) (h (h a0 0) (1 : Int))) a1) ((q_up h (h a0 0) (q_add (52 : Int) (h (h a0 0) (1 : Int))) a1) a0 0) (q_add (58 : Int) (h (h a0 0) (1 : Int))) a2) ((q_up (q_up h (h a0 0) (q_add (52 : Int) (h (h a0 0) (1 : Int))) a1) ((q_up h (h a0 0) (q_add (52 : Int) (h (h a0 0) (1 : Int))) a1) a0 0) (q_add (58 : Int) (h (h a0 0) (1 : Int))) a2) a0 0) (q_add (64 : Int) (h (h a0 0) (1 : Int))) a3) ((q_up (q_up (q_up h (h a0 0) (q_add (52 : Int) (h (h a0 0) (1 : Int))) a1) ((q_up h (h a0 0) (q_add (52 : Int) (h (h a0 0) (1 : Int))) a1) a0 0) (q_add (58 : Int) (h (h a0 0) (1 : Int))) a2) ((q_up (q_up h (h a0 0) (q_add (52 : Int) (h (h a0 0) (1 : Int))) a1) ((q_up h (h a0 0) (q_add (52 : Int) (h (h a0 0) (1 : Int))) a1) a0 0) (q_add (58 : Int) (h (h a0 0) (1 : Int))) a2) a0 0) (q_add (64 : Int) (h (h a0 0) (1 : Int))) a3) a0 0) (q_add (70 : Int) (h (h a0 0) (1 : Int))) (0 : Int)) a0 0) then (some ((0, h (h a0 0) (1 : Int)), (sh, q_up (q_up (q_up (q_up (q_up h (h a0 0) (q_add (52 : Int) (h (h a0 0) (1 : Int))) a1) ((q_up h (h a0 0) (q_add (52 : Int) (h (h a0 0) (1 : Int))) a1) a0 0) (q_add (58 : Int) (h (h a0 0) (1 : Int))) a2) ((q_up (q_up h (h a0 0) (q_add (52 : Int) (h (h a0 0) (1 : Int))) a1) ((q_up h (h a0 0) (q_add (52 : Int) (h (h a0 0) (1 : Int))) a1) a0 0) (q_add (58 : Int) (h (h a0 0) (1 : Int))) a2) a0 0) (q_add (64 : Int) (h (h a0 0) (1 : Int))) a3) ((q_up (q_up (q_up h (h a0 0) (q_add (52 : Int) (h (h a0 0) (1 : Int))) a1) ((q_up h (h a0 0) (q_add (52 : Int) (h (h a0 0) (1 : Int))) a1) a0 0) (q_add (58 : Int) (h (h a0 0) (1 : Int))) a2) ((q_up (q_up h (h a0 0) (q_add (52 : Int) (h (h a0 0) (1 : Int))) a1) ((q_up h (h a0 0) (q_add (52 : Int) (h (h a0 0) (1 : Int))) a1) a0 0) (q_add (58 : Int) (h (h a0 0) (1 : Int))) a2) a0 0) (q_add (64 : Int) (h (h a0 0) (1 : Int))) a3) a0 0) (q_add (70 : Int) (h (h a0 0) (1 : Int))) (0 : Int)) ((q_up (q_up (q_up (q_up h (h a0 0) (q_add (52 : Int) (h (h a0 0) (1 : Int))) a1) ((q_up h (h a0 0) (q_add (52 : Int) (h (h a0 0) (1 : Int))) a1) a0 0) (q_add (58 : Int) (h (h a0 0) (1 : Int))) a2) ((q_up (q_up h (h a0 0) (q_add (52 : Int) (h (h a0 0) (1 : Int))) a1) ((q_up h (h a0 0) (q_add (52 : Int) (h (h a0 0) (1 : Int))) a1) a0 0) (q_add (58 : Int) (h (h a0 0) (1 : Int))) a2) a0 0) (q_add (64 : Int) (h (h a0 0) (1 : Int))) a3) ((q_up (q_up (q_up h (h a0 0) (q_add (52 : Int) (h (h a0 0) (1 : Int))) a1) ((q_up h (h a0 0) (q_add (52 : Int) (h (h a0 0) (1 : Int))) a1) a0 0) (q_add (58 : Int) (h (h a0 0) (1 : Int))) a2) ((q_up (q_up h (h a0 0) (q_add (52 : Int) (h (h a0 0) (1 : Int))) a1) ((q_up h (h a0 0) (q_add (52 : Int) (h (h a0 0) (1 : Int))) a1) a0 0) (q_add (58 : Int) (h (h a0 0) (1 : Int))) a2) a0 0) (q_add (64 : Int) (h (h a0 0) (1 : Int))) a3) a0 0) (q_add (70 : Int) (h (h a0 0) (1 : Int))) (0 : Int)) a0 0) (1 : Int) (q_add ((q_up (q_up (q_up (q_up h (h a0 0) (q_add (52 : Int) (h (h a0 0) (1 : Int))) a1) ((q_up h (h a0 0) (q_add (52 : Int) (h (h a0 0) (1 : Int))) a1) a0 0) (q_add (58 : Int) (h (h a0 0) (1 : Int))) a2) ((q_up (q_up h (h a0 0) (q_add (52 : Int) (h (h a0 0) (1 : Int))) a1) ((q_up h (h a0 0) (q_add (52 : Int) (h (h a0 0) (1 : Int))) a1) a0 0) (q_add (58 : Int) (h (h a0 0) (1 : Int))) a2) a0 0) (q_add (64 : Int) (h (h a0 0) (1 : Int))) a3) ((q_up (q_up (q_up h (h a0 0) (q_add (52 : Int) (h (h a0 0) (1 : Int))) a1) ((q_up h (h a0 0) (q_add (52 : Int) (h (h a0 0) (1 : Int))) a1) a0 0) (q_add (58 : Int) (h (h a0 0) (1 : Int))) a2) ((q_up (q_up h (h a0 0) (q_add (52 : Int) (h (h a0 0) (1 : Int))) a1) ((q_up h (h a0 0) (q_add (52 : Int) (h (h a0 0) (1 : Int))) a1) a0 0) (q_add (58 : Int) (h (h a0 0) (1 : Int))) a2) a0 0) (q_add (64 : Int) (h (h a0 0) (1 : Int))) a3) a0 0) (q_add (70 : Int) (h (h a0 0) (1 : Int))) (0 : Int)) ((q_up (q_up (q_up (q_up h (h a0 0) (q_add (52 : Int) (h (h a0 0) (1 : Int))) a1) ((q_up h (h a0 0) (q_add (52 : Int) (h (h a0 0) (1 : Int))) a1) a0 0) (q_add (58 : Int) (h (h a0 0) (1 : Int))) a2) ((q_up (q_up h (h a0 0) (q_add (52 : Int) (h (h a0 0) (1 : Int))) a1) ((q_up h (h a0 0) (q_add (52 : Int) (h (h a0 0) (1 : Int))) a1) a0 0) (q_add (58 : Int) (h (h a0 0) (1 : Int))) a2) a0 0) (q_add (64 : Int) (h (h a0 0) (1 : Int))) a3) ((q_up (q_up (q_up h (h a0 0) (q_add (52 : Int) (h (h a0 0) (1 : Int))) a1) ((q_up h (h a0 0) (q_add (52 : Int) (h (h a0 0) (1 : Int))) a1) a0 0) (q_add (58 : Int) (h (h a0 0) (1 : Int))) a2) ((q_up (q_up h (h a0 0) (q_add (52 : Int) (h (h a0 0) (1 : Int))) a1) ((q_up h (h a0 0) (q_add (52 : Int) (h (h a0 0) (1 : Int))) a1) a0 0) (q_add (58 : Int) (h (h a0 0) (1 : Int))) a2) a0 0) (q_add (64 : Int) (h (h a0 0) (1 : Int))) a3) a0 0) (q_add (70 : Int) (h (h a0 0) (1 : Int))) (0 : Int)) a0 0) (1 : Int)) (1 : Int))))) else none) else none) else none) else none) else none) else none) else none) else none) else none) else none) else none)) else none) else none) :=
  (q_unL hL_X12_dish cu_X12_dish 400 23 _ _ _).trans rfl
set_option maxRecDepth 100000 in
theorem e_X12_dish_26 (a0 a1 a2 a3 : Int) (sh : Int × (Int → Nat × Int)) (h : Int → Int → Int) : q_L 170 26 [(22, a0), (0, a1), (0, a2), (0, a3), (9, 0)] [] (sh, h) = (q_Cc 161 [(22, a0), (0, (-1000001))] (sh, h)).bind (fun r => q_L 170 32 [(22, a0), (0, a1), (0, a2), (0, a3), (9, 0)] [r.1] r.2) :=
  (q_unL hL_X12_dish cu_X12_dish 400 26 _ _ _).trans rfl
set_option maxRecDepth 100000 in
theorem e_X12_dish_32 (a0 a1 a2 a3 b0 : Int) (sh : Int × (Int → Nat × Int)) (h : Int → Int → Int) : q_L 170 32 [(22, a0), (0, a1), (0, a2), (0, a3), (9, 0)] [(0, b0)] (sh, h) = some ((0, b0), (sh, h)) :=
  (q_unL hL_X12_dish cu_X12_dish 400 32 _ _ _).trans rfl
set_option maxRecDepth 100000 in
theorem e_X12_dish_54 (a0 a1 a2 a3 a4 b0 : Int) (sh : Int × (Int → Nat × Int)) (h : Int → Int → Int) : q_L 170 54 [(22, a0), (0, a1), (0, a2), (0, a3), (0, a4)] [(0, b0)] (sh, h) = some ((0, b0), (sh, h)) :=
  (q_unL hL_X12_dish cu_X12_dish 400 54 _ _ _).trans rfl
def cu_X12_mend : List Nat := [0, 5, 14, 24, 34, 43]
theorem hL_X12_mend : q_P 171 = q_find P_X12_mend := rfl
theorem c_X12_mend (a0 a1 a2 : Int) (s : q_M) : q_Cc 171 [(22, a0), (0, a1), (0, a2)] s = q_L 171 0 [(22, a0), (0, a1), (0, a2), (9, 0)] [] s := rfl
set_option maxRecDepth 100000 in
theorem e_X12_mend_0 (a0 a1 a2 : Int) (sh : Int × (Int → Nat × Int)) (h : Int → Int → Int) : q_L 171 0 [(22, a0), (0, a1), (0, a2), (9, 0)] [] (sh, h) = (q_Cc 164 [(22, a0), (0, a1)] (sh, h)).bind (fun r => q_L 171 5 [(22, a0), (0, a1), (0, a2), (9, 0)] [r.1] r.2) :=
  (q_unL hL_X12_mend cu_X12_mend 400 0 _ _ _).trans rfl
set_option maxRecDepth 100000 in
theorem e_X12_mend_5 (a0 a1 a2 b0 : Int) (sh : Int × (Int → Nat × Int)) (h : Int → Int → Int) : q_L 171 5 [(22, a0), (0, a1), (0, a2), (9, 0)] [(0, b0)] (sh, h) = if b0 = 0 then ((q_Cc 161 [(22, a0), (0, (-1000001))] (sh, h)).bind (fun r => q_L 171 14 [(22, a0), (0, a1), (0, a2), (9, 0)] [r.1] r.2)) else (if a2 = 0 then (q_L 171 24 [(22, a0), (0, a1), (0, a2), (9, 0)] [(0, 0)] (sh, h)) else (q_L 171 24 [(22, a0), (0, a1), (0, a2), (9, 0)] [(0, 1)] (sh, h))) :=
  (q_unL hL_X12_mend cu_X12_mend 400 5 _ _ _).trans rfl
set_option maxRecDepth 100000 in
theorem e_X12_mend_14 (a0 a1 a2 b0 : Int) (sh : Int × (Int → Nat × Int)) (h : Int → Int → Int) : q_L 171 14 [(22, a0), (0, a1), (0, a2), (9, 0)] [(0, b0)] (sh, h) = some ((0, b0), (sh, h)) :=
  (q_unL hL_X12_mend cu_X12_mend 400 14 _ _ _).trans rfl
set_option maxRecDepth 100000 in
theorem e_X12_mend_24 (a0 a1 a2 b0 : Int) (sh : Int × (Int → Nat × Int)) (h : Int → Int → Int) : q_L 171 24 [(22, a0), (0, a1), (0, a2), (9, 0)] [(0, b0)] (sh, h) = (q_Cc 168 [(22, a0), (0, q_add (70 : Int) a1), (0, b0)] (sh, h)).bind (fun r => q_L 171 34 [(22, a0), (0, a1), (0, a2), (0, b0)] [r.1] r.2) :=
  (q_unL hL_X12_mend cu_X12_mend 400 24 _ _ _).trans rfl
set_option maxRecDepth 100000 in
theorem e_X12_mend_34 (a0 a1 a2 a3 b0 : Int) (sh : Int × (Int → Nat × Int)) (h : Int → Int → Int) : q_L 171 34 [(22, a0), (0, a1), (0, a2), (0, a3)] [(0, b0)] (sh, h) = if b0 = a3 then (q_L 171 43 [(22, a0), (0, a1), (0, a2), (0, a3)] [(0, 0)] (sh, h)) else (q_L 171 43 [(22, a0), (0, a1), (0, a2), (0, a3)] [(0, 1)] (sh, h)) :=
  (q_unL hL_X12_mend cu_X12_mend 400 34 _ _ _).trans rfl
set_option maxRecDepth 100000 in
theorem e_X12_mend_43 (a0 a1 a2 a3 b0 : Int) (sh : Int × (Int → Nat × Int)) (h : Int → Int → Int) : q_L 171 43 [(22, a0), (0, a1), (0, a2), (0, a3)] [(0, b0)] (sh, h) = some ((0, b0), (sh, h)) :=
  (q_unL hL_X12_mend cu_X12_mend 400 43 _ _ _).trans rfl
def cu_X12_running : List Nat := [0, 4, 46, 47]
theorem hL_X12_running : q_P 172 = q_find P_X12_running := rfl
theorem c_X12_running (a0 a1 : Int) (s : q_M) : q_Cc 172 [(22, a0), (0, a1)] s = q_L 172 0 [(22, a0), (0, a1), (9, 0), (9, 0)] [] s := rfl
set_option maxRecDepth 100000 in
theorem e_X12_running_0 (a0 a1 : Int) (sh : Int × (Int → Nat × Int)) (h : Int → Int → Int) : q_L 172 0 [(22, a0), (0, a1), (9, 0), (9, 0)] [] (sh, h) = q_L 172 4 [(22, a0), (0, a1), (0, (-1)), (0, 0)] [] (sh, h) :=
  (q_unL hL_X12_running cu_X12_running 400 0 _ _ _).trans rfl
set_option maxRecDepth 100000 in
theorem e_X12_running_4 (a0 a1 a2 a3 : Int) (sh : Int × (Int → Nat × Int)) (h : Int → Int → Int) : q_L 172 4 [(22, a0), (0, a1), (0, a2), (0, a3)] [] (sh, h) = if 0 ≤ h a0 0 then (if 0 ≤ (3 : Int) ∧ (3 : Int) < (sh.2 (h a0 0)).2 then (if a3 < (h (h a0 0) (3 : Int)) then (if 0 ≤ h a0 0 then (if 0 ≤ (q_add (480 : Int) a3) ∧ (q_add (480 : Int) a3) < (sh.2 (h a0 0)).2 then (if (h (h a0 0) (q_add (480 : Int) a3)) = (2 : Int) then (if 0 ≤ h a0 0 then (if 0 ≤ (q_add (494 : Int) a3) ∧ (q_add (494 : Int) a3) < (sh.2 (h a0 0)).2 then (if (h (h a0 0) (q_add (494 : Int) a3)) = a1 then (q_L 172 47 [(22, a0), (0, a1), (0, a2), (0, a3)] [(0, a3)] (sh, h)) else (q_L 172 46 [(22, a0), (0, a1), (0, a2), (0, a3)] [] (sh, h))) else none) else none) else (q_L 172 46 [(22, a0), (0, a1), (0, a2), (0, a3)] [] (sh, h))) else none) else none) else (some ((0, a2), (sh, h)))) else none) else none :=
  (q_unL hL_X12_running cu_X12_running 400 4 _ _ _).trans rfl
set_option maxRecDepth 100000 in
theorem e_X12_running_46 (a0 a1 a2 a3 : Int) (sh : Int × (Int → Nat × Int)) (h : Int → Int → Int) : q_L 172 46 [(22, a0), (0, a1), (0, a2), (0, a3)] [] (sh, h) = q_L 172 47 [(22, a0), (0, a1), (0, a2), (0, a3)] [(0, a2)] (sh, h) :=
  (q_unL hL_X12_running cu_X12_running 400 46 _ _ _).trans rfl
set_option maxRecDepth 100000 in
theorem e_X12_running_47 (a0 a1 a2 a3 b0 : Int) (sh : Int × (Int → Nat × Int)) (h : Int → Int → Int) : q_L 172 47 [(22, a0), (0, a1), (0, a2), (0, a3)] [(0, b0)] (sh, h) = q_L 172 4 [(22, a0), (0, a1), (0, b0), (0, q_w (a3 + 1))] [] (sh, h) :=
  (q_unL hL_X12_running cu_X12_running 400 47 _ _ _).trans rfl
def cu_X12_dishIs : List Nat := [0, 5, 14, 17, 23, 34, 51]
theorem hL_X12_dishIs : q_P 173 = q_find P_X12_dishIs := rfl
theorem c_X12_dishIs (a0 a1 a2 : Int) (s : q_M) : q_Cc 173 [(22, a0), (0, a1), (0, a2)] s = q_L 173 0 [(22, a0), (0, a1), (0, a2)] [] s := rfl
set_option maxRecDepth 100000 in
theorem e_X12_dishIs_0 (a0 a1 a2 : Int) (sh : Int × (Int → Nat × Int)) (h : Int → Int → Int) : q_L 173 0 [(22, a0), (0, a1), (0, a2)] [] (sh, h) = (q_Cc 164 [(22, a0), (0, a1)] (sh, h)).bind (fun r => q_L 173 5 [(22, a0), (0, a1), (0, a2)] [r.1] r.2) :=
  (q_unL hL_X12_dishIs cu_X12_dishIs 400 0 _ _ _).trans rfl
set_option maxRecDepth 100000 in
theorem e_X12_dishIs_5 (a0 a1 a2 b0 : Int) (sh : Int × (Int → Nat × Int)) (h : Int → Int → Int) : q_L 173 5 [(22, a0), (0, a1), (0, a2)] [(0, b0)] (sh, h) = if b0 = 0 then (q_L 173 17 [(22, a0), (0, a1), (0, a2)] [] (sh, h)) else ((q_Cc 162 [(0, a2), (0, 0), (0, 4)] (sh, h)).bind (fun r => q_L 173 14 [(22, a0), (0, a1), (0, a2)] [r.1] r.2)) :=
  (q_unL hL_X12_dishIs cu_X12_dishIs 400 5 _ _ _).trans rfl
set_option maxRecDepth 100000 in
theorem e_X12_dishIs_14 (a0 a1 a2 b0 : Int) (sh : Int × (Int → Nat × Int)) (h : Int → Int → Int) : q_L 173 14 [(22, a0), (0, a1), (0, a2)] [(0, b0)] (sh, h) = if b0 = 0 then (q_L 173 17 [(22, a0), (0, a1), (0, a2)] [] (sh, h)) else (if a2 = (4 : Int) then ((q_Cc 172 [(22, a0), (0, a1)] (sh, h)).bind (fun r => q_L 173 34 [(22, a0), (0, a1), (0, a2)] [r.1] r.2)) else (if 0 ≤ h a0 0 then (if 0 ≤ (q_add (q_add (52 : Int) (q_mul (6 : Int) a2)) a1) ∧ (q_add (q_add (52 : Int) (q_mul (6 : Int) a2)) a1) < (sh.2 (h a0 0)).2 then (q_L 173 51 [(22, a0), (0, a1), (0, a2)] [(0, h (h a0 0) (q_add (q_add (52 : Int) (q_mul (6 : Int) a2)) a1))] (sh, h)) else none) else none)) :=
  (q_unL hL_X12_dishIs cu_X12_dishIs 400 14 _ _ _).trans rfl
set_option maxRecDepth 100000 in
theorem e_X12_dishIs_17 (a0 a1 a2 : Int) (sh : Int × (Int → Nat × Int)) (h : Int → Int → Int) : q_L 173 17 [(22, a0), (0, a1), (0, a2)] [] (sh, h) = (q_Cc 161 [(22, a0), (0, (-1000001))] (sh, h)).bind (fun r => q_L 173 23 [(22, a0), (0, a1), (0, a2)] [r.1] r.2) :=
  (q_unL hL_X12_dishIs cu_X12_dishIs 400 17 _ _ _).trans rfl
set_option maxRecDepth 100000 in
theorem e_X12_dishIs_23 (a0 a1 a2 b0 : Int) (sh : Int × (Int → Nat × Int)) (h : Int → Int → Int) : q_L 173 23 [(22, a0), (0, a1), (0, a2)] [(0, b0)] (sh, h) = some ((0, b0), (sh, h)) :=
  (q_unL hL_X12_dishIs cu_X12_dishIs 400 23 _ _ _).trans rfl
set_option maxRecDepth 100000 in
theorem e_X12_dishIs_34 (a0 a1 a2 b0 : Int) (sh : Int × (Int → Nat × Int)) (h : Int → Int → Int) : q_L 173 34 [(22, a0), (0, a1), (0, a2)] [(0, b0)] (sh, h) = q_L 173 51 [(22, a0), (0, a1), (0, a2)] [(0, b0)] (sh, h) :=
  (q_unL hL_X12_dishIs cu_X12_dishIs 400 34 _ _ _).trans rfl
set_option maxRecDepth 100000 in
theorem e_X12_dishIs_51 (a0 a1 a2 b0 : Int) (sh : Int × (Int → Nat × Int)) (h : Int → Int → Int) : q_L 173 51 [(22, a0), (0, a1), (0, a2)] [(0, b0)] (sh, h) = some ((0, b0), (sh, h)) :=
  (q_unL hL_X12_dishIs cu_X12_dishIs 400 51 _ _ _).trans rfl
def cu_X12_craft : List Nat := [0, 7, 17, 34, 46, 52, 74]
theorem hL_X12_craft : q_P 174 = q_find P_X12_craft := rfl
theorem c_X12_craft (a0 a1 a2 a3 : Int) (s : q_M) : q_Cc 174 [(22, a0), (0, a1), (0, a2), (0, a3)] s = q_L 174 0 [(22, a0), (0, a1), (0, a2), (0, a3), (9, 0)] [] s := rfl
set_option maxRecDepth 100000 in
theorem e_X12_craft_0 (a0 a1 a2 a3 : Int) (sh : Int × (Int → Nat × Int)) (h : Int → Int → Int) : q_L 174 0 [(22, a0), (0, a1), (0, a2), (0, a3), (9, 0)] [] (sh, h) = (q_Cc 162 [(0, a1), (0, 1), (0, 9)] (sh, h)).bind (fun r => q_L 174 7 [(22, a0), (0, a1), (0, a2), (0, a3), (9, 0)] [r.1] r.2) :=
  (q_unL hL_X12_craft cu_X12_craft 400 0 _ _ _).trans rfl
set_option maxRecDepth 100000 in
theorem e_X12_craft_7 (a0 a1 a2 a3 b0 : Int) (sh : Int × (Int → Nat × Int)) (h : Int → Int → Int) : q_L 174 7 [(22, a0), (0, a1), (0, a2), (0, a3), (9, 0)] [(0, b0)] (sh, h) = if b0 = 0 then (q_L 174 46 [(22, a0), (0, a1), (0, a2), (0, a3), (9, 0)] [] (sh, h)) else ((q_Cc 162 [(0, a2), (0, 0), (0, 30)] (sh, h)).bind (fun r => q_L 174 17 [(22, a0), (0, a1), (0, a2), (0, a3), (9, 0)] [r.1] r.2)) :=
  (q_unL hL_X12_craft cu_X12_craft 400 7 _ _ _).trans rfl
set_option maxRecDepth 100000 in
theorem e_X12_craft_17 (a0 a1 a2 a3 b0 : Int) (sh : Int × (Int → Nat × Int)) (h : Int → Int → Int) : q_L 174 17 [(22, a0), (0, a1), (0, a2), (0, a3), (9, 0)] [(0, b0)] (sh, h) = if b0 = 0 then (q_L 174 46 [(22, a0), (0, a1), (0, a2), (0, a3), (9, 0)] [] (sh, h)) else (if a3 < 0 then (q_L 174 46 [(22, a0), (0, a1), (0, a2), (0, a3), (9, 0)] [] (sh, h)) else (if (10 : Int) = 0 then none else (q_Cc 162 [(0, q_div a3 (10 : Int)), (0, 1), (0, 12)] (sh, h)).bind (fun r => q_L 174 34 [(22, a0), (0, a1), (0, a2), (0, a3), (9, 0)] [r.1] r.2))) :=
  (q_unL hL_X12_craft cu_X12_craft 400 17 _ _ _).trans rfl
set_option maxRecDepth 100000 in
theorem e_X12_craft_34 (a0 a1 a2 a3 b0 : Int) (sh : Int × (Int → Nat × Int)) (h : Int → Int → Int) : q_L 174 34 [(22, a0), (0, a1), (0, a2), (0, a3), (9, 0)] [(0, b0)] (sh, h) = if b0 = 0 then (q_L 174 46 [(22, a0), (0, a1), (0, a2), (0, a3), (9, 0)] [] (sh, h)) else (if (10 : Int) = 0 then none else if (6 : Int) < (q_rem a3 (10 : Int)) then (q_L 174 46 [(22, a0), (0, a1), (0, a2), (0, a3), (9, 0)] [] (sh, h)) else (if 0 ≤ h a0 0 then (if 0 ≤ (2 : Int) ∧ (2 : Int) < (sh.2 (h a0 0)).2 then (if (h (h a0 0) (2 : Int)) = (8 : Int) then ((q_Cc 161 [(22, a0), (0, (-1000002))] (sh, h)).bind (fun r => q_L 174 74 [(22, a0), (0, a1), (0, a2), (0, a3), (0, h (h a0 0) (2 : Int))] [r.1] r.2)) else (if 0 ≤ h a0 0 then (if 0 ≤ (q_add (76 : Int) (h (h a0 0) (2 : Int))) ∧ (q_add (76 : Int) (h (h a0 0) (2 : Int))) < (sh.2 (h a0 0)).2 ∧ 0 ≤ (h a0 0) then (if 0 ≤ (q_up h (h a0 0) (q_add (76 : Int) (h (h a0 0) (2 : Int))) a1) a0 0 then (if 0 ≤ (q_add (84 : Int) (h (h a0 0) (2 : Int))) ∧ (q_add (84 : Int) (h (h a0 0) (2 : Int))) < (sh.2 ((q_up h (h a0 0) (q_add (76 : Int) (h (h a0 0) (2 : Int))) a1) a0 0)).2 ∧ 0 ≤ ((q_up h (h a0 0) (q_add (76 : Int) (h (h a0 0) (2 : Int))) a1) a0 0) then (if 0 ≤ (q_up (q_up h (h a0 0) (q_add (76 : Int) (h (h a0 0) (2 : Int))) a1) ((q_up h (h a0 0) (q_add (76 : Int) (h (h a0 0) (2 : Int))) a1) a0 0) (q_add (84 : Int) (h (h a0 0) (2 : Int))) a2) a0 0 then (if (10 : Int) = 0 then none else if 0 ≤ (q_add (92 : Int) (h (h a0 0) (2 : Int))) ∧ (q_add (92 : Int) (h (h a0 0) (2 : Int))) < (sh.2 ((q_up (q_up h (h a0 0) (q_add (76 : Int) (h (h a0 0) (2 : Int))) a1) ((q_up h (h a0 0) (q_add (76 : Int) (h (h a0 0) (2 : Int))) a1) a0 0) (q_add (84 : Int) (h (h a0 0) (2 : Int))) a2) a0 0)).2 ∧ 0 ≤ ((q_up (q_up h (h a0 0) (q_add (76 : Int) (h (h a0 0) (2 : Int))) a1) ((q_up h (h a0 0) (q_add (76 : Int) (h (h a0 0) (2 : Int))) a1) a0 0) (q_add (84 : Int) (h (h a0 0) (2 : Int))) a2) a0 0) then (if 0 ≤ (q_up (q_up (q_up h (h a0 0) (q_add (76 : Int) (h (h a0 0) (2 : Int))) a1) ((q_up h (h a0 0) (q_add (76 : Int) (h (h a0 0) (2 : Int))) a1) a0 0) (q_add (84 : Int) (h (h a0 0) (2 : Int))) a2) ((q_up (q_up h (h a0 0) (q_add (76 : Int) (h (h a0 0) (2 : Int))) a1) ((q_up h (h a0 0) (q_add (76 : Int) (h (h a0 0) (2 : Int))) a1) a0 0) (q_add (84 : Int) (h (h a0 0) (2 : Int))) a2) a0 0) (q_add (92 : Int) (h (h a0 0) (2 : Int))) (q_div a3 (10 : Int))) a0 0 then (if (10 : Int) = 0 then none else if 0 ≤ (q_add (100 : Int) (h (h a0 0) (2 : Int))) ∧ (q_add (100 : Int) (h (h a0 0) (2 : Int))) < (sh.2 ((q_up (q_up (q_up h (h a0 0) (q_add (76 : Int) (h (h a0 0) (2 : Int))) a1) ((q_up h (h a0 0) (q_add (76 : Int) (h (h a0 0) (2 : Int))) a1) a0 0) (q_add (84 : Int) (h (h a0 0) (2 : Int))) a2) ((q_up (q_up h (h a0 0) (q_add (76 : Int) (h (h a0 0) (2 : Int))) a1) ((q_up h (h a0 0) (q_add (76 : Int) (h (h a0 0) (2 : Int))) a1) a0 0) (q_add (84 : Int) (h (h a0 0) (2 : Int))) a2) a0 0) (q_add (92 : Int) (h (h a0 0) (2 : Int))) (q_div a3 (10 : Int))) a0 0)).2 ∧ 0 ≤ ((q_up (q_up (q_up h (h a0 0) (q_add (76 : Int) (h (h a0 0) (2 : Int))) a1) ((q_up h (h a0 0) (q_add (76 : Int) (h (h a0 0) (2 : Int))) a1) a0 0) (q_add (84 : Int) (h (h a0 0) (2 : Int))) a2) ((q_up (q_up h (h a0 0) (q_add (76 : Int) (h (h a0 0) (2 : Int))) a1) ((q_up h (h a0 0) (q_add (76 : Int) (h (h a0 0) (2 : Int))) a1) a0 0) (q_add (84 : Int) (h (h a0 0) (2 : Int))) a2) a0 0) (q_add (92 : Int) (h (h a0 0) (2 : Int))) (q_div a3 (10 : Int))) a0 0) then (if 0 ≤ (q_up (q_up (q_up (q_up h (h a0 0) (q_add (76 : Int) (h (h a0 0) (2 : Int))) a1) ((q_up h (h a0 0) (q_add (76 : Int) (h (h a0 0) (2 : Int))) a1) a0 0) (q_add (84 : Int) (h (h a0 0) (2 : Int))) a2) ((q_up (q_up h (h a0 0) (q_add (76 : Int) (h (h a0 0) (2 : Int))) a1) ((q_up h (h a0 0) (q_add (76 : Int) (h (h a0 0) (2 : Int))) a1) a0 0) (q_add (84 : Int) (h (h a0 0) (2 : Int))) a2) a0 0) (q_add (92 : Int) (h (h a0 0) (2 : Int))) (q_div a3 (10 : Int))) ((q_up (q_up (q_up h (h a0 0) (q_add (76 : Int) (h (h a0 0) (2 : Int))) a1) ((q_up h (h a0 0) (q_add (76 : Int) (h (h a0 0) (2 : Int))) a1) a0 0) (q_add (84 : Int) (h (h a0 0) (2 : Int))) a2) ((q_up (q_up h (h a0 0) (q_add (76 : Int) (h (h a0 0) (2 : Int))) a1) ((q_up h (h a0 0) (q_add (76 : Int) (h (h a0 0) (2 : Int))) a1) a0 0) (q_add (84 : Int) (h (h a0 0) (2 : Int))) a2) a0 0) (q_add (92 : Int) (h (h a0 0) (2 : Int))) (q_div a3 (10 : Int))) a0 0) (q_add (100 : Int) (h (h a0 0) (2 : Int))) (q_rem a3 (10 : Int))) a0 0 then (if 0 ≤ (2 : Int) ∧ (2 : Int) < (sh.2 ((q_up (q_up (q_up (q_up h (h a0 0) (q_add (76 : Int) (h (h a0 0) (2 : Int))) a1) ((q_up h (h a0 0) (q_add (76 : Int) (h (h a0 0) (2 : Int))) a1) a0 0) (q_add (84 : Int) (h (h a0 0) (2 : Int))) a2) ((q_up (q_up h (h a0 0) (q_add (76 : Int) (h (h a0 0) (2 : Int))) a1) ((q_up h (h a0 0) (q_add (76 : Int) (h (h a0 0) (2 : Int))) a1) a0 0) (q_add (84 : Int) (h (h a0 0) (2 : Int))) a2) a0 0) (q_add (92 : Int) (h (h a0 0) (2 : Int))) (q_div a3 (10 : Int))) ((q_up (q_up (q_up h (h a0 0) (q_add (76 : Int) (h (h a0 0) (2 : Int))) a1) ((q_up h (h a0 0) (q_add (76 : Int) (h (h a0 0) (2 : Int))) a1) a0 0) (q_add (84 : Int) (h (h a0 0) (2 : Int))) a2) ((q_up (q_up h (h a0 0) (q_add (76 : Int) (h (h a0 0) (2 : Int))) a1) ((q_up h (h a0 0) (q_add (76 : Int) (h (h a0 0) (2 : Int))) a1) a0 0) (q_add (84 : Int) (h (h a0 0) (2 : Int))) a2) a0 0) (q_add (92 : Int) (h (h a0 0) (2 : Int))) (q_div a3 (10 : Int))) a0 0) (q_add (100 : Int) (h (h a0 0) (2 : Int))) (q_rem a3 (10 : Int))) a0 0)).2 then (if 0 ≤ (2 : Int) ∧ (2 : Int) < (sh.2 ((q_up (q_up (q_up (q_up h (h a0 0) (q_add (76 : Int) (h (h a0 0) (2 : Int))) a1) ((q_up h (h a0 0) (q_add (76 : Int) (h (h a0 0) (2 : Int))) a1) a0 0) (q_add (84 : Int) (h (h a0 0) (2 : Int))) a2) ((q_up (q_up h (h a0 0) (q_add (76 : Int) (h (h a0 0) (2 : Int))) a1) ((q_up h (h a0 0) (q_add (76 : Int) (h (h a0 0) (2 : Int))) a1) a0 0) (q_add (84 : Int) (h (h a0 0) (2 : Int))) a2) a0 0) (q_add (92 : Int) (h (h a0 0) (2 : Int))) (q_div a3 (10 : Int))) ((q_up (q_up (q_up h (h a0 0) (q_add (76 : Int) (h (h a0 0) (2 : Int))) a1) ((q_up h (h a0 0) (q_add (76 : Int) (h (h a0 0) (2 : Int))) a1) a0 0) (q_add (84 : Int) (h (h a0 0) (2 : Int))) a2) ((q_up (q_up h (h a0 0) (q_add (76 : Int) (h (h a0 0) (2 : Int))) a1) ((q_up h (h a0 0) (q_add (76 : Int) (h (h a0 0) (2 : Int))) a1) a0 0) (q_add (84 : Int) (h (h a0 0) (2 : Int))) a2) a0 0) (q_add (92 : Int) (h (h a0 0) (2 : Int))) (q_div a3 (10 : Int))) a0 0) (q_add (100 : Int) (h (h a0 0) (2 : Int))) (q_rem a3 (10 : Int))) a0 0)).2 ∧ 0 ≤ ((q_up (q_up (q_up (q_up h (h a0 0) (q_add (76 : Int) (h (h a0 0) (2 : Int))) a1) ((q_up h (h a0 0) (q_add (76 : Int) (h (h a0 0) (2 : Int))) a1) a0 0) (q_add (84 : Int) (h (h a0 0) (2 : Int))) a2) ((q_up (q_up h (h a0 0) (q_add (76 : Int) (h (h a0 0) (2 : Int))) a1) ((q_up h (h a0 0) (q_add (76 : Int) (h (h a0 0) (2 : Int))) a1) a0 0) (q_add (84 : Int) (h (h a0 0) (2 : Int))) a2) a0 0) (q_add (92 : Int) (h (h a0 0) (2 : Int))) (q_div a3 (10 : Int))) ((q_up (q_up (q_up h (h a0 0) (q_add (76 : Int) (h (h a0 0) (2 : Int))) a1) ((q_up h (h a0 0) (q_add (76 : Int) (h (h a0 0) (2 : Int))) a1) a0 0) (q_add (84 : Int) (h (h a0 0) (2 : Int))) a2) ((q_up (q_up h (h a0 0) (q_add (76 : Int) (h (h a0 0) (2 : Int))) a1) ((q_up h (h a0 0) (q_add (76 : Int) (h (h a0 0) (2 : Int))) a1) a0 0) (q_add (84 : Int) (h (h a0 0) (2 : Int))) a2) a0 0) (q_add (92 : Int) (h (h a0 0) (2 : Int))) (q_div a3 (10 : Int))) a0 0) (q_add (100 : Int) (h (h a0 0) (2 : Int))) (q_rem a3 (10 : Int))) a0 0) then (some ((0, h (h a0 0) (2 : Int)), (sh, q_up (q_up (q_up (q_up (q_up h (h a0 0) (q_add (76 : Int) (h (h a0 0) (2 : Int))) a1) ((q_up h (h a0 0) (q_add (76 : Int) (h (h a0 0) (2 : Int))) a1) a0 0) (q_add (84 : Int) (h (h a0 0) (2 : Int))) a2) ((q_up (q_up h (h a0 0) (q_add (76 : Int) (h (h a0 0) (2 : Int))) a1) ((q_up h (h a0 0) (q_add (76 : Int) (h (h a0 0) (2 : Int))) a1) a0 0) (q_add (84 : Int) (h (h a0 0) (2 : Int))) a2) a0 0) (q_add (92 : Int) (h (h a0 0) (2 : Int))) (q_div a3 (10 : Int))) ((q_up (q_up (q_up h (h a0 0) (q_add (76 : Int) (h (h a0 0) (2 : Int))) a1) ((q_up h (h a0 0) (q_add (76 : Int) (h (h a0 0) (2 : Int))) a1) a0 0) (q_add (84 : Int) (h (h a0 0) (2 : Int))) a2) ((q_up (q_up h (h a0 0) (q_add (76 : Int) (h (h a0 0) (2 : Int))) a1) ((q_up h (h a0 0) (q_add (76 : Int) (h (h a0 0) (2 : Int))) a1) a0 0) (q_add (84 : Int) (h (h a0 0) (2 : Int))) a2) a0 0) (q_add (92 : Int) (h (h a0 0) (2 : Int))) (q_div a3 (10 : Int))) a0 0) (q_add (100 : Int) (h (h a0 0) (2 : Int))) (q_rem a3 (10 : Int))) ((q_up (q_up (q_up (q_up h (h a0 0) (q_add (76 : Int) (h (h a0 0) (2 : Int))) a1) ((q_up h (h a0 0) (q_add (76 : Int) (h (h a0 0) (2 : Int))) a1) a0 0) (q_add (84 : Int) (h (h a0 0) (2 : Int))) a2) ((q_up (q_up h (h a0 0) (q_add (76 : Int) (h (h a0 0) (2 : Int))) a1) ((q_up h (h a0 0) (q_add (76 : Int) (h (h a0 0) (2 : Int))) a1) a0 0) (q_add (84 : Int) (h (h a0 0) (2 : Int))) a2) a0 0) (q_add (92 : Int) (h (h a0 0) (2 : Int))) (q_div a3 (10 : Int))) ((q_up (q_up (q_up h (h a0 0) (q_add (76 : Int) (h (h a0 0) (2 : Int))) a1) ((q_up h (h a0 0) (q_add (76 : Int) (h (h a0 0) (2 : Int))) a1) a0 0) (q_add (84 : Int) (h (h a0 0) (2 : Int))) a2) ((q_up (q_up h (h a0 0) (q_add (76 : Int) (h (h a0 0) (2 : Int))) a1) ((q_up h (h a0 0) (q_add (76 : Int) (h (h a0 0) (2 : Int))) a1) a0 0) (q_add (84 : Int) (h (h a0 0) (2 : Int))) a2) a0 0) (q_add (92 : Int) (h (h a0 0) (2 : Int))) (q_div a3 (10 : Int))) a0 0) (q_add (100 : Int) (h (h a0 0) (2 : Int))) (q_rem a3 (10 : Int))) a0 0) (2 : Int) (q_add ((q_up (q_up (q_up (q_up h (h a0 0) (q_add (76 : Int) (h (h a0 0) (2 : Int))) a1) ((q_up h (h a0 0) (q_add (76 : Int) (h (h a0 0) (2 : Int))) a1) a0 0) (q_add (84 : Int) (h (h a0 0) (2 : Int))) a2) ((q_up (q_up h (h a0 0) (q_add (76 : Int) (h (h a0 0) (2 : Int))) a1) ((q_up h (h a0 0) (q_add (76 : Int) (h (h a0 0) (2 : Int))) a1) a0 0) (q_add (84 : Int) (h (h a0 0) (2 : Int))) a2) a0 0) (q_add (92 : Int) (h (h a0 0) (2 : Int))) (q_div a3 (10 : Int))) ((q_up (q_up (q_up h (h a0 0) (q_add (76 : Int) (h (h a0 0) (2 : Int))) a1) ((q_up h (h a0 0) (q_add (76 : Int) (h (h a0 0) (2 : Int))) a1) a0 0) (q_add (84 : Int) (h (h a0 0) (2 : Int))) a2) ((q_up (q_up h (h a0 0) (q_add (76 : Int) (h (h a0 0) (2 : Int))) a1) ((q_up h (h a0 0) (q_add (76 : Int) (h (h a0 0) (2 : Int))) a1) a0 0) (q_add (84 : Int) (h (h a0 0) (2 : Int))) a2) a0 0) (q_add (92 : Int) (h (h a0 0) (2 : Int))) (q_div a3 (10 : Int))) a0 0) (q_add (100 : Int) (h (h a0 0) (2 : Int))) (q_rem a3 (10 : Int))) ((q_up (q_up (q_up (q_up h (h a0 0) (q_add (76 : Int) (h (h a0 0) (2 : Int))) a1) ((q_up h (h a0 0) (q_add (76 : Int) (h (h a0 0) (2 : Int))) a1) a0 0) (q_add (84 : Int) (h (h a0 0) (2 : Int))) a2) ((q_up (q_up h (h a0 0) (q_add (76 : Int) (h (h a0 0) (2 : Int))) a1) ((q_up h (h a0 0) (q_add (76 : Int) (h (h a0 0) (2 : Int))) a1) a0 0) (q_add (84 : Int) (h (h a0 0) (2 : Int))) a2) a0 0) (q_add (92 : Int) (h (h a0 0) (2 : Int))) (q_div a3 (10 : Int))) ((q_up (q_up (q_up h (h a0 0) (q_add (76 : Int) (h (h a0 0) (2 : Int))) a1) ((q_up h (h a0 0) (q_add (76 : Int) (h (h a0 0) (2 : Int))) a1) a0 0) (q_add (84 : Int) (h (h a0 0) (2 : Int))) a2) ((q_up (q_up h (h a0 0) (q_add (76 : Int) (h (h a0 0) (2 : Int))) a1) ((q_up h (h a0 0) (q_add (76 : Int) (h (h a0 0) (2 : Int))) a1) a0 0) (q_add (84 : Int) (h (h a0 0) (2 : Int))) a2) a0 0) (q_add (92 : Int) (h (h a0 0) (2 : Int))) (q_div a3 (10 : Int))) a0 0) (q_add (100 : Int) (h (h a0 0) (2 : Int))) (q_rem a3 (10 : Int))) a0 0) (2 : Int)) (1 : Int))))) else none) else none) else none) else none) else none) else none) else none) else none) else none) else none) else none)) else none) else none)) :=
  (q_unL hL_X12_craft cu_X12_craft 400 34 _ _ _).trans rfl
set_option maxRecDepth 100000 in
theorem e_X12_craft_46 (a0 a1 a2 a3 : Int) (sh : Int × (Int → Nat × Int)) (h : Int → Int → Int) : q_L 174 46 [(22, a0), (0, a1), (0, a2), (0, a3), (9, 0)] [] (sh, h) = (q_Cc 161 [(22, a0), (0, (-1000001))] (sh, h)).bind (fun r => q_L 174 52 [(22, a0), (0, a1), (0, a2), (0, a3), (9, 0)] [r.1] r.2) :=
  (q_unL hL_X12_craft cu_X12_craft 400 46 _ _ _).trans rfl
set_option maxRecDepth 100000 in
theorem e_X12_craft_52 (a0 a1 a2 a3 b0 : Int) (sh : Int × (Int → Nat × Int)) (h : Int → Int → Int) : q_L 174 52 [(22, a0), (0, a1), (0, a2), (0, a3), (9, 0)] [(0, b0)] (sh, h) = some ((0, b0), (sh, h)) :=
  (q_unL hL_X12_craft cu_X12_craft 400 52 _ _ _).trans rfl
set_option maxRecDepth 100000 in
theorem e_X12_craft_74 (a0 a1 a2 a3 a4 b0 : Int) (sh : Int × (Int → Nat × Int)) (h : Int → Int → Int) : q_L 174 74 [(22, a0), (0, a1), (0, a2), (0, a3), (0, a4)] [(0, b0)] (sh, h) = some ((0, b0), (sh, h)) :=
  (q_unL hL_X12_craft cu_X12_craft 400 74 _ _ _).trans rfl
def cu_X12_craftIs : List Nat := [0, 5, 15, 18, 24, 35, 74, 104]
theorem hL_X12_craftIs : q_P 175 = q_find P_X12_craftIs := rfl
theorem c_X12_craftIs (a0 a1 a2 : Int) (s : q_M) : q_Cc 175 [(22, a0), (0, a1), (0, a2)] s = q_L 175 0 [(22, a0), (0, a1), (0, a2), (9, 0), (9, 0)] [] s := rfl
set_option maxRecDepth 100000 in
theorem e_X12_craftIs_0 (a0 a1 a2 : Int) (sh : Int × (Int → Nat × Int)) (h : Int → Int → Int) : q_L 175 0 [(22, a0), (0, a1), (0, a2), (9, 0), (9, 0)] [] (sh, h) = (q_Cc 165 [(22, a0), (0, a1)] (sh, h)).bind (fun r => q_L 175 5 [(22, a0), (0, a1), (0, a2), (9, 0), (9, 0)] [r.1] r.2) :=
  (q_unL hL_X12_craftIs cu_X12_craftIs 400 0 _ _ _).trans rfl
set_option maxRecDepth 100000 in
theorem e_X12_craftIs_5 (a0 a1 a2 b0 : Int) (sh : Int × (Int → Nat × Int)) (h : Int → Int → Int) : q_L 175 5 [(22, a0), (0, a1), (0, a2), (9, 0), (9, 0)] [(0, b0)] (sh, h) = if b0 = 0 then (q_L 175 18 [(22, a0), (0, a1), (0, a2), (9, 0), (9, 0)] [] (sh, h)) else ((q_Cc 162 [(0, a2), (0, 0), (0, 10)] (sh, h)).bind (fun r => q_L 175 15 [(22, a0), (0, a1), (0, a2), (9, 0), (9, 0)] [r.1] r.2)) :=
  (q_unL hL_X12_craftIs cu_X12_craftIs 400 5 _ _ _).trans rfl
set_option maxRecDepth 100000 in
theorem e_X12_craftIs_15 (a0 a1 a2 b0 : Int) (sh : Int × (Int → Nat × Int)) (h : Int → Int → Int) : q_L 175 15 [(22, a0), (0, a1), (0, a2), (9, 0), (9, 0)] [(0, b0)] (sh, h) = if b0 = 0 then (q_L 175 18 [(22, a0), (0, a1), (0, a2), (9, 0), (9, 0)] [] (sh, h)) else (if a2 = (5 : Int) then (q_L 175 35 [(22, a0), (0, a1), (0, a2), (0, 0), (0, 0)] [] (sh, h)) else (if 0 ≤ h a0 0 then (if a2 < (5 : Int) then (q_L 175 104 [(22, a0), (0, a1), (0, a2), (9, 0), (9, 0)] [(0, a2), (0, 8), (0, 76), (30, h a0 0)] (sh, h)) else (q_L 175 104 [(22, a0), (0, a1), (0, a2), (9, 0), (9, 0)] [(0, q_sub a2 (1 : Int)), (0, 8), (0, 76), (30, h a0 0)] (sh, h))) else none)) :=
  (q_unL hL_X12_craftIs cu_X12_craftIs 400 15 _ _ _).trans rfl
set_option maxRecDepth 100000 in
theorem e_X12_craftIs_18 (a0 a1 a2 : Int) (sh : Int × (Int → Nat × Int)) (h : Int → Int → Int) : q_L 175 18 [(22, a0), (0, a1), (0, a2), (9, 0), (9, 0)] [] (sh, h) = (q_Cc 161 [(22, a0), (0, (-1000001))] (sh, h)).bind (fun r => q_L 175 24 [(22, a0), (0, a1), (0, a2), (9, 0), (9, 0)] [r.1] r.2) :=
  (q_unL hL_X12_craftIs cu_X12_craftIs 400 18 _ _ _).trans rfl
set_option maxRecDepth 100000 in
theorem e_X12_craftIs_24 (a0 a1 a2 b0 : Int) (sh : Int × (Int → Nat × Int)) (h : Int → Int → Int) : q_L 175 24 [(22, a0), (0, a1), (0, a2), (9, 0), (9, 0)] [(0, b0)] (sh, h) = some ((0, b0), (sh, h)) :=
  (q_unL hL_X12_craftIs cu_X12_craftIs 400 24 _ _ _).trans rfl
set_option maxRecDepth 100000 in
theorem e_X12_craftIs_35 (a0 a1 a2 a3 a4 : Int) (sh : Int × (Int → Nat × Int)) (h : Int → Int → Int) : q_L 175 35 [(22, a0), (0, a1), (0, a2), (0, a3), (0, a4)] [] (sh, h) = if 0 ≤ h a0 0 then (if 0 ≤ (q_add (108 : Int) a1) ∧ (q_add (108 : Int) a1) < (sh.2 (h a0 0)).2 then (if a4 < (h (h a0 0) (q_add (108 : Int) a1)) then (if 0 ≤ h a0 0 then (if 0 ≤ (q_add (q_add (300 : Int) (q_mul (12 : Int) a1)) a4) ∧ (q_add (q_add (300 : Int) (q_mul (12 : Int) a1)) a4) < (sh.2 (h a0 0)).2 then (if (h (h a0 0) (q_add (q_add (300 : Int) (q_mul (12 : Int) a1)) a4)) < 0 then (q_L 175 74 [(22, a0), (0, a1), (0, a2), (0, a3), (0, a4)] [(0, 1), (0, a3)] (sh, h)) else (q_L 175 74 [(22, a0), (0, a1), (0, a2), (0, a3), (0, a4)] [(0, 0), (0, a3)] (sh, h))) else none) else none) else (some ((0, a3), (sh, h)))) else none) else none :=
  (q_unL hL_X12_craftIs cu_X12_craftIs 400 35 _ _ _).trans rfl
set_option maxRecDepth 100000 in
theorem e_X12_craftIs_74 (a0 a1 a2 a3 a4 b0 b1 : Int) (sh : Int × (Int → Nat × Int)) (h : Int → Int → Int) : q_L 175 74 [(22, a0), (0, a1), (0, a2), (0, a3), (0, a4)] [(0, b1), (0, b0)] (sh, h) = q_L 175 35 [(22, a0), (0, a1), (0, a2), (0, q_add b0 b1), (0, q_w (a4 + 1))] [] (sh, h) :=
  (q_unL hL_X12_craftIs cu_X12_craftIs 400 74 _ _ _).trans rfl
set_option maxRecDepth 100000 in
theorem e_X12_craftIs_104 (a0 a1 a2 b0 b1 b2 b3 : Int) (sh : Int × (Int → Nat × Int)) (h : Int → Int → Int) : q_L 175 104 [(22, a0), (0, a1), (0, a2), (9, 0), (9, 0)] [(0, b3), (0, b2), (0, b1), (30, b0)] (sh, h) = if 0 ≤ (q_add (q_add b1 (q_mul b2 b3)) a1) ∧ (q_add (q_add b1 (q_mul b2 b3)) a1) < (sh.2 b0).2 then (some ((0, h b0 (q_add (q_add b1 (q_mul b2 b3)) a1)), (sh, h))) else none :=
  (q_unL hL_X12_craftIs cu_X12_craftIs 400 104 _ _ _).trans rfl
def cu_X12_rises : List Nat := [0, 5, 12, 22, 33, 36, 42, 73]
theorem hL_X12_rises : q_P 176 = q_find P_X12_rises := rfl
theorem c_X12_rises (a0 a1 a2 a3 a4 : Int) (s : q_M) : q_Cc 176 [(22, a0), (0, a1), (0, a2), (0, a3), (0, a4)] s = q_L 176 0 [(22, a0), (0, a1), (0, a2), (0, a3), (0, a4)] [] s := rfl
set_option maxRecDepth 100000 in
theorem e_X12_rises_0 (a0 a1 a2 a3 a4 : Int) (sh : Int × (Int → Nat × Int)) (h : Int → Int → Int) : q_L 176 0 [(22, a0), (0, a1), (0, a2), (0, a3), (0, a4)] [] (sh, h) = (q_Cc 165 [(22, a0), (0, a1)] (sh, h)).bind (fun r => q_L 176 5 [(22, a0), (0, a1), (0, a2), (0, a3), (0, a4)] [r.1] r.2) :=
  (q_unL hL_X12_rises cu_X12_rises 400 0 _ _ _).trans rfl
set_option maxRecDepth 100000 in
theorem e_X12_rises_5 (a0 a1 a2 a3 a4 b0 : Int) (sh : Int × (Int → Nat × Int)) (h : Int → Int → Int) : q_L 176 5 [(22, a0), (0, a1), (0, a2), (0, a3), (0, a4)] [(0, b0)] (sh, h) = if b0 = 0 then (q_L 176 36 [(22, a0), (0, a1), (0, a2), (0, a3), (0, a4)] [] (sh, h)) else ((q_Cc 163 [(0, a2)] (sh, h)).bind (fun r => q_L 176 12 [(22, a0), (0, a1), (0, a2), (0, a3), (0, a4)] [r.1] r.2)) :=
  (q_unL hL_X12_rises cu_X12_rises 400 5 _ _ _).trans rfl
set_option maxRecDepth 100000 in
theorem e_X12_rises_12 (a0 a1 a2 a3 a4 b0 : Int) (sh : Int × (Int → Nat × Int)) (h : Int → Int → Int) : q_L 176 12 [(22, a0), (0, a1), (0, a2), (0, a3), (0, a4)] [(0, b0)] (sh, h) = if b0 = 0 then (q_L 176 36 [(22, a0), (0, a1), (0, a2), (0, a3), (0, a4)] [] (sh, h)) else ((q_Cc 162 [(0, a3), (0, 0), (0, 23)] (sh, h)).bind (fun r => q_L 176 22 [(22, a0), (0, a1), (0, a2), (0, a3), (0, a4)] [r.1] r.2)) :=
  (q_unL hL_X12_rises cu_X12_rises 400 12 _ _ _).trans rfl
set_option maxRecDepth 100000 in
theorem e_X12_rises_22 (a0 a1 a2 a3 a4 b0 : Int) (sh : Int × (Int → Nat × Int)) (h : Int → Int → Int) : q_L 176 22 [(22, a0), (0, a1), (0, a2), (0, a3), (0, a4)] [(0, b0)] (sh, h) = if b0 = 0 then (q_L 176 36 [(22, a0), (0, a1), (0, a2), (0, a3), (0, a4)] [] (sh, h)) else ((q_Cc 162 [(0, a4), (0, 0), (0, 24)] (sh, h)).bind (fun r => q_L 176 33 [(22, a0), (0, a1), (0, a2), (0, a3), (0, a4)] [r.1] r.2)) :=
  (q_unL hL_X12_rises cu_X12_rises 400 22 _ _ _).trans rfl
set_option maxRecDepth 100000 in
theorem e_X12_rises_33 (a0 a1 a2 a3 a4 b0 : Int) (sh : Int × (Int → Nat × Int)) (h : Int → Int → Int) : q_L 176 33 [(22, a0), (0, a1), (0, a2), (0, a3), (0, a4)] [(0, b0)] (sh, h) = if b0 = 0 then (q_L 176 36 [(22, a0), (0, a1), (0, a2), (0, a3), (0, a4)] [] (sh, h)) else (if 0 ≤ h a0 0 then (if 0 ≤ (q_add (q_add (156 : Int) (q_mul (3 : Int) a1)) a2) ∧ (q_add (q_add (156 : Int) (q_mul (3 : Int) a1)) a2) < (sh.2 (h a0 0)).2 ∧ 0 ≤ (h a0 0) then ((q_Cc 168 [(22, a0), (0, q_add (q_add (180 : Int) (q_mul (3 : Int) a1)) a2), (0, a4)] (sh, q_up h (h a0 0) (q_add (q_add (156 : Int) (q_mul (3 : Int) a1)) a2) a3)).bind (fun r => q_L 176 73 [(22, a0), (0, a1), (0, a2), (0, a3), (0, a4)] [r.1] r.2)) else none) else none) :=
  (q_unL hL_X12_rises cu_X12_rises 400 33 _ _ _).trans rfl
set_option maxRecDepth 100000 in
theorem e_X12_rises_36 (a0 a1 a2 a3 a4 : Int) (sh : Int × (Int → Nat × Int)) (h : Int → Int → Int) : q_L 176 36 [(22, a0), (0, a1), (0, a2), (0, a3), (0, a4)] [] (sh, h) = (q_Cc 161 [(22, a0), (0, (-1000001))] (sh, h)).bind (fun r => q_L 176 42 [(22, a0), (0, a1), (0, a2), (0, a3), (0, a4)] [r.1] r.2) :=
  (q_unL hL_X12_rises cu_X12_rises 400 36 _ _ _).trans rfl
set_option maxRecDepth 100000 in
theorem e_X12_rises_42 (a0 a1 a2 a3 a4 b0 : Int) (sh : Int × (Int → Nat × Int)) (h : Int → Int → Int) : q_L 176 42 [(22, a0), (0, a1), (0, a2), (0, a3), (0, a4)] [(0, b0)] (sh, h) = some ((0, b0), (sh, h)) :=
  (q_unL hL_X12_rises cu_X12_rises 400 42 _ _ _).trans rfl
set_option maxRecDepth 100000 in
theorem e_X12_rises_73 (a0 a1 a2 a3 a4 b0 : Int) (sh : Int × (Int → Nat × Int)) (h : Int → Int → Int) : q_L 176 73 [(22, a0), (0, a1), (0, a2), (0, a3), (0, a4)] [(0, b0)] (sh, h) = some ((0, b0), (sh, h)) :=
  (q_unL hL_X12_rises cu_X12_rises 400 73 _ _ _).trans rfl
def cu_X12_since : List Nat := [0]
theorem hL_X12_since : q_P 177 = q_find P_X12_since := rfl
theorem c_X12_since (a0 a1 a2 a3 : Int) (s : q_M) : q_Cc 177 [(22, a0), (0, a1), (0, a2), (0, a3)] s = q_L 177 0 [(22, a0), (0, a1), (0, a2), (0, a3)] [] s := rfl
set_option maxRecDepth 100000 in
theorem e_X12_since_0 (a0 a1 a2 a3 : Int) (sh : Int × (Int → Nat × Int)) (h : Int → Int → Int) : q_L 177 0 [(22, a0), (0, a1), (0, a2), (0, a3)] [] (sh, h) = if (24 : Int) = 0 then none else if 0 ≤ h a0 0 then (if 0 ≤ (q_add (q_add (156 : Int) (q_mul (3 : Int) a1)) a2) ∧ (q_add (q_add (156 : Int) (q_mul (3 : Int) a1)) a2) < (sh.2 (h a0 0)).2 then (if (24 : Int) = 0 then none else some ((0, q_rem (q_add (q_sub (q_rem a3 (24 : Int)) (h (h a0 0) (q_add (q_add (156 : Int) (q_mul (3 : Int) a1)) a2))) (24 : Int)) (24 : Int)), (sh, h))) else none) else none :=
  (q_unL hL_X12_since cu_X12_since 400 0 _ _ _).trans rfl
def cu_X12_isUp : List Nat := [0, 7, 29]
theorem hL_X12_isUp : q_P 178 = q_find P_X12_isUp := rfl
theorem c_X12_isUp (a0 a1 a2 a3 : Int) (s : q_M) : q_Cc 178 [(22, a0), (0, a1), (0, a2), (0, a3)] s = q_L 178 0 [(22, a0), (0, a1), (0, a2), (0, a3)] [] s := rfl
set_option maxRecDepth 100000 in
theorem e_X12_isUp_0 (a0 a1 a2 a3 : Int) (sh : Int × (Int → Nat × Int)) (h : Int → Int → Int) : q_L 178 0 [(22, a0), (0, a1), (0, a2), (0, a3)] [] (sh, h) = (q_Cc 177 [(22, a0), (0, a1), (0, a2), (0, a3)] (sh, h)).bind (fun r => q_L 178 7 [(22, a0), (0, a1), (0, a2), (0, a3)] [r.1] r.2) :=
  (q_unL hL_X12_isUp cu_X12_isUp 400 0 _ _ _).trans rfl
set_option maxRecDepth 100000 in
theorem e_X12_isUp_7 (a0 a1 a2 a3 b0 : Int) (sh : Int × (Int → Nat × Int)) (h : Int → Int → Int) : q_L 178 7 [(22, a0), (0, a1), (0, a2), (0, a3)] [(0, b0)] (sh, h) = if 0 ≤ h a0 0 then (if 0 ≤ (q_add (q_add (180 : Int) (q_mul (3 : Int) a1)) a2) ∧ (q_add (q_add (180 : Int) (q_mul (3 : Int) a1)) a2) < (sh.2 (h a0 0)).2 then (if b0 < (h (h a0 0) (q_add (q_add (180 : Int) (q_mul (3 : Int) a1)) a2)) then (q_L 178 29 [(22, a0), (0, a1), (0, a2), (0, a3)] [(0, 1)] (sh, h)) else (q_L 178 29 [(22, a0), (0, a1), (0, a2), (0, a3)] [(0, 0)] (sh, h))) else none) else none :=
  (q_unL hL_X12_isUp cu_X12_isUp 400 7 _ _ _).trans rfl
set_option maxRecDepth 100000 in
theorem e_X12_isUp_29 (a0 a1 a2 a3 b0 : Int) (sh : Int × (Int → Nat × Int)) (h : Int → Int → Int) : q_L 178 29 [(22, a0), (0, a1), (0, a2), (0, a3)] [(0, b0)] (sh, h) = if b0 = 0 ∨ b0 = 1 then some ((0, b0), (sh, h)) else none :=
  (q_unL hL_X12_isUp cu_X12_isUp 400 29 _ _ _).trans rfl
def cu_X12_up : List Nat := [0, 5, 12, 19, 22, 28, 36, 44]
theorem hL_X12_up : q_P 179 = q_find P_X12_up := rfl
theorem c_X12_up (a0 a1 a2 a3 : Int) (s : q_M) : q_Cc 179 [(22, a0), (0, a1), (0, a2), (0, a3)] s = q_L 179 0 [(22, a0), (0, a1), (0, a2), (0, a3)] [] s := rfl
set_option maxRecDepth 100000 in
theorem e_X12_up_0 (a0 a1 a2 a3 : Int) (sh : Int × (Int → Nat × Int)) (h : Int → Int → Int) : q_L 179 0 [(22, a0), (0, a1), (0, a2), (0, a3)] [] (sh, h) = (q_Cc 165 [(22, a0), (0, a1)] (sh, h)).bind (fun r => q_L 179 5 [(22, a0), (0, a1), (0, a2), (0, a3)] [r.1] r.2) :=
  (q_unL hL_X12_up cu_X12_up 400 0 _ _ _).trans rfl
set_option maxRecDepth 100000 in
theorem e_X12_up_5 (a0 a1 a2 a3 b0 : Int) (sh : Int × (Int → Nat × Int)) (h : Int → Int → Int) : q_L 179 5 [(22, a0), (0, a1), (0, a2), (0, a3)] [(0, b0)] (sh, h) = if b0 = 0 then (q_L 179 22 [(22, a0), (0, a1), (0, a2), (0, a3)] [] (sh, h)) else ((q_Cc 163 [(0, a2)] (sh, h)).bind (fun r => q_L 179 12 [(22, a0), (0, a1), (0, a2), (0, a3)] [r.1] r.2)) :=
  (q_unL hL_X12_up cu_X12_up 400 5 _ _ _).trans rfl
set_option maxRecDepth 100000 in
theorem e_X12_up_12 (a0 a1 a2 a3 b0 : Int) (sh : Int × (Int → Nat × Int)) (h : Int → Int → Int) : q_L 179 12 [(22, a0), (0, a1), (0, a2), (0, a3)] [(0, b0)] (sh, h) = if b0 = 0 then (q_L 179 22 [(22, a0), (0, a1), (0, a2), (0, a3)] [] (sh, h)) else ((q_Cc 167 [(0, a3)] (sh, h)).bind (fun r => q_L 179 19 [(22, a0), (0, a1), (0, a2), (0, a3)] [r.1] r.2)) :=
  (q_unL hL_X12_up cu_X12_up 400 12 _ _ _).trans rfl
set_option maxRecDepth 100000 in
theorem e_X12_up_19 (a0 a1 a2 a3 b0 : Int) (sh : Int × (Int → Nat × Int)) (h : Int → Int → Int) : q_L 179 19 [(22, a0), (0, a1), (0, a2), (0, a3)] [(0, b0)] (sh, h) = if b0 = 0 then (q_L 179 22 [(22, a0), (0, a1), (0, a2), (0, a3)] [] (sh, h)) else ((q_Cc 178 [(22, a0), (0, a1), (0, a2), (0, a3)] (sh, h)).bind (fun r => q_L 179 36 [(22, a0), (0, a1), (0, a2), (0, a3)] [r.1] r.2)) :=
  (q_unL hL_X12_up cu_X12_up 400 19 _ _ _).trans rfl
set_option maxRecDepth 100000 in
theorem e_X12_up_22 (a0 a1 a2 a3 : Int) (sh : Int × (Int → Nat × Int)) (h : Int → Int → Int) : q_L 179 22 [(22, a0), (0, a1), (0, a2), (0, a3)] [] (sh, h) = (q_Cc 161 [(22, a0), (0, (-1000001))] (sh, h)).bind (fun r => q_L 179 28 [(22, a0), (0, a1), (0, a2), (0, a3)] [r.1] r.2) :=
  (q_unL hL_X12_up cu_X12_up 400 22 _ _ _).trans rfl
set_option maxRecDepth 100000 in
theorem e_X12_up_28 (a0 a1 a2 a3 b0 : Int) (sh : Int × (Int → Nat × Int)) (h : Int → Int → Int) : q_L 179 28 [(22, a0), (0, a1), (0, a2), (0, a3)] [(0, b0)] (sh, h) = some ((0, b0), (sh, h)) :=
  (q_unL hL_X12_up cu_X12_up 400 28 _ _ _).trans rfl
set_option maxRecDepth 100000 in
theorem e_X12_up_36 (a0 a1 a2 a3 b0 : Int) (sh : Int × (Int → Nat × Int)) (h : Int → Int → Int) : q_L 179 36 [(22, a0), (0, a1), (0, a2), (0, a3)] [(0, b0)] (sh, h) = if b0 = 0 then (q_L 179 44 [(22, a0), (0, a1), (0, a2), (0, a3)] [(0, 0)] (sh, h)) else (q_L 179 44 [(22, a0), (0, a1), (0, a2), (0, a3)] [(0, 1)] (sh, h)) :=
  (q_unL hL_X12_up cu_X12_up 400 36 _ _ _).trans rfl
set_option maxRecDepth 100000 in
theorem e_X12_up_44 (a0 a1 a2 a3 b0 : Int) (sh : Int × (Int → Nat × Int)) (h : Int → Int → Int) : q_L 179 44 [(22, a0), (0, a1), (0, a2), (0, a3)] [(0, b0)] (sh, h) = some ((0, b0), (sh, h)) :=
  (q_unL hL_X12_up cu_X12_up 400 44 _ _ _).trans rfl
def cu_X12_risesAt : List Nat := [0, 41, 64]
theorem hL_X12_risesAt : q_P 180 = q_find P_X12_risesAt := rfl
theorem c_X12_risesAt (a0 a1 a2 a3 a4 : Int) (s : q_M) : q_Cc 180 [(22, a0), (0, a1), (0, a2), (0, a3), (0, a4)] s = q_L 180 0 [(22, a0), (0, a1), (0, a2), (0, a3), (0, a4), (9, 0), (9, 0)] [] s := rfl
set_option maxRecDepth 100000 in
theorem e_X12_risesAt_0 (a0 a1 a2 a3 a4 : Int) (sh : Int × (Int → Nat × Int)) (h : Int → Int → Int) : q_L 180 0 [(22, a0), (0, a1), (0, a2), (0, a3), (0, a4), (9, 0), (9, 0)] [] (sh, h) = if 0 ≤ h a0 0 then (if 0 ≤ (q_add (q_add (180 : Int) (q_mul (3 : Int) a1)) a2) ∧ (q_add (q_add (180 : Int) (q_mul (3 : Int) a1)) a2) < (sh.2 (h a0 0)).2 then (if (h (h a0 0) (q_add (q_add (180 : Int) (q_mul (3 : Int) a1)) a2)) = (24 : Int) then (some ((0, a3), (sh, h))) else (if (h (h a0 0) (q_add (q_add (180 : Int) (q_mul (3 : Int) a1)) a2)) < a4 then (some ((0, (-1)), (sh, h))) else ((q_Cc 177 [(22, a0), (0, a1), (0, a2), (0, a3)] (sh, h)).bind (fun r => q_L 180 41 [(22, a0), (0, a1), (0, a2), (0, a3), (0, a4), (0, h (h a0 0) (q_add (q_add (180 : Int) (q_mul (3 : Int) a1)) a2)), (9, 0)] [r.1] r.2)))) else none) else none :=
  (q_unL hL_X12_risesAt cu_X12_risesAt 400 0 _ _ _).trans rfl
set_option maxRecDepth 100000 in
theorem e_X12_risesAt_41 (a0 a1 a2 a3 a4 a5 b0 : Int) (sh : Int × (Int → Nat × Int)) (h : Int → Int → Int) : q_L 180 41 [(22, a0), (0, a1), (0, a2), (0, a3), (0, a4), (0, a5), (9, 0)] [(0, b0)] (sh, h) = if a5 < (q_add b0 a4) then (q_L 180 64 [(22, a0), (0, a1), (0, a2), (0, a3), (0, a4), (0, a5), (0, b0)] [(0, q_sub (q_add a3 (24 : Int)) b0)] (sh, h)) else (q_L 180 64 [(22, a0), (0, a1), (0, a2), (0, a3), (0, a4), (0, a5), (0, b0)] [(0, a3)] (sh, h)) :=
  (q_unL hL_X12_risesAt cu_X12_risesAt 400 41 _ _ _).trans rfl
set_option maxRecDepth 100000 in
theorem e_X12_risesAt_64 (a0 a1 a2 a3 a4 a5 a6 b0 : Int) (sh : Int × (Int → Nat × Int)) (h : Int → Int → Int) : q_L 180 64 [(22, a0), (0, a1), (0, a2), (0, a3), (0, a4), (0, a5), (0, a6)] [(0, b0)] (sh, h) = some ((0, b0), (sh, h)) :=
  (q_unL hL_X12_risesAt cu_X12_risesAt 400 64 _ _ _).trans rfl
def cu_X12_rise : List Nat := [0, 5, 12, 19, 30, 33, 39, 49, 62, 67]
theorem hL_X12_rise : q_P 181 = q_find P_X12_rise := rfl
theorem c_X12_rise (a0 a1 a2 a3 a4 : Int) (s : q_M) : q_Cc 181 [(22, a0), (0, a1), (0, a2), (0, a3), (0, a4)] s = q_L 181 0 [(22, a0), (0, a1), (0, a2), (0, a3), (0, a4), (9, 0)] [] s := rfl
set_option maxRecDepth 100000 in
theorem e_X12_rise_0 (a0 a1 a2 a3 a4 : Int) (sh : Int × (Int → Nat × Int)) (h : Int → Int → Int) : q_L 181 0 [(22, a0), (0, a1), (0, a2), (0, a3), (0, a4), (9, 0)] [] (sh, h) = (q_Cc 165 [(22, a0), (0, a1)] (sh, h)).bind (fun r => q_L 181 5 [(22, a0), (0, a1), (0, a2), (0, a3), (0, a4), (9, 0)] [r.1] r.2) :=
  (q_unL hL_X12_rise cu_X12_rise 400 0 _ _ _).trans rfl
set_option maxRecDepth 100000 in
theorem e_X12_rise_5 (a0 a1 a2 a3 a4 b0 : Int) (sh : Int × (Int → Nat × Int)) (h : Int → Int → Int) : q_L 181 5 [(22, a0), (0, a1), (0, a2), (0, a3), (0, a4), (9, 0)] [(0, b0)] (sh, h) = if b0 = 0 then (q_L 181 33 [(22, a0), (0, a1), (0, a2), (0, a3), (0, a4), (9, 0)] [] (sh, h)) else ((q_Cc 163 [(0, a2)] (sh, h)).bind (fun r => q_L 181 12 [(22, a0), (0, a1), (0, a2), (0, a3), (0, a4), (9, 0)] [r.1] r.2)) :=
  (q_unL hL_X12_rise cu_X12_rise 400 5 _ _ _).trans rfl
set_option maxRecDepth 100000 in
theorem e_X12_rise_12 (a0 a1 a2 a3 a4 b0 : Int) (sh : Int × (Int → Nat × Int)) (h : Int → Int → Int) : q_L 181 12 [(22, a0), (0, a1), (0, a2), (0, a3), (0, a4), (9, 0)] [(0, b0)] (sh, h) = if b0 = 0 then (q_L 181 33 [(22, a0), (0, a1), (0, a2), (0, a3), (0, a4), (9, 0)] [] (sh, h)) else ((q_Cc 167 [(0, a3)] (sh, h)).bind (fun r => q_L 181 19 [(22, a0), (0, a1), (0, a2), (0, a3), (0, a4), (9, 0)] [r.1] r.2)) :=
  (q_unL hL_X12_rise cu_X12_rise 400 12 _ _ _).trans rfl
set_option maxRecDepth 100000 in
theorem e_X12_rise_19 (a0 a1 a2 a3 a4 b0 : Int) (sh : Int × (Int → Nat × Int)) (h : Int → Int → Int) : q_L 181 19 [(22, a0), (0, a1), (0, a2), (0, a3), (0, a4), (9, 0)] [(0, b0)] (sh, h) = if b0 = 0 then (q_L 181 33 [(22, a0), (0, a1), (0, a2), (0, a3), (0, a4), (9, 0)] [] (sh, h)) else ((q_Cc 162 [(0, a4), (0, 1), (0, 9)] (sh, h)).bind (fun r => q_L 181 30 [(22, a0), (0, a1), (0, a2), (0, a3), (0, a4), (9, 0)] [r.1] r.2)) :=
  (q_unL hL_X12_rise cu_X12_rise 400 19 _ _ _).trans rfl
set_option maxRecDepth 100000 in
theorem e_X12_rise_30 (a0 a1 a2 a3 a4 b0 : Int) (sh : Int × (Int → Nat × Int)) (h : Int → Int → Int) : q_L 181 30 [(22, a0), (0, a1), (0, a2), (0, a3), (0, a4), (9, 0)] [(0, b0)] (sh, h) = if b0 = 0 then (q_L 181 33 [(22, a0), (0, a1), (0, a2), (0, a3), (0, a4), (9, 0)] [] (sh, h)) else ((q_Cc 180 [(22, a0), (0, a1), (0, a2), (0, a3), (0, a4)] (sh, h)).bind (fun r => q_L 181 49 [(22, a0), (0, a1), (0, a2), (0, a3), (0, a4), (9, 0)] [r.1] r.2)) :=
  (q_unL hL_X12_rise cu_X12_rise 400 30 _ _ _).trans rfl
set_option maxRecDepth 100000 in
theorem e_X12_rise_33 (a0 a1 a2 a3 a4 : Int) (sh : Int × (Int → Nat × Int)) (h : Int → Int → Int) : q_L 181 33 [(22, a0), (0, a1), (0, a2), (0, a3), (0, a4), (9, 0)] [] (sh, h) = (q_Cc 161 [(22, a0), (0, (-1000001))] (sh, h)).bind (fun r => q_L 181 39 [(22, a0), (0, a1), (0, a2), (0, a3), (0, a4), (9, 0)] [r.1] r.2) :=
  (q_unL hL_X12_rise cu_X12_rise 400 33 _ _ _).trans rfl
set_option maxRecDepth 100000 in
theorem e_X12_rise_39 (a0 a1 a2 a3 a4 b0 : Int) (sh : Int × (Int → Nat × Int)) (h : Int → Int → Int) : q_L 181 39 [(22, a0), (0, a1), (0, a2), (0, a3), (0, a4), (9, 0)] [(0, b0)] (sh, h) = some ((0, b0), (sh, h)) :=
  (q_unL hL_X12_rise cu_X12_rise 400 39 _ _ _).trans rfl
set_option maxRecDepth 100000 in
theorem e_X12_rise_49 (a0 a1 a2 a3 a4 b0 : Int) (sh : Int × (Int → Nat × Int)) (h : Int → Int → Int) : q_L 181 49 [(22, a0), (0, a1), (0, a2), (0, a3), (0, a4), (9, 0)] [(0, b0)] (sh, h) = if b0 < 0 then ((q_Cc 161 [(22, a0), (0, (-1000004))] (sh, h)).bind (fun r => q_L 181 62 [(22, a0), (0, a1), (0, a2), (0, a3), (0, a4), (0, b0)] [r.1] r.2)) else (q_L 181 67 [(22, a0), (0, a1), (0, a2), (0, a3), (0, a4), (0, b0)] [(0, b0)] (sh, h)) :=
  (q_unL hL_X12_rise cu_X12_rise 400 49 _ _ _).trans rfl
set_option maxRecDepth 100000 in
theorem e_X12_rise_62 (a0 a1 a2 a3 a4 a5 b0 : Int) (sh : Int × (Int → Nat × Int)) (h : Int → Int → Int) : q_L 181 62 [(22, a0), (0, a1), (0, a2), (0, a3), (0, a4), (0, a5)] [(0, b0)] (sh, h) = q_L 181 67 [(22, a0), (0, a1), (0, a2), (0, a3), (0, a4), (0, a5)] [(0, b0)] (sh, h) :=
  (q_unL hL_X12_rise cu_X12_rise 400 62 _ _ _).trans rfl
set_option maxRecDepth 100000 in
theorem e_X12_rise_67 (a0 a1 a2 a3 a4 a5 b0 : Int) (sh : Int × (Int → Nat × Int)) (h : Int → Int → Int) : q_L 181 67 [(22, a0), (0, a1), (0, a2), (0, a3), (0, a4), (0, a5)] [(0, b0)] (sh, h) = some ((0, b0), (sh, h)) :=
  (q_unL hL_X12_rise cu_X12_rise 400 67 _ _ _).trans rfl
def cu_X12_linkOf : List Nat := [0, 68, 74]
theorem hL_X12_linkOf : q_P 182 = q_find P_X12_linkOf := rfl
theorem c_X12_linkOf (a0 a1 a2 a3 : Int) (s : q_M) : q_Cc 182 [(22, a0), (0, a1), (0, a2), (0, a3)] s = q_L 182 0 [(22, a0), (0, a1), (0, a2), (0, a3), (9, 0)] [] s := rfl
set_option maxRecDepth 100000 in
theorem e_X12_linkOf_0 (a0 a1 a2 a3 : Int) (sh : Int × (Int → Nat × Int)) (h : Int → Int → Int) : q_L 182 0 [(22, a0), (0, a1), (0, a2), (0, a3), (9, 0)] [] (sh, h) = if 0 ≤ h a0 0 then (if 0 ≤ (q_add (76 : Int) a1) ∧ (q_add (76 : Int) a1) < (sh.2 (h a0 0)).2 then (if 0 ≤ h a0 0 then (if 0 ≤ (q_add (58 : Int) a2) ∧ (q_add (58 : Int) a2) < (sh.2 (h a0 0)).2 then (if 0 ≤ h a0 0 then (if 0 ≤ h a0 0 then (if 0 ≤ (q_add (52 : Int) a2) ∧ (q_add (52 : Int) a2) < (sh.2 (h a0 0)).2 then (if (24 : Int) = 0 then none else if (14 : Int) = 0 then none else if 0 ≤ (q_add (q_add (10 : Int) (q_mul (14 : Int) (h (h a0 0) (q_add (52 : Int) a2)))) (q_rem (q_div a3 (24 : Int)) (14 : Int))) ∧ (q_add (q_add (10 : Int) (q_mul (14 : Int) (h (h a0 0) (q_add (52 : Int) a2)))) (q_rem (q_div a3 (24 : Int)) (14 : Int))) < (sh.2 (h a0 0)).2 then (if 0 ≤ h a0 0 then (if 0 ≤ (q_add (70 : Int) a2) ∧ (q_add (70 : Int) a2) < (sh.2 (h a0 0)).2 then (if (h (h a0 0) (q_add (70 : Int) a2)) = (1 : Int) then (q_L 182 68 [(22, a0), (0, a1), (0, a2), (0, a3), (0, q_sub (q_mul (h (h a0 0) (q_add (76 : Int) a1)) (h (h a0 0) (q_add (58 : Int) a2))) (h (h a0 0) (q_add (q_add (10 : Int) (q_mul (14 : Int) (h (h a0 0) (q_add (52 : Int) a2)))) (q_rem (q_div a3 (24 : Int)) (14 : Int)))))] [] (sh, h)) else (if (q_sub (q_mul (h (h a0 0) (q_add (76 : Int) a1)) (h (h a0 0) (q_add (58 : Int) a2))) (h (h a0 0) (q_add (q_add (10 : Int) (q_mul (14 : Int) (h (h a0 0) (q_add (52 : Int) a2)))) (q_rem (q_div a3 (24 : Int)) (14 : Int))))) < 0 then (q_L 182 68 [(22, a0), (0, a1), (0, a2), (0, a3), (0, q_sub (q_mul (h (h a0 0) (q_add (76 : Int) a1)) (h (h a0 0) (q_add (58 : Int) a2))) (h (h a0 0) (q_add (q_add (10 : Int) (q_mul (14 : Int) (h (h a0 0) (q_add (52 : Int) a2)))) (q_rem (q_div a3 (24 : Int)) (14 : Int)))))] [] (sh, h)) else (q_L 182 74 [(22, a0), (0, a1), (0, a2), (0, a3), (0, q_sub (q_mul (h (h a0 0) (q_add (76 : Int) a1)) (h (h a0 0) (q_add (58 : Int) a2))) (h (h a0 0) (q_add (q_add (10 : Int) (q_mul (14 : Int) (h (h a0 0) (q_add (52 : Int) a2)))) (q_rem (q_div a3 (24 : Int)) (14 : Int)))))] [(0, q_sub (q_mul (h (h a0 0) (q_add (76 : Int) a1)) (h (h a0 0) (q_add (58 : Int) a2))) (h (h a0 0) (q_add (q_add (10 : Int) (q_mul (14 : Int) (h (h a0 0) (q_add (52 : Int) a2)))) (q_rem (q_div a3 (24 : Int)) (14 : Int)))))] (sh, h)))) else none) else none) else none) else none) else none) else none) else none) else none) else none) else none :=
  (q_unL hL_X12_linkOf cu_X12_linkOf 400 0 _ _ _).trans rfl
set_option maxRecDepth 100000 in
theorem e_X12_linkOf_68 (a0 a1 a2 a3 a4 : Int) (sh : Int × (Int → Nat × Int)) (h : Int → Int → Int) : q_L 182 68 [(22, a0), (0, a1), (0, a2), (0, a3), (0, a4)] [] (sh, h) = q_L 182 74 [(22, a0), (0, a1), (0, a2), (0, a3), (0, a4)] [(0, 0)] (sh, h) :=
  (q_unL hL_X12_linkOf cu_X12_linkOf 400 68 _ _ _).trans rfl
set_option maxRecDepth 100000 in
theorem e_X12_linkOf_74 (a0 a1 a2 a3 a4 b0 : Int) (sh : Int × (Int → Nat × Int)) (h : Int → Int → Int) : q_L 182 74 [(22, a0), (0, a1), (0, a2), (0, a3), (0, a4)] [(0, b0)] (sh, h) = some ((0, b0), (sh, h)) :=
  (q_unL hL_X12_linkOf cu_X12_linkOf 400 74 _ _ _).trans rfl
def cu_X12_link : List Nat := [0, 5, 13, 20, 30, 33, 39]
theorem hL_X12_link : q_P 183 = q_find P_X12_link := rfl
theorem c_X12_link (a0 a1 a2 a3 : Int) (s : q_M) : q_Cc 183 [(22, a0), (0, a1), (0, a2), (0, a3)] s = q_L 183 0 [(22, a0), (0, a1), (0, a2), (0, a3)] [] s := rfl
set_option maxRecDepth 100000 in
theorem e_X12_link_0 (a0 a1 a2 a3 : Int) (sh : Int × (Int → Nat × Int)) (h : Int → Int → Int) : q_L 183 0 [(22, a0), (0, a1), (0, a2), (0, a3)] [] (sh, h) = (q_Cc 165 [(22, a0), (0, a1)] (sh, h)).bind (fun r => q_L 183 5 [(22, a0), (0, a1), (0, a2), (0, a3)] [r.1] r.2) :=
  (q_unL hL_X12_link cu_X12_link 400 0 _ _ _).trans rfl
set_option maxRecDepth 100000 in
theorem e_X12_link_5 (a0 a1 a2 a3 b0 : Int) (sh : Int × (Int → Nat × Int)) (h : Int → Int → Int) : q_L 183 5 [(22, a0), (0, a1), (0, a2), (0, a3)] [(0, b0)] (sh, h) = if b0 = 0 then (q_L 183 33 [(22, a0), (0, a1), (0, a2), (0, a3)] [] (sh, h)) else ((q_Cc 164 [(22, a0), (0, a2)] (sh, h)).bind (fun r => q_L 183 13 [(22, a0), (0, a1), (0, a2), (0, a3)] [r.1] r.2)) :=
  (q_unL hL_X12_link cu_X12_link 400 5 _ _ _).trans rfl
set_option maxRecDepth 100000 in
theorem e_X12_link_13 (a0 a1 a2 a3 b0 : Int) (sh : Int × (Int → Nat × Int)) (h : Int → Int → Int) : q_L 183 13 [(22, a0), (0, a1), (0, a2), (0, a3)] [(0, b0)] (sh, h) = if b0 = 0 then (q_L 183 33 [(22, a0), (0, a1), (0, a2), (0, a3)] [] (sh, h)) else ((q_Cc 167 [(0, a3)] (sh, h)).bind (fun r => q_L 183 20 [(22, a0), (0, a1), (0, a2), (0, a3)] [r.1] r.2)) :=
  (q_unL hL_X12_link cu_X12_link 400 13 _ _ _).trans rfl
set_option maxRecDepth 100000 in
theorem e_X12_link_20 (a0 a1 a2 a3 b0 : Int) (sh : Int × (Int → Nat × Int)) (h : Int → Int → Int) : q_L 183 20 [(22, a0), (0, a1), (0, a2), (0, a3)] [(0, b0)] (sh, h) = if b0 = 0 then (q_L 183 33 [(22, a0), (0, a1), (0, a2), (0, a3)] [] (sh, h)) else ((q_Cc 182 [(22, a0), (0, a1), (0, a2), (0, a3)] (sh, h)).bind (fun r => q_L 183 30 [(22, a0), (0, a1), (0, a2), (0, a3)] [r.1] r.2)) :=
  (q_unL hL_X12_link cu_X12_link 400 20 _ _ _).trans rfl
set_option maxRecDepth 100000 in
theorem e_X12_link_30 (a0 a1 a2 a3 b0 : Int) (sh : Int × (Int → Nat × Int)) (h : Int → Int → Int) : q_L 183 30 [(22, a0), (0, a1), (0, a2), (0, a3)] [(0, b0)] (sh, h) = q_L 183 39 [(22, a0), (0, a1), (0, a2), (0, a3)] [(0, b0)] (sh, h) :=
  (q_unL hL_X12_link cu_X12_link 400 30 _ _ _).trans rfl
set_option maxRecDepth 100000 in
theorem e_X12_link_33 (a0 a1 a2 a3 : Int) (sh : Int × (Int → Nat × Int)) (h : Int → Int → Int) : q_L 183 33 [(22, a0), (0, a1), (0, a2), (0, a3)] [] (sh, h) = (q_Cc 161 [(22, a0), (0, (-1000001))] (sh, h)).bind (fun r => q_L 183 39 [(22, a0), (0, a1), (0, a2), (0, a3)] [r.1] r.2) :=
  (q_unL hL_X12_link cu_X12_link 400 33 _ _ _).trans rfl
set_option maxRecDepth 100000 in
theorem e_X12_link_39 (a0 a1 a2 a3 b0 : Int) (sh : Int × (Int → Nat × Int)) (h : Int → Int → Int) : q_L 183 39 [(22, a0), (0, a1), (0, a2), (0, a3)] [(0, b0)] (sh, h) = some ((0, b0), (sh, h)) :=
  (q_unL hL_X12_link cu_X12_link 400 39 _ _ _).trans rfl
def cu_X12_feed : List Nat := [0, 6, 15, 33, 38]
theorem hL_X12_feed : q_P 184 = q_find P_X12_feed := rfl
theorem c_X12_feed (a0 a1 a2 : Int) (s : q_M) : q_Cc 184 [(22, a0), (0, a1), (0, a2)] s = q_L 184 0 [(22, a0), (0, a1), (0, a2), (9, 0)] [] s := rfl
set_option maxRecDepth 100000 in
theorem e_X12_feed_0 (a0 a1 a2 : Int) (sh : Int × (Int → Nat × Int)) (h : Int → Int → Int) : q_L 184 0 [(22, a0), (0, a1), (0, a2), (9, 0)] [] (sh, h) = (q_Cc 162 [(0, a2), (0, 1), (0, 4)] (sh, h)).bind (fun r => q_L 184 6 [(22, a0), (0, a1), (0, a2), (9, 0)] [r.1] r.2) :=
  (q_unL hL_X12_feed cu_X12_feed 400 0 _ _ _).trans rfl
set_option maxRecDepth 100000 in
theorem e_X12_feed_6 (a0 a1 a2 b0 : Int) (sh : Int × (Int → Nat × Int)) (h : Int → Int → Int) : q_L 184 6 [(22, a0), (0, a1), (0, a2), (9, 0)] [(0, b0)] (sh, h) = if b0 = 0 then ((q_Cc 161 [(22, a0), (0, (-1000001))] (sh, h)).bind (fun r => q_L 184 15 [(22, a0), (0, a1), (0, a2), (9, 0)] [r.1] r.2)) else (if (110 : Int) < (q_add (h a0 5) a2) then ((q_Cc 161 [(22, a0), (0, (-1000002))] (sh, h)).bind (fun r => q_L 184 33 [(22, a0), (0, a1), (0, a2), (9, 0)] [r.1] r.2)) else (q_L 184 38 [(22, a0), (0, a1), (0, a2), (0, q_sub a2 (1 : Int))] [] (sh, h))) :=
  (q_unL hL_X12_feed cu_X12_feed 400 6 _ _ _).trans rfl
set_option maxRecDepth 100000 in
theorem e_X12_feed_15 (a0 a1 a2 b0 : Int) (sh : Int × (Int → Nat × Int)) (h : Int → Int → Int) : q_L 184 15 [(22, a0), (0, a1), (0, a2), (9, 0)] [(0, b0)] (sh, h) = some ((0, b0), (sh, h)) :=
  (q_unL hL_X12_feed cu_X12_feed 400 15 _ _ _).trans rfl
set_option maxRecDepth 100000 in
theorem e_X12_feed_33 (a0 a1 a2 b0 : Int) (sh : Int × (Int → Nat × Int)) (h : Int → Int → Int) : q_L 184 33 [(22, a0), (0, a1), (0, a2), (9, 0)] [(0, b0)] (sh, h) = some ((0, b0), (sh, h)) :=
  (q_unL hL_X12_feed cu_X12_feed 400 33 _ _ _).trans rfl
set_option maxRecDepth 100000 in
theorem e_X12_feed_38 (a0 a1 a2 a3 : Int) (sh : Int × (Int → Nat × Int)) (h : Int → Int → Int) : q_L 184 38 [(22, a0), (0, a1), (0, a2), (0, a3)] [] (sh, h) = if a3 < 0 then (some ((0, h a0 5), (sh, h))) else (if 0 ≤ h a0 4 then (if 0 ≤ (h a0 5) ∧ (h a0 5) < (sh.2 (h a0 4)).2 ∧ 0 ≤ (h a0 4) then (q_L 184 38 [(22, a0), (0, a1), (0, a2), (0, q_w (a3 + (-1)))] [] (sh, q_up (q_up h (h a0 4) (h a0 5) (q_and (q_shr a1 (q_mul (8 : Int) a3)) (255 : Int))) a0 5 (q_add ((q_up h (h a0 4) (h a0 5) (q_and (q_shr a1 (q_mul (8 : Int) a3)) (255 : Int))) a0 5) (1 : Int)))) else none) else none) :=
  (q_unL hL_X12_feed cu_X12_feed 400 38 _ _ _).trans rfl
def cu_X12_wipe : List Nat := [0]
theorem hL_X12_wipe : q_P 185 = q_find P_X12_wipe := rfl
theorem c_X12_wipe (a0 : Int) (s : q_M) : q_Cc 185 [(22, a0)] s = q_L 185 0 [(22, a0), (9, 0)] [] s := rfl
set_option maxRecDepth 100000 in
theorem e_X12_wipe_0 (a0 : Int) (sh : Int × (Int → Nat × Int)) (h : Int → Int → Int) : q_L 185 0 [(22, a0), (9, 0)] [] (sh, h) = some ((0, h a0 5), (sh, q_up h a0 5 (0 : Int))) :=
  (q_unL hL_X12_wipe cu_X12_wipe 400 0 _ _ _).trans rfl
def cu_X12_byteAt : List Nat := [0, 18]
theorem hL_X12_byteAt : q_P 186 = q_find P_X12_byteAt := rfl
theorem c_X12_byteAt (a0 a1 : Int) (s : q_M) : q_Cc 186 [(22, a0), (0, a1)] s = q_L 186 0 [(22, a0), (0, a1)] [] s := rfl
set_option maxRecDepth 100000 in
theorem e_X12_byteAt_0 (a0 a1 : Int) (sh : Int × (Int → Nat × Int)) (h : Int → Int → Int) : q_L 186 0 [(22, a0), (0, a1)] [] (sh, h) = if a1 < (h a0 5) then (if 0 ≤ h a0 4 then (if 0 ≤ a1 ∧ a1 < (sh.2 (h a0 4)).2 then (q_L 186 18 [(22, a0), (0, a1)] [(0, h (h a0 4) a1)] (sh, h)) else none) else none) else (q_L 186 18 [(22, a0), (0, a1)] [(0, (-1))] (sh, h)) :=
  (q_unL hL_X12_byteAt cu_X12_byteAt 400 0 _ _ _).trans rfl
set_option maxRecDepth 100000 in
theorem e_X12_byteAt_18 (a0 a1 b0 : Int) (sh : Int × (Int → Nat × Int)) (h : Int → Int → Int) : q_L 186 18 [(22, a0), (0, a1)] [(0, b0)] (sh, h) = some ((0, b0), (sh, h)) :=
  (q_unL hL_X12_byteAt cu_X12_byteAt 400 18 _ _ _).trans rfl
def cu_X12_isLetter : List Nat := [0, 5, 12]
theorem hL_X12_isLetter : q_P 187 = q_find P_X12_isLetter := rfl
theorem c_X12_isLetter (a0 a1 : Int) (s : q_M) : q_Cc 187 [(22, a0), (0, a1)] s = q_L 187 0 [(22, a0), (0, a1)] [] s := rfl
set_option maxRecDepth 100000 in
theorem e_X12_isLetter_0 (a0 a1 : Int) (sh : Int × (Int → Nat × Int)) (h : Int → Int → Int) : q_L 187 0 [(22, a0), (0, a1)] [] (sh, h) = (q_Cc 186 [(22, a0), (0, a1)] (sh, h)).bind (fun r => q_L 187 5 [(22, a0), (0, a1)] [r.1] r.2) :=
  (q_unL hL_X12_isLetter cu_X12_isLetter 400 0 _ _ _).trans rfl
set_option maxRecDepth 100000 in
theorem e_X12_isLetter_5 (a0 a1 b0 : Int) (sh : Int × (Int → Nat × Int)) (h : Int → Int → Int) : q_L 187 5 [(22, a0), (0, a1)] [(0, b0)] (sh, h) = (q_Cc 162 [(0, b0), (0, 97), (0, 122)] (sh, h)).bind (fun r => q_L 187 12 [(22, a0), (0, a1)] [r.1] r.2) :=
  (q_unL hL_X12_isLetter cu_X12_isLetter 400 5 _ _ _).trans rfl
set_option maxRecDepth 100000 in
theorem e_X12_isLetter_12 (a0 a1 b0 : Int) (sh : Int × (Int → Nat × Int)) (h : Int → Int → Int) : q_L 187 12 [(22, a0), (0, a1)] [(0, b0)] (sh, h) = if b0 = 0 ∨ b0 = 1 then some ((0, b0), (sh, h)) else none :=
  (q_unL hL_X12_isLetter cu_X12_isLetter 400 12 _ _ _).trans rfl
def cu_X12_isDigit : List Nat := [0, 5, 12]
theorem hL_X12_isDigit : q_P 188 = q_find P_X12_isDigit := rfl
theorem c_X12_isDigit (a0 a1 : Int) (s : q_M) : q_Cc 188 [(22, a0), (0, a1)] s = q_L 188 0 [(22, a0), (0, a1)] [] s := rfl
set_option maxRecDepth 100000 in
theorem e_X12_isDigit_0 (a0 a1 : Int) (sh : Int × (Int → Nat × Int)) (h : Int → Int → Int) : q_L 188 0 [(22, a0), (0, a1)] [] (sh, h) = (q_Cc 186 [(22, a0), (0, a1)] (sh, h)).bind (fun r => q_L 188 5 [(22, a0), (0, a1)] [r.1] r.2) :=
  (q_unL hL_X12_isDigit cu_X12_isDigit 400 0 _ _ _).trans rfl
set_option maxRecDepth 100000 in
theorem e_X12_isDigit_5 (a0 a1 b0 : Int) (sh : Int × (Int → Nat × Int)) (h : Int → Int → Int) : q_L 188 5 [(22, a0), (0, a1)] [(0, b0)] (sh, h) = (q_Cc 162 [(0, b0), (0, 48), (0, 57)] (sh, h)).bind (fun r => q_L 188 12 [(22, a0), (0, a1)] [r.1] r.2) :=
  (q_unL hL_X12_isDigit cu_X12_isDigit 400 5 _ _ _).trans rfl
set_option maxRecDepth 100000 in
theorem e_X12_isDigit_12 (a0 a1 b0 : Int) (sh : Int × (Int → Nat × Int)) (h : Int → Int → Int) : q_L 188 12 [(22, a0), (0, a1)] [(0, b0)] (sh, h) = if b0 = 0 ∨ b0 = 1 then some ((0, b0), (sh, h)) else none :=
  (q_unL hL_X12_isDigit cu_X12_isDigit 400 12 _ _ _).trans rfl
def cu_X12_wordOf : List Nat := [0, 4, 21, 26, 67, 71, 79, 87, 97]
theorem hL_X12_wordOf : q_P 189 = q_find P_X12_wordOf := rfl
theorem c_X12_wordOf (a0 a1 : Int) (s : q_M) : q_Cc 189 [(22, a0), (0, a1)] s = q_L 189 0 [(22, a0), (0, a1), (9, 0), (9, 0), (9, 0), (9, 0)] [] s := rfl
set_option maxRecDepth 100000 in
theorem e_X12_wordOf_0 (a0 a1 : Int) (sh : Int × (Int → Nat × Int)) (h : Int → Int → Int) : q_L 189 0 [(22, a0), (0, a1), (9, 0), (9, 0), (9, 0), (9, 0)] [] (sh, h) = q_L 189 4 [(22, a0), (0, a1), (0, (-1)), (0, 0), (9, 0), (9, 0)] [] (sh, h) :=
  (q_unL hL_X12_wordOf cu_X12_wordOf 400 0 _ _ _).trans rfl
set_option maxRecDepth 100000 in
theorem e_X12_wordOf_4 (a0 a1 a2 a3 : Int) (x4 x5 : q_V) (sh : Int × (Int → Nat × Int)) (h : Int → Int → Int) : q_L 189 4 [(22, a0), (0, a1), (0, a2), (0, a3), x4, x5] [] (sh, h) = if a3 < (12 : Int) then (if (6 : Int) < a1 then (q_L 189 21 [(22, a0), (0, a1), (0, a2), (0, a3), x4, x5] [(0, 0)] (sh, h)) else (q_L 189 21 [(22, a0), (0, a1), (0, a2), (0, a3), x4, x5] [(0, 1)] (sh, h))) else (some ((0, a2), (sh, h))) :=
  (q_unL hL_X12_wordOf cu_X12_wordOf 400 4 _ _ _).trans rfl
set_option maxRecDepth 100000 in
theorem e_X12_wordOf_21 (a0 a1 a2 a3 b0 : Int) (x4 x5 : q_V) (sh : Int × (Int → Nat × Int)) (h : Int → Int → Int) : q_L 189 21 [(22, a0), (0, a1), (0, a2), (0, a3), x4, x5] [(0, b0)] (sh, h) = q_L 189 26 [(22, a0), (0, a1), (0, a2), (0, a3), (0, b0), (0, 0)] [] (sh, h) :=
  (q_unL hL_X12_wordOf cu_X12_wordOf 400 21 _ _ _).trans rfl
set_option maxRecDepth 100000 in
theorem e_X12_wordOf_26 (a0 a1 a2 a3 a4 a5 : Int) (sh : Int × (Int → Nat × Int)) (h : Int → Int → Int) : q_L 189 26 [(22, a0), (0, a1), (0, a2), (0, a3), (0, a4), (0, a5)] [] (sh, h) = if a5 < (6 : Int) then (if a4 = 0 then (q_L 189 87 [(22, a0), (0, a1), (0, a2), (0, a3), (0, a4), (0, a5)] [] (sh, h)) else (if 0 ≤ h a0 17 then (if 0 ≤ (q_add (q_mul (6 : Int) a3) a5) ∧ (q_add (q_mul (6 : Int) a3) a5) < (sh.2 (h a0 17)).2 then (if a5 < a1 then ((q_Cc 186 [(22, a0), (0, q_add (h a0 12) a5)] (sh, h)).bind (fun r => q_L 189 67 [(22, a0), (0, a1), (0, a2), (0, a3), (0, a4), (0, a5)] [r.1, (0, h (h a0 17) (q_add (q_mul (6 : Int) a3) a5))] r.2)) else (q_L 189 71 [(22, a0), (0, a1), (0, a2), (0, a3), (0, a4), (0, a5)] [(0, 0), (0, h (h a0 17) (q_add (q_mul (6 : Int) a3) a5))] (sh, h))) else none) else none)) else (q_L 189 87 [(22, a0), (0, a1), (0, a2), (0, a3), (0, a4), (0, a5)] [] (sh, h)) :=
  (q_unL hL_X12_wordOf cu_X12_wordOf 400 26 _ _ _).trans rfl
set_option maxRecDepth 100000 in
theorem e_X12_wordOf_67 (a0 a1 a2 a3 a4 a5 b0 b1 : Int) (sh : Int × (Int → Nat × Int)) (h : Int → Int → Int) : q_L 189 67 [(22, a0), (0, a1), (0, a2), (0, a3), (0, a4), (0, a5)] [(0, b1), (0, b0)] (sh, h) = q_L 189 71 [(22, a0), (0, a1), (0, a2), (0, a3), (0, a4), (0, a5)] [(0, b1), (0, b0)] (sh, h) :=
  (q_unL hL_X12_wordOf cu_X12_wordOf 400 67 _ _ _).trans rfl
set_option maxRecDepth 100000 in
theorem e_X12_wordOf_71 (a0 a1 a2 a3 a4 a5 b0 b1 : Int) (sh : Int × (Int → Nat × Int)) (h : Int → Int → Int) : q_L 189 71 [(22, a0), (0, a1), (0, a2), (0, a3), (0, a4), (0, a5)] [(0, b1), (0, b0)] (sh, h) = if b0 = b1 then (q_L 189 79 [(22, a0), (0, a1), (0, a2), (0, a3), (0, a4), (0, a5)] [(0, 1)] (sh, h)) else (q_L 189 79 [(22, a0), (0, a1), (0, a2), (0, a3), (0, a4), (0, a5)] [(0, 0)] (sh, h)) :=
  (q_unL hL_X12_wordOf cu_X12_wordOf 400 71 _ _ _).trans rfl
set_option maxRecDepth 100000 in
theorem e_X12_wordOf_79 (a0 a1 a2 a3 a4 a5 b0 : Int) (sh : Int × (Int → Nat × Int)) (h : Int → Int → Int) : q_L 189 79 [(22, a0), (0, a1), (0, a2), (0, a3), (0, a4), (0, a5)] [(0, b0)] (sh, h) = q_L 189 26 [(22, a0), (0, a1), (0, a2), (0, a3), (0, b0), (0, q_w (a5 + 1))] [] (sh, h) :=
  (q_unL hL_X12_wordOf cu_X12_wordOf 400 79 _ _ _).trans rfl
set_option maxRecDepth 100000 in
theorem e_X12_wordOf_87 (a0 a1 a2 a3 a4 a5 : Int) (sh : Int × (Int → Nat × Int)) (h : Int → Int → Int) : q_L 189 87 [(22, a0), (0, a1), (0, a2), (0, a3), (0, a4), (0, a5)] [] (sh, h) = if a4 = 0 then (q_L 189 97 [(22, a0), (0, a1), (0, a2), (0, a3), (0, a4), (0, a5)] [(0, a2)] (sh, h)) else (q_L 189 97 [(22, a0), (0, a1), (0, a2), (0, a3), (0, a4), (0, a5)] [(0, a3)] (sh, h)) :=
  (q_unL hL_X12_wordOf cu_X12_wordOf 400 87 _ _ _).trans rfl
set_option maxRecDepth 100000 in
theorem e_X12_wordOf_97 (a0 a1 a2 a3 a4 a5 b0 : Int) (sh : Int × (Int → Nat × Int)) (h : Int → Int → Int) : q_L 189 97 [(22, a0), (0, a1), (0, a2), (0, a3), (0, a4), (0, a5)] [(0, b0)] (sh, h) = q_L 189 4 [(22, a0), (0, a1), (0, b0), (0, q_w (a3 + 1)), (0, a4), (0, a5)] [] (sh, h) :=
  (q_unL hL_X12_wordOf cu_X12_wordOf 400 97 _ _ _).trans rfl
def cu_X12_next : List Nat := [0, 8, 66, 69, 77, 112, 126, 129, 137, 169, 180, 215, 230, 240, 253]
theorem hL_X12_next : q_P 190 = q_find P_X12_next := rfl
theorem c_X12_next (a0 : Int) (s : q_M) : q_Cc 190 [(22, a0)] s = q_L 190 0 [(22, a0)] [] s := rfl
set_option maxRecDepth 100000 in
theorem e_X12_next_0 (a0 : Int) (sh : Int × (Int → Nat × Int)) (h : Int → Int → Int) : q_L 190 0 [(22, a0)] [] (sh, h) = (q_Cc 186 [(22, a0), (0, h a0 11)] (sh, h)).bind (fun r => q_L 190 8 [(22, a0)] [r.1] r.2) :=
  (q_unL hL_X12_next cu_X12_next 400 0 _ _ _).trans rfl
set_option maxRecDepth 100000 in
theorem e_X12_next_8 (a0 b0 : Int) (sh : Int × (Int → Nat × Int)) (h : Int → Int → Int) : q_L 190 8 [(22, a0)] [(0, b0)] (sh, h) = if b0 = (32 : Int) then (q_L 190 0 [(22, a0)] [] (sh, q_up h a0 11 (q_add (h a0 11) (1 : Int)))) else (if ((q_up (q_up h a0 12 (h a0 11)) a0 14 (0 : Int)) a0 11) = ((q_up (q_up h a0 12 (h a0 11)) a0 14 (0 : Int)) a0 5) then (q_L 190 253 [(22, a0)] [] (sh, q_up (q_up (q_up h a0 12 (h a0 11)) a0 14 (0 : Int)) a0 13 (0 : Int))) else ((q_Cc 187 [(22, a0), (0, (q_up (q_up h a0 12 (h a0 11)) a0 14 (0 : Int)) a0 11)] (sh, q_up (q_up h a0 12 (h a0 11)) a0 14 (0 : Int))).bind (fun r => q_L 190 66 [(22, a0)] [r.1] r.2))) :=
  (q_unL hL_X12_next cu_X12_next 400 8 _ _ _).trans rfl
set_option maxRecDepth 100000 in
theorem e_X12_next_66 (a0 b0 : Int) (sh : Int × (Int → Nat × Int)) (h : Int → Int → Int) : q_L 190 66 [(22, a0)] [(0, b0)] (sh, h) = if b0 = 0 then ((q_Cc 188 [(22, a0), (0, h a0 11)] (sh, h)).bind (fun r => q_L 190 126 [(22, a0)] [r.1] r.2)) else (q_L 190 69 [(22, a0)] [] (sh, h)) :=
  (q_unL hL_X12_next cu_X12_next 400 66 _ _ _).trans rfl
set_option maxRecDepth 100000 in
theorem e_X12_next_69 (a0 : Int) (sh : Int × (Int → Nat × Int)) (h : Int → Int → Int) : q_L 190 69 [(22, a0)] [] (sh, h) = (q_Cc 187 [(22, a0), (0, h a0 11)] (sh, h)).bind (fun r => q_L 190 77 [(22, a0)] [r.1] r.2) :=
  (q_unL hL_X12_next cu_X12_next 400 69 _ _ _).trans rfl
set_option maxRecDepth 100000 in
theorem e_X12_next_77 (a0 b0 : Int) (sh : Int × (Int → Nat × Int)) (h : Int → Int → Int) : q_L 190 77 [(22, a0)] [(0, b0)] (sh, h) = if b0 = 0 then ((q_Cc 189 [(22, a0), (0, q_sub ((q_up h a0 13 (1 : Int)) a0 11) ((q_up h a0 13 (1 : Int)) a0 12))] (sh, q_up h a0 13 (1 : Int))).bind (fun r => q_L 190 112 [(22, a0)] [r.1, (22, a0)] r.2)) else (q_L 190 69 [(22, a0)] [] (sh, q_up h a0 11 (q_add (h a0 11) (1 : Int)))) :=
  (q_unL hL_X12_next cu_X12_next 400 77 _ _ _).trans rfl
set_option maxRecDepth 100000 in
theorem e_X12_next_112 (a0 b0 b1 : Int) (sh : Int × (Int → Nat × Int)) (h : Int → Int → Int) : q_L 190 112 [(22, a0)] [(0, b1), (22, b0)] (sh, h) = q_L 190 253 [(22, a0)] [] (sh, q_up h b0 14 b1) :=
  (q_unL hL_X12_next cu_X12_next 400 112 _ _ _).trans rfl
set_option maxRecDepth 100000 in
theorem e_X12_next_126 (a0 b0 : Int) (sh : Int × (Int → Nat × Int)) (h : Int → Int → Int) : q_L 190 126 [(22, a0)] [(0, b0)] (sh, h) = if b0 = 0 then ((q_Cc 186 [(22, a0), (0, h a0 11)] (sh, h)).bind (fun r => q_L 190 230 [(22, a0)] [r.1, (22, a0)] r.2)) else (q_L 190 129 [(22, a0)] [] (sh, h)) :=
  (q_unL hL_X12_next cu_X12_next 400 126 _ _ _).trans rfl
set_option maxRecDepth 100000 in
theorem e_X12_next_129 (a0 : Int) (sh : Int × (Int → Nat × Int)) (h : Int → Int → Int) : q_L 190 129 [(22, a0)] [] (sh, h) = (q_Cc 188 [(22, a0), (0, h a0 11)] (sh, h)).bind (fun r => q_L 190 137 [(22, a0)] [r.1] r.2) :=
  (q_unL hL_X12_next cu_X12_next 400 129 _ _ _).trans rfl
set_option maxRecDepth 100000 in
theorem e_X12_next_137 (a0 b0 : Int) (sh : Int × (Int → Nat × Int)) (h : Int → Int → Int) : q_L 190 137 [(22, a0)] [(0, b0)] (sh, h) = if b0 = 0 then (if (4 : Int) < (q_sub (h a0 11) (h a0 12)) then (q_L 190 215 [(22, a0)] [(0, 4), (22, a0)] (sh, h)) else (q_L 190 215 [(22, a0)] [(0, 2), (22, a0)] (sh, h))) else (if (q_sub (h a0 11) (h a0 12)) < (4 : Int) then ((q_Cc 186 [(22, a0), (0, h a0 11)] (sh, h)).bind (fun r => q_L 190 169 [(22, a0)] [r.1, (0, q_mul (10 : Int) (h a0 14)), (22, a0)] r.2)) else (q_L 190 180 [(22, a0)] [(0, h a0 14), (22, a0)] (sh, h))) :=
  (q_unL hL_X12_next cu_X12_next 400 137 _ _ _).trans rfl
set_option maxRecDepth 100000 in
theorem e_X12_next_169 (a0 b0 b1 b2 : Int) (sh : Int × (Int → Nat × Int)) (h : Int → Int → Int) : q_L 190 169 [(22, a0)] [(0, b2), (0, b1), (22, b0)] (sh, h) = q_L 190 180 [(22, a0)] [(0, q_sub (q_add b1 b2) (48 : Int)), (22, b0)] (sh, h) :=
  (q_unL hL_X12_next cu_X12_next 400 169 _ _ _).trans rfl
set_option maxRecDepth 100000 in
theorem e_X12_next_180 (a0 b0 b1 : Int) (sh : Int × (Int → Nat × Int)) (h : Int → Int → Int) : q_L 190 180 [(22, a0)] [(0, b1), (22, b0)] (sh, h) = q_L 190 129 [(22, a0)] [] (sh, q_up (q_up h b0 14 b1) a0 11 (q_add ((q_up h b0 14 b1) a0 11) (1 : Int))) :=
  (q_unL hL_X12_next cu_X12_next 400 180 _ _ _).trans rfl
set_option maxRecDepth 100000 in
theorem e_X12_next_215 (a0 b0 b1 : Int) (sh : Int × (Int → Nat × Int)) (h : Int → Int → Int) : q_L 190 215 [(22, a0)] [(0, b1), (22, b0)] (sh, h) = q_L 190 253 [(22, a0)] [] (sh, q_up h b0 13 b1) :=
  (q_unL hL_X12_next cu_X12_next 400 215 _ _ _).trans rfl
set_option maxRecDepth 100000 in
theorem e_X12_next_230 (a0 b0 b1 : Int) (sh : Int × (Int → Nat × Int)) (h : Int → Int → Int) : q_L 190 230 [(22, a0)] [(0, b1), (22, b0)] (sh, h) = if b1 = (59 : Int) then (q_L 190 240 [(22, a0)] [(0, 3), (22, b0)] (sh, h)) else (q_L 190 240 [(22, a0)] [(0, 4), (22, b0)] (sh, h)) :=
  (q_unL hL_X12_next cu_X12_next 400 230 _ _ _).trans rfl
set_option maxRecDepth 100000 in
theorem e_X12_next_240 (a0 b0 b1 : Int) (sh : Int × (Int → Nat × Int)) (h : Int → Int → Int) : q_L 190 240 [(22, a0)] [(0, b1), (22, b0)] (sh, h) = q_L 190 253 [(22, a0)] [] (sh, q_up (q_up h b0 13 b1) a0 11 (q_add ((q_up h b0 13 b1) a0 11) (1 : Int))) :=
  (q_unL hL_X12_next cu_X12_next 400 240 _ _ _).trans rfl
set_option maxRecDepth 100000 in
theorem e_X12_next_253 (a0 : Int) (sh : Int × (Int → Nat × Int)) (h : Int → Int → Int) : q_L 190 253 [(22, a0)] [] (sh, h) = some ((9, 0), (sh, h)) :=
  (q_unL hL_X12_next cu_X12_next 400 253 _ _ _).trans rfl
def cu_X12_wrong : List Nat := [0, 19]
theorem hL_X12_wrong : q_P 191 = q_find P_X12_wrong := rfl
theorem c_X12_wrong (a0 : Int) (s : q_M) : q_Cc 191 [(22, a0)] s = q_L 191 0 [(22, a0)] [] s := rfl
set_option maxRecDepth 100000 in
theorem e_X12_wrong_0 (a0 : Int) (sh : Int × (Int → Nat × Int)) (h : Int → Int → Int) : q_L 191 0 [(22, a0)] [] (sh, h) = if (h a0 15) < 0 then (q_L 191 19 [(22, a0)] [(0, h a0 12), (22, a0)] (sh, h)) else (q_L 191 19 [(22, a0)] [(0, h a0 15), (22, a0)] (sh, h)) :=
  (q_unL hL_X12_wrong cu_X12_wrong 400 0 _ _ _).trans rfl
set_option maxRecDepth 100000 in
theorem e_X12_wrong_19 (a0 b0 b1 : Int) (sh : Int × (Int → Nat × Int)) (h : Int → Int → Int) : q_L 191 19 [(22, a0)] [(0, b1), (22, b0)] (sh, h) = some ((9, 0), (sh, q_up h b0 15 b1)) :=
  (q_unL hL_X12_wrong cu_X12_wrong 400 19 _ _ _).trans rfl
def cu_X12_after : List Nat := [0, 23, 27, 40, 57, 60, 64, 76]
theorem hL_X12_after : q_P 192 = q_find P_X12_after := rfl
theorem c_X12_after (a0 a1 a2 a3 : Int) (s : q_M) : q_Cc 192 [(22, a0), (0, a1), (0, a2), (0, a3)] s = q_L 192 0 [(22, a0), (0, a1), (0, a2), (0, a3), (9, 0)] [] s := rfl
set_option maxRecDepth 100000 in
theorem e_X12_after_0 (a0 a1 a2 a3 : Int) (sh : Int × (Int → Nat × Int)) (h : Int → Int → Int) : q_L 192 0 [(22, a0), (0, a1), (0, a2), (0, a3), (9, 0)] [] (sh, h) = if (h a0 15) < 0 then (if (h a0 13) = (1 : Int) then (if (h a0 14) = a1 then (q_L 192 27 [(22, a0), (0, a1), (0, a2), (0, a3), (9, 0)] [] (sh, h)) else (q_L 192 23 [(22, a0), (0, a1), (0, a2), (0, a3), (9, 0)] [] (sh, h))) else (q_L 192 23 [(22, a0), (0, a1), (0, a2), (0, a3), (9, 0)] [] (sh, h))) else (q_L 192 27 [(22, a0), (0, a1), (0, a2), (0, a3), (9, 0)] [] (sh, h)) :=
  (q_unL hL_X12_after cu_X12_after 400 0 _ _ _).trans rfl
set_option maxRecDepth 100000 in
theorem e_X12_after_23 (a0 a1 a2 a3 : Int) (sh : Int × (Int → Nat × Int)) (h : Int → Int → Int) : q_L 192 23 [(22, a0), (0, a1), (0, a2), (0, a3), (9, 0)] [] (sh, h) = (q_Cc 191 [(22, a0)] (sh, h)).bind (fun r => q_L 192 27 [(22, a0), (0, a1), (0, a2), (0, a3), (9, 0)] [] r.2) :=
  (q_unL hL_X12_after cu_X12_after 400 23 _ _ _).trans rfl
set_option maxRecDepth 100000 in
theorem e_X12_after_27 (a0 a1 a2 a3 : Int) (sh : Int × (Int → Nat × Int)) (h : Int → Int → Int) : q_L 192 27 [(22, a0), (0, a1), (0, a2), (0, a3), (9, 0)] [] (sh, h) = if (h a0 15) < 0 then ((q_Cc 190 [(22, a0)] (sh, h)).bind (fun r => q_L 192 40 [(22, a0), (0, a1), (0, a2), (0, a3), (9, 0)] [] r.2)) else (some ((0, 0), (sh, h))) :=
  (q_unL hL_X12_after cu_X12_after 400 27 _ _ _).trans rfl
set_option maxRecDepth 100000 in
theorem e_X12_after_40 (a0 a1 a2 a3 : Int) (sh : Int × (Int → Nat × Int)) (h : Int → Int → Int) : q_L 192 40 [(22, a0), (0, a1), (0, a2), (0, a3), (9, 0)] [] (sh, h) = if (h a0 13) = (2 : Int) then ((q_Cc 162 [(0, h a0 14), (0, a2), (0, a3)] (sh, h)).bind (fun r => q_L 192 57 [(22, a0), (0, a1), (0, a2), (0, a3), (9, 0)] [r.1] r.2)) else (q_L 192 60 [(22, a0), (0, a1), (0, a2), (0, a3), (9, 0)] [] (sh, h)) :=
  (q_unL hL_X12_after cu_X12_after 400 40 _ _ _).trans rfl
set_option maxRecDepth 100000 in
theorem e_X12_after_57 (a0 a1 a2 a3 b0 : Int) (sh : Int × (Int → Nat × Int)) (h : Int → Int → Int) : q_L 192 57 [(22, a0), (0, a1), (0, a2), (0, a3), (9, 0)] [(0, b0)] (sh, h) = if b0 = 0 then (q_L 192 60 [(22, a0), (0, a1), (0, a2), (0, a3), (9, 0)] [] (sh, h)) else ((q_Cc 190 [(22, a0)] (sh, h)).bind (fun r => q_L 192 76 [(22, a0), (0, a1), (0, a2), (0, a3), (0, h a0 14)] [] r.2)) :=
  (q_unL hL_X12_after cu_X12_after 400 57 _ _ _).trans rfl
set_option maxRecDepth 100000 in
theorem e_X12_after_60 (a0 a1 a2 a3 : Int) (sh : Int × (Int → Nat × Int)) (h : Int → Int → Int) : q_L 192 60 [(22, a0), (0, a1), (0, a2), (0, a3), (9, 0)] [] (sh, h) = (q_Cc 191 [(22, a0)] (sh, h)).bind (fun r => q_L 192 64 [(22, a0), (0, a1), (0, a2), (0, a3), (9, 0)] [] r.2) :=
  (q_unL hL_X12_after cu_X12_after 400 60 _ _ _).trans rfl
set_option maxRecDepth 100000 in
theorem e_X12_after_64 (a0 a1 a2 a3 : Int) (sh : Int × (Int → Nat × Int)) (h : Int → Int → Int) : q_L 192 64 [(22, a0), (0, a1), (0, a2), (0, a3), (9, 0)] [] (sh, h) = some ((0, 0), (sh, h)) :=
  (q_unL hL_X12_after cu_X12_after 400 64 _ _ _).trans rfl
set_option maxRecDepth 100000 in
theorem e_X12_after_76 (a0 a1 a2 a3 a4 : Int) (sh : Int × (Int → Nat × Int)) (h : Int → Int → Int) : q_L 192 76 [(22, a0), (0, a1), (0, a2), (0, a3), (0, a4)] [] (sh, h) = some ((0, a4), (sh, h)) :=
  (q_unL hL_X12_after cu_X12_after 400 76 _ _ _).trans rfl
def cu_X12_reads : List Nat := [0, 18, 21, 25, 43, 68, 88, 109, 152, 209, 210]
theorem hL_X12_reads : q_P 193 = q_find P_X12_reads := rfl
theorem c_X12_reads (a0 a1 : Int) (s : q_M) : q_Cc 193 [(22, a0), (0, a1)] s = q_L 193 0 [(22, a0), (0, a1)] [] s := rfl
set_option maxRecDepth 100000 in
theorem e_X12_reads_0 (a0 a1 : Int) (sh : Int × (Int → Nat × Int)) (h : Int → Int → Int) : q_L 193 0 [(22, a0), (0, a1)] [] (sh, h) = if (h a0 13) = (1 : Int) then ((q_Cc 162 [(0, h a0 14), (0, 0), (0, 6)] (sh, h)).bind (fun r => q_L 193 18 [(22, a0), (0, a1)] [r.1] r.2)) else (q_L 193 21 [(22, a0), (0, a1)] [] (sh, h)) :=
  (q_unL hL_X12_reads cu_X12_reads 400 0 _ _ _).trans rfl
set_option maxRecDepth 100000 in
theorem e_X12_reads_18 (a0 a1 b0 : Int) (sh : Int × (Int → Nat × Int)) (h : Int → Int → Int) : q_L 193 18 [(22, a0), (0, a1)] [(0, b0)] (sh, h) = if b0 = 0 then (q_L 193 21 [(22, a0), (0, a1)] [] (sh, h)) else (if 0 ≤ h a0 16 then (if 0 ≤ (q_mul (6 : Int) a1) ∧ (q_mul (6 : Int) a1) < (sh.2 (h a0 16)).2 ∧ 0 ≤ (h a0 16) then ((q_Cc 190 [(22, a0)] (sh, q_up h (h a0 16) (q_mul (6 : Int) a1) (h a0 14))).bind (fun r => q_L 193 43 [(22, a0), (0, a1)] [] r.2)) else none) else none) :=
  (q_unL hL_X12_reads cu_X12_reads 400 18 _ _ _).trans rfl
set_option maxRecDepth 100000 in
theorem e_X12_reads_21 (a0 a1 : Int) (sh : Int × (Int → Nat × Int)) (h : Int → Int → Int) : q_L 193 21 [(22, a0), (0, a1)] [] (sh, h) = (q_Cc 191 [(22, a0)] (sh, h)).bind (fun r => q_L 193 25 [(22, a0), (0, a1)] [] r.2) :=
  (q_unL hL_X12_reads cu_X12_reads 400 21 _ _ _).trans rfl
set_option maxRecDepth 100000 in
theorem e_X12_reads_25 (a0 a1 : Int) (sh : Int × (Int → Nat × Int)) (h : Int → Int → Int) : q_L 193 25 [(22, a0), (0, a1)] [] (sh, h) = some ((9, 0), (sh, h)) :=
  (q_unL hL_X12_reads cu_X12_reads 400 25 _ _ _).trans rfl
set_option maxRecDepth 100000 in
theorem e_X12_reads_43 (a0 a1 : Int) (sh : Int × (Int → Nat × Int)) (h : Int → Int → Int) : q_L 193 43 [(22, a0), (0, a1)] [] (sh, h) = if 0 ≤ h a0 16 then (if 0 ≤ h a0 0 then (if 0 ≤ (2 : Int) ∧ (2 : Int) < (sh.2 (h a0 0)).2 then ((q_Cc 192 [(22, a0), (0, 7), (0, 0), (0, q_sub (h (h a0 0) (2 : Int)) (1 : Int))] (sh, h)).bind (fun r => q_L 193 68 [(22, a0), (0, a1)] [r.1, (0, q_add (q_mul (6 : Int) a1) (1 : Int)), (30, h a0 16)] r.2)) else none) else none) else none :=
  (q_unL hL_X12_reads cu_X12_reads 400 43 _ _ _).trans rfl
set_option maxRecDepth 100000 in
theorem e_X12_reads_68 (a0 a1 b0 b1 b2 : Int) (sh : Int × (Int → Nat × Int)) (h : Int → Int → Int) : q_L 193 68 [(22, a0), (0, a1)] [(0, b2), (0, b1), (30, b0)] (sh, h) = if 0 ≤ b1 ∧ b1 < (sh.2 b0).2 ∧ 0 ≤ b0 then (if 0 ≤ (q_up h b0 b1 b2) a0 16 then ((q_Cc 192 [(22, a0), (0, 8), (0, 1), (0, 9)] (sh, q_up h b0 b1 b2)).bind (fun r => q_L 193 88 [(22, a0), (0, a1)] [r.1, (0, q_add (q_mul (6 : Int) a1) (2 : Int)), (30, (q_up h b0 b1 b2) a0 16)] r.2)) else none) else none :=
  (q_unL hL_X12_reads cu_X12_reads 400 68 _ _ _).trans rfl
set_option maxRecDepth 100000 in
theorem e_X12_reads_88 (a0 a1 b0 b1 b2 : Int) (sh : Int × (Int → Nat × Int)) (h : Int → Int → Int) : q_L 193 88 [(22, a0), (0, a1)] [(0, b2), (0, b1), (30, b0)] (sh, h) = if 0 ≤ b1 ∧ b1 < (sh.2 b0).2 ∧ 0 ≤ b0 then (if 0 ≤ (q_up h b0 b1 b2) a0 16 then ((q_Cc 192 [(22, a0), (0, 9), (0, 0), (0, 9999)] (sh, q_up h b0 b1 b2)).bind (fun r => q_L 193 109 [(22, a0), (0, a1)] [r.1, (0, q_add (q_mul (6 : Int) a1) (3 : Int)), (30, (q_up h b0 b1 b2) a0 16)] r.2)) else none) else none :=
  (q_unL hL_X12_reads cu_X12_reads 400 88 _ _ _).trans rfl
set_option maxRecDepth 100000 in
theorem e_X12_reads_109 (a0 a1 b0 b1 b2 : Int) (sh : Int × (Int → Nat × Int)) (h : Int → Int → Int) : q_L 193 109 [(22, a0), (0, a1)] [(0, b2), (0, b1), (30, b0)] (sh, h) = if 0 ≤ b1 ∧ b1 < (sh.2 b0).2 ∧ 0 ≤ b0 then (if 0 ≤ (q_up h b0 b1 b2) a0 16 then (if 0 ≤ (q_up h b0 b1 b2) a0 16 then (if 0 ≤ (q_add (q_mul (6 : Int) a1) (3 : Int)) ∧ (q_add (q_mul (6 : Int) a1) (3 : Int)) < (sh.2 ((q_up h b0 b1 b2) a0 16)).2 then (if 0 ≤ (q_up h b0 b1 b2) a0 16 then (if 0 ≤ (q_add (q_mul (6 : Int) a1) (2 : Int)) ∧ (q_add (q_mul (6 : Int) a1) (2 : Int)) < (sh.2 ((q_up h b0 b1 b2) a0 16)).2 then ((q_Cc 192 [(22, a0), (0, 10), (0, q_add ((q_up h b0 b1 b2) ((q_up h b0 b1 b2) a0 16) (q_add (q_mul (6 : Int) a1) (3 : Int))) ((q_up h b0 b1 b2) ((q_up h b0 b1 b2) a0 16) (q_add (q_mul (6 : Int) a1) (2 : Int)))), (0, 9999)] (sh, q_up h b0 b1 b2)).bind (fun r => q_L 193 152 [(22, a0), (0, a1)] [r.1, (0, q_add (q_mul (6 : Int) a1) (4 : Int)), (30, (q_up h b0 b1 b2) a0 16)] r.2)) else none) else none) else none) else none) else none) else none :=
  (q_unL hL_X12_reads cu_X12_reads 400 109 _ _ _).trans rfl
set_option maxRecDepth 100000 in
theorem e_X12_reads_152 (a0 a1 b0 b1 b2 : Int) (sh : Int × (Int → Nat × Int)) (h : Int → Int → Int) : q_L 193 152 [(22, a0), (0, a1)] [(0, b2), (0, b1), (30, b0)] (sh, h) = if 0 ≤ b1 ∧ b1 < (sh.2 b0).2 ∧ 0 ≤ b0 then (if 0 ≤ (q_up h b0 b1 b2) a0 16 then (if 0 ≤ (q_add (q_mul (6 : Int) a1) (5 : Int)) ∧ (q_add (q_mul (6 : Int) a1) (5 : Int)) < (sh.2 ((q_up h b0 b1 b2) a0 16)).2 ∧ 0 ≤ ((q_up h b0 b1 b2) a0 16) then (if ((q_up (q_up h b0 b1 b2) ((q_up h b0 b1 b2) a0 16) (q_add (q_mul (6 : Int) a1) (5 : Int)) (1 : Int)) a0 15) < 0 then (if ((q_up (q_up h b0 b1 b2) ((q_up h b0 b1 b2) a0 16) (q_add (q_mul (6 : Int) a1) (5 : Int)) (1 : Int)) a0 13) = (1 : Int) then (if ((q_up (q_up h b0 b1 b2) ((q_up h b0 b1 b2) a0 16) (q_add (q_mul (6 : Int) a1) (5 : Int)) (1 : Int)) a0 14) = (11 : Int) then (if 0 ≤ (q_up (q_up h b0 b1 b2) ((q_up h b0 b1 b2) a0 16) (q_add (q_mul (6 : Int) a1) (5 : Int)) (1 : Int)) a0 16 then ((q_Cc 192 [(22, a0), (0, 11), (0, 0), (0, 999)] (sh, q_up (q_up h b0 b1 b2) ((q_up h b0 b1 b2) a0 16) (q_add (q_mul (6 : Int) a1) (5 : Int)) (1 : Int))).bind (fun r => q_L 193 209 [(22, a0), (0, a1)] [r.1, (0, q_add (q_mul (6 : Int) a1) (5 : Int)), (30, (q_up (q_up h b0 b1 b2) ((q_up h b0 b1 b2) a0 16) (q_add (q_mul (6 : Int) a1) (5 : Int)) (1 : Int)) a0 16)] r.2)) else none) else (q_L 193 210 [(22, a0), (0, a1)] [] (sh, q_up (q_up h b0 b1 b2) ((q_up h b0 b1 b2) a0 16) (q_add (q_mul (6 : Int) a1) (5 : Int)) (1 : Int)))) else (q_L 193 210 [(22, a0), (0, a1)] [] (sh, q_up (q_up h b0 b1 b2) ((q_up h b0 b1 b2) a0 16) (q_add (q_mul (6 : Int) a1) (5 : Int)) (1 : Int)))) else (q_L 193 210 [(22, a0), (0, a1)] [] (sh, q_up (q_up h b0 b1 b2) ((q_up h b0 b1 b2) a0 16) (q_add (q_mul (6 : Int) a1) (5 : Int)) (1 : Int)))) else none) else none) else none :=
  (q_unL hL_X12_reads cu_X12_reads 400 152 _ _ _).trans rfl
set_option maxRecDepth 100000 in
theorem e_X12_reads_209 (a0 a1 b0 b1 b2 : Int) (sh : Int × (Int → Nat × Int)) (h : Int → Int → Int) : q_L 193 209 [(22, a0), (0, a1)] [(0, b2), (0, b1), (30, b0)] (sh, h) = if 0 ≤ b1 ∧ b1 < (sh.2 b0).2 ∧ 0 ≤ b0 then (q_L 193 210 [(22, a0), (0, a1)] [] (sh, q_up h b0 b1 b2)) else none :=
  (q_unL hL_X12_reads cu_X12_reads 400 209 _ _ _).trans rfl
set_option maxRecDepth 100000 in
theorem e_X12_reads_210 (a0 a1 : Int) (sh : Int × (Int → Nat × Int)) (h : Int → Int → Int) : q_L 193 210 [(22, a0), (0, a1)] [] (sh, h) = some ((9, 0), (sh, h)) :=
  (q_unL hL_X12_reads cu_X12_reads 400 210 _ _ _).trans rfl
