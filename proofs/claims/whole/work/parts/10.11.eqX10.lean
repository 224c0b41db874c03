def cu_X10_init : List Nat := [0, 9, 18, 27, 36, 43, 47, 52, 66, 70, 79, 93, 97, 106, 120, 124]
theorem hL_X10_init : q_P 89 = q_find P_X10_init := rfl
theorem c_X10_init (a0 : Int) (s : q_M) : q_Cc 89 [(20, a0)] s = q_L 89 0 [(20, a0), (9, 0)] [] s := rfl
set_option maxRecDepth 100000 in
theorem e_X10_init_0 (a0 : Int) (sh : Int × (Int → Nat × Int)) (h : Int → Int → Int) : q_L 89 0 [(20, a0), (9, 0)] [] (sh, h) = if 0 ≤ (42 : Int) ∧ (42 : Int) ≤ 10000 then (q_L 89 9 [(20, a0), (9, 0)] [(30, sh.1), (20, a0)] ((q_ms sh 30 (42 : Int)), (q_mh sh h (fun _ => 0)))) else none :=
  (q_unL hL_X10_init cu_X10_init 400 0 _ _ _).trans rfl
set_option maxRecDepth 100000 in
theorem e_X10_init_9 (a0 b0 b1 : Int) (sh : Int × (Int → Nat × Int)) (h : Int → Int → Int) : q_L 89 9 [(20, a0), (9, 0)] [(30, b1), (20, b0)] (sh, h) = if 0 ≤ b1 then (if 0 ≤ (6 : Int) ∧ (6 : Int) ≤ 10000 then (q_L 89 18 [(20, a0), (9, 0)] [(43, sh.1), (20, a0)] ((q_ms sh 43 (6 : Int)), (q_mh sh (q_up h b0 4 b1) (fun _ => -1)))) else none) else none :=
  (q_unL hL_X10_init cu_X10_init 400 9 _ _ _).trans rfl
set_option maxRecDepth 100000 in
theorem e_X10_init_18 (a0 b0 b1 : Int) (sh : Int × (Int → Nat × Int)) (h : Int → Int → Int) : q_L 89 18 [(20, a0), (9, 0)] [(43, b1), (20, b0)] (sh, h) = if 0 ≤ b1 then (if 0 ≤ (8 : Int) ∧ (8 : Int) ≤ 10000 then (q_L 89 27 [(20, a0), (9, 0)] [(42, sh.1), (20, a0)] ((q_ms sh 42 (8 : Int)), (q_mh sh (q_up h b0 5 b1) (fun _ => -1)))) else none) else none :=
  (q_unL hL_X10_init cu_X10_init 400 18 _ _ _).trans rfl
set_option maxRecDepth 100000 in
theorem e_X10_init_27 (a0 b0 b1 : Int) (sh : Int × (Int → Nat × Int)) (h : Int → Int → Int) : q_L 89 27 [(20, a0), (9, 0)] [(42, b1), (20, b0)] (sh, h) = if 0 ≤ b1 then (if 0 ≤ (14 : Int) ∧ (14 : Int) ≤ 10000 then (q_L 89 36 [(20, a0), (9, 0)] [(40, sh.1), (20, a0)] ((q_ms sh 40 (14 : Int)), (q_mh sh (q_up h b0 6 b1) (fun _ => -1)))) else none) else none :=
  (q_unL hL_X10_init cu_X10_init 400 27 _ _ _).trans rfl
set_option maxRecDepth 100000 in
theorem e_X10_init_36 (a0 b0 b1 : Int) (sh : Int × (Int → Nat × Int)) (h : Int → Int → Int) : q_L 89 36 [(20, a0), (9, 0)] [(40, b1), (20, b0)] (sh, h) = if 0 ≤ b1 then (q_L 89 43 [(20, a0), (9, 0)] [(16, sh.1), (20, a0)] ((q_ms sh 16 2), (q_mh sh (q_up h b0 7 b1) (q_zf [0])))) else none :=
  (q_unL hL_X10_init cu_X10_init 400 36 _ _ _).trans rfl
set_option maxRecDepth 100000 in
theorem e_X10_init_43 (a0 b0 b1 : Int) (sh : Int × (Int → Nat × Int)) (h : Int → Int → Int) : q_L 89 43 [(20, a0), (9, 0)] [(16, b1), (20, b0)] (sh, h) = (q_Cc 55 [(16, b1)] (sh, h)).bind (fun r => q_L 89 47 [(20, a0), (9, 0)] [(16, b1), (20, b0)] r.2) :=
  (q_unL hL_X10_init cu_X10_init 400 43 _ _ _).trans rfl
set_option maxRecDepth 100000 in
theorem e_X10_init_47 (a0 b0 b1 : Int) (sh : Int × (Int → Nat × Int)) (h : Int → Int → Int) : q_L 89 47 [(20, a0), (9, 0)] [(16, b1), (20, b0)] (sh, h) = if 0 ≤ b1 then (q_L 89 52 [(20, a0), (0, 0)] [] (sh, q_up h b0 8 b1)) else none :=
  (q_unL hL_X10_init cu_X10_init 400 47 _ _ _).trans rfl
set_option maxRecDepth 100000 in
theorem e_X10_init_52 (a0 a1 : Int) (sh : Int × (Int → Nat × Int)) (h : Int → Int → Int) : q_L 89 52 [(20, a0), (0, a1)] [] (sh, h) = if a1 < (6 : Int) then (if 0 ≤ h a0 5 then (q_L 89 66 [(20, a0), (0, a1)] [(13, sh.1), (0, a1), (43, h a0 5)] ((q_ms sh 13 4), (q_mh sh h (q_zf [])))) else none) else (q_L 89 79 [(20, a0), (0, 0)] [] (sh, h)) :=
  (q_unL hL_X10_init cu_X10_init 400 52 _ _ _).trans rfl
set_option maxRecDepth 100000 in
theorem e_X10_init_66 (a0 a1 b0 b1 b2 : Int) (sh : Int × (Int → Nat × Int)) (h : Int → Int → Int) : q_L 89 66 [(20, a0), (0, a1)] [(13, b2), (0, b1), (43, b0)] (sh, h) = (q_Cc 26 [(13, b2)] (sh, h)).bind (fun r => q_L 89 70 [(20, a0), (0, a1)] [(13, b2), (0, b1), (43, b0)] r.2) :=
  (q_unL hL_X10_init cu_X10_init 400 66 _ _ _).trans rfl
set_option maxRecDepth 100000 in
theorem e_X10_init_70 (a0 a1 b0 b1 b2 : Int) (sh : Int × (Int → Nat × Int)) (h : Int → Int → Int) : q_L 89 70 [(20, a0), (0, a1)] [(13, b2), (0, b1), (43, b0)] (sh, h) = if 0 ≤ b1 ∧ b1 < (sh.2 b0).2 then (q_L 89 52 [(20, a0), (0, q_w (a1 + 1))] [] (sh, q_up h b0 b1 b2)) else none :=
  (q_unL hL_X10_init cu_X10_init 400 70 _ _ _).trans rfl
set_option maxRecDepth 100000 in
theorem e_X10_init_79 (a0 a1 : Int) (sh : Int × (Int → Nat × Int)) (h : Int → Int → Int) : q_L 89 79 [(20, a0), (0, a1)] [] (sh, h) = if a1 < (8 : Int) then (if 0 ≤ h a0 6 then (q_L 89 93 [(20, a0), (0, a1)] [(12, sh.1), (0, a1), (42, h a0 6)] ((q_ms sh 12 8), (q_mh sh h (q_zf [3, 4, 5, 6, 7])))) else none) else (q_L 89 106 [(20, a0), (0, 0)] [] (sh, h)) :=
  (q_unL hL_X10_init cu_X10_init 400 79 _ _ _).trans rfl
set_option maxRecDepth 100000 in
theorem e_X10_init_93 (a0 a1 b0 b1 b2 : Int) (sh : Int × (Int → Nat × Int)) (h : Int → Int → Int) : q_L 89 93 [(20, a0), (0, a1)] [(12, b2), (0, b1), (42, b0)] (sh, h) = (q_Cc 19 [(12, b2)] (sh, h)).bind (fun r => q_L 89 97 [(20, a0), (0, a1)] [(12, b2), (0, b1), (42, b0)] r.2) :=
  (q_unL hL_X10_init cu_X10_init 400 93 _ _ _).trans rfl
set_option maxRecDepth 100000 in
theorem e_X10_init_97 (a0 a1 b0 b1 b2 : Int) (sh : Int × (Int → Nat × Int)) (h : Int → Int → Int) : q_L 89 97 [(20, a0), (0, a1)] [(12, b2), (0, b1), (42, b0)] (sh, h) = if 0 ≤ b1 ∧ b1 < (sh.2 b0).2 then (q_L 89 79 [(20, a0), (0, q_w (a1 + 1))] [] (sh, q_up h b0 b1 b2)) else none :=
  (q_unL hL_X10_init cu_X10_init 400 97 _ _ _).trans rfl
set_option maxRecDepth 100000 in
theorem e_X10_init_106 (a0 a1 : Int) (sh : Int × (Int → Nat × Int)) (h : Int → Int → Int) : q_L 89 106 [(20, a0), (0, a1)] [] (sh, h) = if a1 < (14 : Int) then (if 0 ≤ h a0 7 then (q_L 89 120 [(20, a0), (0, a1)] [(10, sh.1), (0, a1), (40, h a0 7)] ((q_ms sh 10 9), (q_mh sh h (q_zf [])))) else none) else (some ((9, 0), (sh, h))) :=
  (q_unL hL_X10_init cu_X10_init 400 106 _ _ _).trans rfl
set_option maxRecDepth 100000 in
theorem e_X10_init_120 (a0 a1 b0 b1 b2 : Int) (sh : Int × (Int → Nat × Int)) (h : Int → Int → Int) : q_L 89 120 [(20, a0), (0, a1)] [(10, b2), (0, b1), (40, b0)] (sh, h) = (q_Cc 0 [(10, b2)] (sh, h)).bind (fun r => q_L 89 124 [(20, a0), (0, a1)] [(10, b2), (0, b1), (40, b0)] r.2) :=
  (q_unL hL_X10_init cu_X10_init 400 120 _ _ _).trans rfl
set_option maxRecDepth 100000 in
theorem e_X10_init_124 (a0 a1 b0 b1 b2 : Int) (sh : Int × (Int → Nat × Int)) (h : Int → Int → Int) : q_L 89 124 [(20, a0), (0, a1)] [(10, b2), (0, b1), (40, b0)] (sh, h) = if 0 ≤ b1 ∧ b1 < (sh.2 b0).2 then (q_L 89 106 [(20, a0), (0, q_w (a1 + 1))] [] (sh, q_up h b0 b1 b2)) else none :=
  (q_unL hL_X10_init cu_X10_init 400 124 _ _ _).trans rfl
def cu_X10_become : List Nat := [0, 50, 52, 75, 83, 106, 114, 137, 154]
theorem hL_X10_become : q_P 90 = q_find P_X10_become := rfl
theorem c_X10_become (a0 a1 : Int) (s : q_M) : q_Cc 90 [(20, a0), (20, a1)] s = q_L 90 0 [(20, a0), (20, a1), (9, 0)] [] s := rfl
set_option maxRecDepth 100000 in
theorem e_X10_become_0 (a0 a1 : Int) (sh : Int × (Int → Nat × Int)) (h : Int → Int → Int) : q_L 90 0 [(20, a0), (20, a1), (9, 0)] [] (sh, h) = if 0 ≤ (q_up (q_up (q_up (q_up h a0 0 (h a1 0)) a0 1 ((q_up h a0 0 (h a1 0)) a1 1)) a0 2 ((q_up (q_up h a0 0 (h a1 0)) a0 1 ((q_up h a0 0 (h a1 0)) a1 1)) a1 2)) a0 3 ((q_up (q_up (q_up h a0 0 (h a1 0)) a0 1 ((q_up h a0 0 (h a1 0)) a1 1)) a0 2 ((q_up (q_up h a0 0 (h a1 0)) a0 1 ((q_up h a0 0 (h a1 0)) a1 1)) a1 2)) a1 3)) a1 4 then (if 0 ≤ (q_up (q_up (q_up (q_up h a0 0 (h a1 0)) a0 1 ((q_up h a0 0 (h a1 0)) a1 1)) a0 2 ((q_up (q_up h a0 0 (h a1 0)) a0 1 ((q_up h a0 0 (h a1 0)) a1 1)) a1 2)) a0 3 ((q_up (q_up (q_up h a0 0 (h a1 0)) a0 1 ((q_up h a0 0 (h a1 0)) a1 1)) a0 2 ((q_up (q_up h a0 0 (h a1 0)) a0 1 ((q_up h a0 0 (h a1 0)) a1 1)) a1 2)) a1 3)) a0 4 then (if 0 ≤ (q_up (q_up (q_up (q_up h a0 0 (h a1 0)) a0 1 ((q_up h a0 0 (h a1 0)) a1 1)) a0 2 ((q_up (q_up h a0 0 (h a1 0)) a0 1 ((q_up h a0 0 (h a1 0)) a1 1)) a1 2)) a0 3 ((q_up (q_up (q_up h a0 0 (h a1 0)) a0 1 ((q_up h a0 0 (h a1 0)) a1 1)) a0 2 ((q_up (q_up h a0 0 (h a1 0)) a0 1 ((q_up h a0 0 (h a1 0)) a1 1)) a1 2)) a1 3)) a0 4 then (if 0 ≤ (0 : Int) ∧ 0 ≤ (0 : Int) ∧ 0 ≤ ((sh.2 ((q_up (q_up (q_up (q_up h a0 0 (h a1 0)) a0 1 ((q_up h a0 0 (h a1 0)) a1 1)) a0 2 ((q_up (q_up h a0 0 (h a1 0)) a0 1 ((q_up h a0 0 (h a1 0)) a1 1)) a1 2)) a0 3 ((q_up (q_up (q_up h a0 0 (h a1 0)) a0 1 ((q_up h a0 0 (h a1 0)) a1 1)) a0 2 ((q_up (q_up h a0 0 (h a1 0)) a0 1 ((q_up h a0 0 (h a1 0)) a1 1)) a1 2)) a1 3)) a0 4)).2) ∧ (0 : Int) + ((sh.2 ((q_up (q_up (q_up (q_up h a0 0 (h a1 0)) a0 1 ((q_up h a0 0 (h a1 0)) a1 1)) a0 2 ((q_up (q_up h a0 0 (h a1 0)) a0 1 ((q_up h a0 0 (h a1 0)) a1 1)) a1 2)) a0 3 ((q_up (q_up (q_up h a0 0 (h a1 0)) a0 1 ((q_up h a0 0 (h a1 0)) a1 1)) a0 2 ((q_up (q_up h a0 0 (h a1 0)) a0 1 ((q_up h a0 0 (h a1 0)) a1 1)) a1 2)) a1 3)) a0 4)).2) ≤ (sh.2 ((q_up (q_up (q_up (q_up h a0 0 (h a1 0)) a0 1 ((q_up h a0 0 (h a1 0)) a1 1)) a0 2 ((q_up (q_up h a0 0 (h a1 0)) a0 1 ((q_up h a0 0 (h a1 0)) a1 1)) a1 2)) a0 3 ((q_up (q_up (q_up h a0 0 (h a1 0)) a0 1 ((q_up h a0 0 (h a1 0)) a1 1)) a0 2 ((q_up (q_up h a0 0 (h a1 0)) a0 1 ((q_up h a0 0 (h a1 0)) a1 1)) a1 2)) a1 3)) a1 4)).2 ∧ (0 : Int) + ((sh.2 ((q_up (q_up (q_up (q_up h a0 0 (h a1 0)) a0 1 ((q_up h a0 0 (h a1 0)) a1 1)) a0 2 ((q_up (q_up h a0 0 (h a1 0)) a0 1 ((q_up h a0 0 (h a1 0)) a1 1)) a1 2)) a0 3 ((q_up (q_up (q_up h a0 0 (h a1 0)) a0 1 ((q_up h a0 0 (h a1 0)) a1 1)) a0 2 ((q_up (q_up h a0 0 (h a1 0)) a0 1 ((q_up h a0 0 (h a1 0)) a1 1)) a1 2)) a1 3)) a0 4)).2) ≤ (sh.2 ((q_up (q_up (q_up (q_up h a0 0 (h a1 0)) a0 1 ((q_up h a0 0 (h a1 0)) a1 1)) a0 2 ((q_up (q_up h a0 0 (h a1 0)) a0 1 ((q_up h a0 0 (h a1 0)) a1 1)) a1 2)) a0 3 ((q_up (q_up (q_up h a0 0 (h a1 0)) a0 1 ((q_up h a0 0 (h a1 0)) a1 1)) a0 2 ((q_up (q_up h a0 0 (h a1 0)) a0 1 ((q_up h a0 0 (h a1 0)) a1 1)) a1 2)) a1 3)) a0 4)).2 ∧ 0 ≤ ((q_up (q_up (q_up (q_up h a0 0 (h a1 0)) a0 1 ((q_up h a0 0 (h a1 0)) a1 1)) a0 2 ((q_up (q_up h a0 0 (h a1 0)) a0 1 ((q_up h a0 0 (h a1 0)) a1 1)) a1 2)) a0 3 ((q_up (q_up (q_up h a0 0 (h a1 0)) a0 1 ((q_up h a0 0 (h a1 0)) a1 1)) a0 2 ((q_up (q_up h a0 0 (h a1 0)) a0 1 ((q_up h a0 0 (h a1 0)) a1 1)) a1 2)) a1 3)) a1 4) ∧ 0 ≤ ((q_up (q_up (q_up (q_up h a0 0 (h a1 0)) a0 1 ((q_up h a0 0 (h a1 0)) a1 1)) a0 2 ((q_up (q_up h a0 0 (h a1 0)) a0 1 ((q_up h a0 0 (h a1 0)) a1 1)) a1 2)) a0 3 ((q_up (q_up (q_up h a0 0 (h a1 0)) a0 1 ((q_up h a0 0 (h a1 0)) a1 1)) a0 2 ((q_up (q_up h a0 0 (h a1 0)) a0 1 ((q_up h a0 0 (h a1 0)) a1 1)) a1 2)) a1 3)) a0 4) then (q_L 90 50 [(20, a0), (20, a1), (9, 0)] [] (sh, q_cp (q_up (q_up (q_up (q_up h a0 0 (h a1 0)) a0 1 ((q_up h a0 0 (h a1 0)) a1 1)) a0 2 ((q_up (q_up h a0 0 (h a1 0)) a0 1 ((q_up h a0 0 (h a1 0)) a1 1)) a1 2)) a0 3 ((q_up (q_up (q_up h a0 0 (h a1 0)) a0 1 ((q_up h a0 0 (h a1 0)) a1 1)) a0 2 ((q_up (q_up h a0 0 (h a1 0)) a0 1 ((q_up h a0 0 (h a1 0)) a1 1)) a1 2)) a1 3)) ((q_up (q_up (q_up (q_up h a0 0 (h a1 0)) a0 1 ((q_up h a0 0 (h a1 0)) a1 1)) a0 2 ((q_up (q_up h a0 0 (h a1 0)) a0 1 ((q_up h a0 0 (h a1 0)) a1 1)) a1 2)) a0 3 ((q_up (q_up (q_up h a0 0 (h a1 0)) a0 1 ((q_up h a0 0 (h a1 0)) a1 1)) a0 2 ((q_up (q_up h a0 0 (h a1 0)) a0 1 ((q_up h a0 0 (h a1 0)) a1 1)) a1 2)) a1 3)) a1 4) (0 : Int) ((q_up (q_up (q_up (q_up h a0 0 (h a1 0)) a0 1 ((q_up h a0 0 (h a1 0)) a1 1)) a0 2 ((q_up (q_up h a0 0 (h a1 0)) a0 1 ((q_up h a0 0 (h a1 0)) a1 1)) a1 2)) a0 3 ((q_up (q_up (q_up h a0 0 (h a1 0)) a0 1 ((q_up h a0 0 (h a1 0)) a1 1)) a0 2 ((q_up (q_up h a0 0 (h a1 0)) a0 1 ((q_up h a0 0 (h a1 0)) a1 1)) a1 2)) a1 3)) a0 4) (0 : Int) ((sh.2 ((q_up (q_up (q_up (q_up h a0 0 (h a1 0)) a0 1 ((q_up h a0 0 (h a1 0)) a1 1)) a0 2 ((q_up (q_up h a0 0 (h a1 0)) a0 1 ((q_up h a0 0 (h a1 0)) a1 1)) a1 2)) a0 3 ((q_up (q_up (q_up h a0 0 (h a1 0)) a0 1 ((q_up h a0 0 (h a1 0)) a1 1)) a0 2 ((q_up (q_up h a0 0 (h a1 0)) a0 1 ((q_up h a0 0 (h a1 0)) a1 1)) a1 2)) a1 3)) a0 4)).2))) else none) else none) else none) else none :=
  (q_unL hL_X10_become cu_X10_become 400 0 _ _ _).trans rfl
set_option maxRecDepth 100000 in
theorem e_X10_become_50 (a0 a1 : Int) (sh : Int × (Int → Nat × Int)) (h : Int → Int → Int) : q_L 90 50 [(20, a0), (20, a1), (9, 0)] [] (sh, h) = q_L 90 52 [(20, a0), (20, a1), (0, 0)] [] (sh, h) :=
  (q_unL hL_X10_become cu_X10_become 400 50 _ _ _).trans rfl
set_option maxRecDepth 100000 in
theorem e_X10_become_52 (a0 a1 a2 : Int) (sh : Int × (Int → Nat × Int)) (h : Int → Int → Int) : q_L 90 52 [(20, a0), (20, a1), (0, a2)] [] (sh, h) = if a2 < (h a0 1) then (if 0 ≤ h a0 5 then (if 0 ≤ a2 ∧ a2 < (sh.2 (h a0 5)).2 ∧ 0 ≤ h (h a0 5) a2 then (if 0 ≤ h a1 5 then (if 0 ≤ a2 ∧ a2 < (sh.2 (h a1 5)).2 ∧ 0 ≤ h (h a1 5) a2 then ((q_Cc 28 [(13, h (h a0 5) a2), (13, h (h a1 5) a2)] (sh, h)).bind (fun r => q_L 90 75 [(20, a0), (20, a1), (0, a2)] [] r.2)) else none) else none) else none) else none) else (q_L 90 83 [(20, a0), (20, a1), (0, 0)] [] (sh, h)) :=
  (q_unL hL_X10_become cu_X10_become 400 52 _ _ _).trans rfl
set_option maxRecDepth 100000 in
theorem e_X10_become_75 (a0 a1 a2 : Int) (sh : Int × (Int → Nat × Int)) (h : Int → Int → Int) : q_L 90 75 [(20, a0), (20, a1), (0, a2)] [] (sh, h) = q_L 90 52 [(20, a0), (20, a1), (0, q_w (a2 + 1))] [] (sh, h) :=
  (q_unL hL_X10_become cu_X10_become 400 75 _ _ _).trans rfl
set_option maxRecDepth 100000 in
theorem e_X10_become_83 (a0 a1 a2 : Int) (sh : Int × (Int → Nat × Int)) (h : Int → Int → Int) : q_L 90 83 [(20, a0), (20, a1), (0, a2)] [] (sh, h) = if a2 < (h a0 2) then (if 0 ≤ h a0 6 then (if 0 ≤ a2 ∧ a2 < (sh.2 (h a0 6)).2 ∧ 0 ≤ h (h a0 6) a2 then (if 0 ≤ h a1 6 then (if 0 ≤ a2 ∧ a2 < (sh.2 (h a1 6)).2 ∧ 0 ≤ h (h a1 6) a2 then ((q_Cc 21 [(12, h (h a0 6) a2), (12, h (h a1 6) a2)] (sh, h)).bind (fun r => q_L 90 106 [(20, a0), (20, a1), (0, a2)] [] r.2)) else none) else none) else none) else none) else (q_L 90 114 [(20, a0), (20, a1), (0, 0)] [] (sh, h)) :=
  (q_unL hL_X10_become cu_X10_become 400 83 _ _ _).trans rfl
set_option maxRecDepth 100000 in
theorem e_X10_become_106 (a0 a1 a2 : Int) (sh : Int × (Int → Nat × Int)) (h : Int → Int → Int) : q_L 90 106 [(20, a0), (20, a1), (0, a2)] [] (sh, h) = q_L 90 83 [(20, a0), (20, a1), (0, q_w (a2 + 1))] [] (sh, h) :=
  (q_unL hL_X10_become cu_X10_become 400 106 _ _ _).trans rfl
set_option maxRecDepth 100000 in
theorem e_X10_become_114 (a0 a1 a2 : Int) (sh : Int × (Int → Nat × Int)) (h : Int → Int → Int) : q_L 90 114 [(20, a0), (20, a1), (0, a2)] [] (sh, h) = if a2 < (h a0 3) then (if 0 ≤ h a0 7 then (if 0 ≤ a2 ∧ a2 < (sh.2 (h a0 7)).2 ∧ 0 ≤ h (h a0 7) a2 then (if 0 ≤ h a1 7 then (if 0 ≤ a2 ∧ a2 < (sh.2 (h a1 7)).2 ∧ 0 ≤ h (h a1 7) a2 then ((q_Cc 2 [(10, h (h a0 7) a2), (10, h (h a1 7) a2)] (sh, h)).bind (fun r => q_L 90 137 [(20, a0), (20, a1), (0, a2)] [] r.2)) else none) else none) else none) else none) else (if 0 ≤ h a0 8 then (if 0 ≤ h a1 8 then ((q_Cc 56 [(16, h a0 8), (16, h a1 8)] (sh, h)).bind (fun r => q_L 90 154 [(20, a0), (20, a1), (0, a2)] [] r.2)) else none) else none) :=
  (q_unL hL_X10_become cu_X10_become 400 114 _ _ _).trans rfl
set_option maxRecDepth 100000 in
theorem e_X10_become_137 (a0 a1 a2 : Int) (sh : Int × (Int → Nat × Int)) (h : Int → Int → Int) : q_L 90 137 [(20, a0), (20, a1), (0, a2)] [] (sh, h) = q_L 90 114 [(20, a0), (20, a1), (0, q_w (a2 + 1))] [] (sh, h) :=
  (q_unL hL_X10_become cu_X10_become 400 137 _ _ _).trans rfl
set_option maxRecDepth 100000 in
theorem e_X10_become_154 (a0 a1 a2 : Int) (sh : Int × (Int → Nat × Int)) (h : Int → Int → Int) : q_L 90 154 [(20, a0), (20, a1), (0, a2)] [] (sh, h) = some ((9, 0), (sh, h)) :=
  (q_unL hL_X10_become cu_X10_become 400 154 _ _ _).trans rfl
def cu_X10_setRain : List Nat := [0]
theorem hL_X10_setRain : q_P 91 = q_find P_X10_setRain := rfl
theorem c_X10_setRain (a0 a1 a2 a3 : Int) (s : q_M) : q_Cc 91 [(20, a0), (0, a1), (0, a2), (0, a3)] s = q_L 91 0 [(20, a0), (0, a1), (0, a2), (0, a3), (9, 0), (9, 0)] [] s := rfl
set_option maxRecDepth 100000 in
theorem e_X10_setRain_0 (a0 a1 a2 a3 : Int) (sh : Int × (Int → Nat × Int)) (h : Int → Int → Int) : q_L 91 0 [(20, a0), (0, a1), (0, a2), (0, a3), (9, 0), (9, 0)] [] (sh, h) = if 0 ≤ h a0 4 then (if 0 ≤ (q_add (q_mul a1 (14 : Int)) a2) ∧ (q_add (q_mul a1 (14 : Int)) a2) < (sh.2 (h a0 4)).2 then (if 0 ≤ h a0 4 then (if 0 ≤ (q_add (q_mul a1 (14 : Int)) a2) ∧ (q_add (q_mul a1 (14 : Int)) a2) < (sh.2 (h a0 4)).2 ∧ 0 ≤ (h a0 4) then (some ((0, h (h a0 4) (q_add (q_mul a1 (14 : Int)) a2)), (sh, q_up h (h a0 4) (q_add (q_mul a1 (14 : Int)) a2) a3))) else none) else none) else none) else none :=
  (q_unL hL_X10_setRain cu_X10_setRain 400 0 _ _ _).trans rfl
def cu_X10_addDish : List Nat := [0, 15]
theorem hL_X10_addDish : q_P 92 = q_find P_X10_addDish := rfl
theorem c_X10_addDish (a0 a1 a2 a3 : Int) (s : q_M) : q_Cc 92 [(20, a0), (0, a1), (0, a2), (0, a3)] s = q_L 92 0 [(20, a0), (0, a1), (0, a2), (0, a3)] [] s := rfl
set_option maxRecDepth 100000 in
theorem e_X10_addDish_0 (a0 a1 a2 a3 : Int) (sh : Int × (Int → Nat × Int)) (h : Int → Int → Int) : q_L 92 0 [(20, a0), (0, a1), (0, a2), (0, a3)] [] (sh, h) = if 0 ≤ h a0 5 then (if 0 ≤ (h a0 1) ∧ (h a0 1) < (sh.2 (h a0 5)).2 ∧ 0 ≤ h (h a0 5) (h a0 1) then ((q_Cc 27 [(13, h (h a0 5) (h a0 1)), (0, a1), (0, a2), (0, a3)] (sh, h)).bind (fun r => q_L 92 15 [(20, a0), (0, a1), (0, a2), (0, a3)] [] r.2)) else none) else none :=
  (q_unL hL_X10_addDish cu_X10_addDish 400 0 _ _ _).trans rfl
set_option maxRecDepth 100000 in
theorem e_X10_addDish_15 (a0 a1 a2 a3 : Int) (sh : Int × (Int → Nat × Int)) (h : Int → Int → Int) : q_L 92 15 [(20, a0), (0, a1), (0, a2), (0, a3)] [] (sh, h) = some ((0, q_sub ((q_up h a0 1 (q_add (h a0 1) (1 : Int))) a0 1) (1 : Int)), (sh, q_up h a0 1 (q_add (h a0 1) (1 : Int)))) :=
  (q_unL hL_X10_addDish cu_X10_addDish 400 15 _ _ _).trans rfl
def cu_X10_addCraft : List Nat := [0, 17]
theorem hL_X10_addCraft : q_P 93 = q_find P_X10_addCraft := rfl
theorem c_X10_addCraft (a0 a1 a2 a3 a4 : Int) (s : q_M) : q_Cc 93 [(20, a0), (0, a1), (0, a2), (0, a3), (0, a4)] s = q_L 93 0 [(20, a0), (0, a1), (0, a2), (0, a3), (0, a4)] [] s := rfl
set_option maxRecDepth 100000 in
theorem e_X10_addCraft_0 (a0 a1 a2 a3 a4 : Int) (sh : Int × (Int → Nat × Int)) (h : Int → Int → Int) : q_L 93 0 [(20, a0), (0, a1), (0, a2), (0, a3), (0, a4)] [] (sh, h) = if 0 ≤ h a0 6 then (if 0 ≤ (h a0 2) ∧ (h a0 2) < (sh.2 (h a0 6)).2 ∧ 0 ≤ h (h a0 6) (h a0 2) then ((q_Cc 20 [(12, h (h a0 6) (h a0 2)), (0, a1), (0, a2), (0, a3), (0, a4)] (sh, h)).bind (fun r => q_L 93 17 [(20, a0), (0, a1), (0, a2), (0, a3), (0, a4)] [] r.2)) else none) else none :=
  (q_unL hL_X10_addCraft cu_X10_addCraft 400 0 _ _ _).trans rfl
set_option maxRecDepth 100000 in
theorem e_X10_addCraft_17 (a0 a1 a2 a3 a4 : Int) (sh : Int × (Int → Nat × Int)) (h : Int → Int → Int) : q_L 93 17 [(20, a0), (0, a1), (0, a2), (0, a3), (0, a4)] [] (sh, h) = some ((0, q_sub ((q_up h a0 2 (q_add (h a0 2) (1 : Int))) a0 2) (1 : Int)), (sh, q_up h a0 2 (q_add (h a0 2) (1 : Int)))) :=
  (q_unL hL_X10_addCraft cu_X10_addCraft 400 17 _ _ _).trans rfl
def cu_X10_addAsking : List Nat := [0, 13]
theorem hL_X10_addAsking : q_P 94 = q_find P_X10_addAsking := rfl
theorem c_X10_addAsking (a0 a1 : Int) (s : q_M) : q_Cc 94 [(20, a0), (30, a1)] s = q_L 94 0 [(20, a0), (30, a1)] [] s := rfl
set_option maxRecDepth 100000 in
theorem e_X10_addAsking_0 (a0 a1 : Int) (sh : Int × (Int → Nat × Int)) (h : Int → Int → Int) : q_L 94 0 [(20, a0), (30, a1)] [] (sh, h) = if 0 ≤ h a0 7 then (if 0 ≤ (h a0 3) ∧ (h a0 3) < (sh.2 (h a0 7)).2 ∧ 0 ≤ h (h a0 7) (h a0 3) then ((q_Cc 1 [(10, h (h a0 7) (h a0 3)), (30, a1)] (sh, h)).bind (fun r => q_L 94 13 [(20, a0), (30, a1)] [] r.2)) else none) else none :=
  (q_unL hL_X10_addAsking cu_X10_addAsking 400 0 _ _ _).trans rfl
set_option maxRecDepth 100000 in
theorem e_X10_addAsking_13 (a0 a1 : Int) (sh : Int × (Int → Nat × Int)) (h : Int → Int → Int) : q_L 94 13 [(20, a0), (30, a1)] [] (sh, h) = some ((9, 0), (sh, q_up h a0 3 (q_add (h a0 3) (1 : Int)))) :=
  (q_unL hL_X10_addAsking cu_X10_addAsking 400 13 _ _ _).trans rfl
def cu_X10_linkAt : List Nat := [0]
theorem hL_X10_linkAt : q_P 95 = q_find P_X10_linkAt := rfl
theorem c_X10_linkAt (a0 a1 a2 a3 : Int) (s : q_M) : q_Cc 95 [(20, a0), (12, a1), (13, a2), (0, a3)] s = q_L 95 0 [(20, a0), (12, a1), (13, a2), (0, a3), (9, 0)] [] s := rfl
set_option maxRecDepth 100000 in
theorem e_X10_linkAt_0 (a0 a1 a2 a3 : Int) (sh : Int × (Int → Nat × Int)) (h : Int → Int → Int) : q_L 95 0 [(20, a0), (12, a1), (13, a2), (0, a3), (9, 0)] [] (sh, h) = if (h a2 3) = 0 then (if 0 ≤ h a0 4 then (if (24 : Int) = 0 then none else if (14 : Int) = 0 then none else if 0 ≤ (q_add (q_mul (h a2 0) (14 : Int)) (q_rem (q_div a3 (24 : Int)) (14 : Int))) ∧ (q_add (q_mul (h a2 0) (14 : Int)) (q_rem (q_div a3 (24 : Int)) (14 : Int))) < (sh.2 (h a0 4)).2 then (some ((0, if (0 : Int) < (q_sub (q_mul (h a1 0) (h a2 1)) (h (h a0 4) (q_add (q_mul (h a2 0) (14 : Int)) (q_rem (q_div a3 (24 : Int)) (14 : Int))))) then (q_sub (q_mul (h a1 0) (h a2 1)) (h (h a0 4) (q_add (q_mul (h a2 0) (14 : Int)) (q_rem (q_div a3 (24 : Int)) (14 : Int))))) else (0 : Int)), (sh, h))) else none) else none) else (some ((0, 0), (sh, h))) :=
  (q_unL hL_X10_linkAt cu_X10_linkAt 400 0 _ _ _).trans rfl
def cu_X10_weightOf : List Nat := [0, 24]
theorem hL_X10_weightOf : q_P 96 = q_find P_X10_weightOf := rfl
theorem c_X10_weightOf (a0 a1 a2 : Int) (s : q_M) : q_Cc 96 [(20, a0), (0, a1), (0, a2)] s = q_L 96 0 [(20, a0), (0, a1), (0, a2), (9, 0)] [] s := rfl
set_option maxRecDepth 100000 in
theorem e_X10_weightOf_0 (a0 a1 a2 : Int) (sh : Int × (Int → Nat × Int)) (h : Int → Int → Int) : q_L 96 0 [(20, a0), (0, a1), (0, a2), (9, 0)] [] (sh, h) = if 0 ≤ h a0 7 then (if 0 ≤ a1 ∧ a1 < (sh.2 (h a0 7)).2 ∧ 0 ≤ h (h a0 7) a1 then (if 0 ≤ h a0 6 then (if 0 ≤ (h (h (h a0 7) a1) 1) ∧ (h (h (h a0 7) a1) 1) < (sh.2 (h a0 6)).2 ∧ 0 ≤ h (h a0 6) (h (h (h a0 7) a1) 1) then ((q_Cc 7 [(10, h (h a0 7) a1), (0, a2), (0, h (h (h a0 6) (h (h (h a0 7) a1) 1)) 1)] (sh, h)).bind (fun r => q_L 96 24 [(20, a0), (0, a1), (0, a2), (10, h (h a0 7) a1)] [r.1] r.2)) else none) else none) else none) else none :=
  (q_unL hL_X10_weightOf cu_X10_weightOf 400 0 _ _ _).trans rfl
set_option maxRecDepth 100000 in
theorem e_X10_weightOf_24 (a0 a1 a2 a3 b0 : Int) (sh : Int × (Int → Nat × Int)) (h : Int → Int → Int) : q_L 96 24 [(20, a0), (0, a1), (0, a2), (10, a3)] [(0, b0)] (sh, h) = some ((0, b0), (sh, h)) :=
  (q_unL hL_X10_weightOf cu_X10_weightOf 400 24 _ _ _).trans rfl
def cu_X10_runningOn : List Nat := [0, 2, 38]
theorem hL_X10_runningOn : q_P 97 = q_find P_X10_runningOn := rfl
theorem c_X10_runningOn (a0 a1 : Int) (s : q_M) : q_Cc 97 [(20, a0), (0, a1)] s = q_L 97 0 [(20, a0), (0, a1), (9, 0)] [] s := rfl
set_option maxRecDepth 100000 in
theorem e_X10_runningOn_0 (a0 a1 : Int) (sh : Int × (Int → Nat × Int)) (h : Int → Int → Int) : q_L 97 0 [(20, a0), (0, a1), (9, 0)] [] (sh, h) = q_L 97 2 [(20, a0), (0, a1), (0, 0)] [] (sh, h) :=
  (q_unL hL_X10_runningOn cu_X10_runningOn 400 0 _ _ _).trans rfl
set_option maxRecDepth 100000 in
theorem e_X10_runningOn_2 (a0 a1 a2 : Int) (sh : Int × (Int → Nat × Int)) (h : Int → Int → Int) : q_L 97 2 [(20, a0), (0, a1), (0, a2)] [] (sh, h) = if a2 < (h a0 3) then (if 0 ≤ h a0 7 then (if 0 ≤ a2 ∧ a2 < (sh.2 (h a0 7)).2 ∧ 0 ≤ h (h a0 7) a2 then (if (h (h (h a0 7) a2) 6) = (2 : Int) then (if 0 ≤ h a0 7 then (if 0 ≤ a2 ∧ a2 < (sh.2 (h a0 7)).2 ∧ 0 ≤ h (h a0 7) a2 then (if (h (h (h a0 7) a2) 7) = a1 then (some ((0, a2), (sh, h))) else (q_L 97 38 [(20, a0), (0, a1), (0, a2)] [] (sh, h))) else none) else none) else (q_L 97 38 [(20, a0), (0, a1), (0, a2)] [] (sh, h))) else none) else none) else (some ((0, (-1)), (sh, h))) :=
  (q_unL hL_X10_runningOn cu_X10_runningOn 400 2 _ _ _).trans rfl
set_option maxRecDepth 100000 in
theorem e_X10_runningOn_38 (a0 a1 a2 : Int) (sh : Int × (Int → Nat × Int)) (h : Int → Int → Int) : q_L 97 38 [(20, a0), (0, a1), (0, a2)] [] (sh, h) = q_L 97 2 [(20, a0), (0, a1), (0, q_w (a2 + 1))] [] (sh, h) :=
  (q_unL hL_X10_runningOn cu_X10_runningOn 400 38 _ _ _).trans rfl
def cu_X10_goHour : List Nat := [0, 4, 8, 22, 34, 36, 69, 91]
theorem hL_X10_goHour : q_P 98 = q_find P_X10_goHour := rfl
theorem c_X10_goHour (a0 : Int) (s : q_M) : q_Cc 98 [(20, a0)] s = q_L 98 0 [(20, a0), (9, 0), (9, 0)] [] s := rfl
set_option maxRecDepth 100000 in
theorem e_X10_goHour_0 (a0 : Int) (sh : Int × (Int → Nat × Int)) (h : Int → Int → Int) : q_L 98 0 [(20, a0), (9, 0), (9, 0)] [] (sh, h) = (q_Cc 99 [(20, a0)] (sh, h)).bind (fun r => q_L 98 4 [(20, a0), (9, 0), (9, 0)] [] r.2) :=
  (q_unL hL_X10_goHour cu_X10_goHour 400 0 _ _ _).trans rfl
set_option maxRecDepth 100000 in
theorem e_X10_goHour_4 (a0 : Int) (sh : Int × (Int → Nat × Int)) (h : Int → Int → Int) : q_L 98 4 [(20, a0), (9, 0), (9, 0)] [] (sh, h) = q_L 98 8 [(20, a0), (0, 0), (0, 0)] [] (sh, h) :=
  (q_unL hL_X10_goHour cu_X10_goHour 400 4 _ _ _).trans rfl
set_option maxRecDepth 100000 in
theorem e_X10_goHour_8 (a0 a1 a2 : Int) (sh : Int × (Int → Nat × Int)) (h : Int → Int → Int) : q_L 98 8 [(20, a0), (0, a1), (0, a2)] [] (sh, h) = if a2 < (h a0 1) then ((q_Cc 100 [(20, a0), (0, a2)] (sh, h)).bind (fun r => q_L 98 22 [(20, a0), (0, a1), (0, a2)] [r.1, (0, a1)] r.2)) else ((q_Cc 101 [(20, a0)] (sh, h)).bind (fun r => q_L 98 34 [(20, a0), (0, a1), (0, a2)] [] r.2)) :=
  (q_unL hL_X10_goHour cu_X10_goHour 400 8 _ _ _).trans rfl
set_option maxRecDepth 100000 in
theorem e_X10_goHour_22 (a0 a1 a2 b0 b1 : Int) (sh : Int × (Int → Nat × Int)) (h : Int → Int → Int) : q_L 98 22 [(20, a0), (0, a1), (0, a2)] [(0, b1), (0, b0)] (sh, h) = q_L 98 8 [(20, a0), (0, q_add b0 b1), (0, q_w (a2 + 1))] [] (sh, h) :=
  (q_unL hL_X10_goHour cu_X10_goHour 400 22 _ _ _).trans rfl
set_option maxRecDepth 100000 in
theorem e_X10_goHour_34 (a0 a1 a2 : Int) (sh : Int × (Int → Nat × Int)) (h : Int → Int → Int) : q_L 98 34 [(20, a0), (0, a1), (0, a2)] [] (sh, h) = q_L 98 36 [(20, a0), (0, a1), (0, 0)] [] (sh, h) :=
  (q_unL hL_X10_goHour cu_X10_goHour 400 34 _ _ _).trans rfl
set_option maxRecDepth 100000 in
theorem e_X10_goHour_36 (a0 a1 a2 : Int) (sh : Int × (Int → Nat × Int)) (h : Int → Int → Int) : q_L 98 36 [(20, a0), (0, a1), (0, a2)] [] (sh, h) = if a2 < (h a0 2) then (if 0 ≤ h a0 6 then (if 0 ≤ a2 ∧ a2 < (sh.2 (h a0 6)).2 ∧ 0 ≤ h (h a0 6) a2 then (if 0 ≤ h (h (h a0 6) a2) 6 then (if 0 ≤ h a0 6 then (if 0 ≤ a2 ∧ a2 < (sh.2 (h a0 6)).2 ∧ 0 ≤ h (h a0 6) a2 then ((q_Cc 34 [(14, h (h (h a0 6) a2) 6), (0, h a0 0), (0, h (h (h a0 6) a2) 1)] (sh, h)).bind (fun r => q_L 98 69 [(20, a0), (0, a1), (0, a2)] [] r.2)) else none) else none) else none) else none) else none) else (if (24 : Int) = 0 then none else if (q_rem (h a0 0) (24 : Int)) = (23 : Int) then ((q_Cc 102 [(20, a0)] (sh, h)).bind (fun r => q_L 98 91 [(20, a0), (0, a1), (0, a2)] [] r.2)) else (q_L 98 91 [(20, a0), (0, a1), (0, a2)] [] (sh, h))) :=
  (q_unL hL_X10_goHour cu_X10_goHour 400 36 _ _ _).trans rfl
set_option maxRecDepth 100000 in
theorem e_X10_goHour_69 (a0 a1 a2 : Int) (sh : Int × (Int → Nat × Int)) (h : Int → Int → Int) : q_L 98 69 [(20, a0), (0, a1), (0, a2)] [] (sh, h) = q_L 98 36 [(20, a0), (0, a1), (0, q_w (a2 + 1))] [] (sh, h) :=
  (q_unL hL_X10_goHour cu_X10_goHour 400 69 _ _ _).trans rfl
set_option maxRecDepth 100000 in
theorem e_X10_goHour_91 (a0 a1 a2 : Int) (sh : Int × (Int → Nat × Int)) (h : Int → Int → Int) : q_L 98 91 [(20, a0), (0, a1), (0, a2)] [] (sh, h) = some ((0, a1), (sh, q_up h a0 0 (q_add (h a0 0) (1 : Int)))) :=
  (q_unL hL_X10_goHour cu_X10_goHour 400 91 _ _ _).trans rfl
def cu_X10_startAskings : List Nat := [0, 2, 49]
theorem hL_X10_startAskings : q_P 99 = q_find P_X10_startAskings := rfl
theorem c_X10_startAskings (a0 : Int) (s : q_M) : q_Cc 99 [(20, a0)] s = q_L 99 0 [(20, a0), (9, 0)] [] s := rfl
set_option maxRecDepth 100000 in
theorem e_X10_startAskings_0 (a0 : Int) (sh : Int × (Int → Nat × Int)) (h : Int → Int → Int) : q_L 99 0 [(20, a0), (9, 0)] [] (sh, h) = q_L 99 2 [(20, a0), (0, 0)] [] (sh, h) :=
  (q_unL hL_X10_startAskings cu_X10_startAskings 400 0 _ _ _).trans rfl
set_option maxRecDepth 100000 in
theorem e_X10_startAskings_2 (a0 a1 : Int) (sh : Int × (Int → Nat × Int)) (h : Int → Int → Int) : q_L 99 2 [(20, a0), (0, a1)] [] (sh, h) = if a1 < (h a0 3) then (if 0 ≤ h a0 7 then (if 0 ≤ a1 ∧ a1 < (sh.2 (h a0 7)).2 ∧ 0 ≤ h (h a0 7) a1 then (if (h (h (h a0 7) a1) 6) = (1 : Int) then (if 0 ≤ h a0 7 then (if 0 ≤ a1 ∧ a1 < (sh.2 (h a0 7)).2 ∧ 0 ≤ h (h a0 7) a1 then (if (h (h (h a0 7) a1) 8) = (h a0 0) then (if 0 ≤ h a0 7 then (if 0 ≤ a1 ∧ a1 < (sh.2 (h a0 7)).2 ∧ 0 ≤ h (h a0 7) a1 then (q_L 99 49 [(20, a0), (0, a1)] [] (sh, q_up h (h (h a0 7) a1) 6 (2 : Int))) else none) else none) else (q_L 99 49 [(20, a0), (0, a1)] [] (sh, h))) else none) else none) else (q_L 99 49 [(20, a0), (0, a1)] [] (sh, h))) else none) else none) else (some ((9, 0), (sh, h))) :=
  (q_unL hL_X10_startAskings cu_X10_startAskings 400 2 _ _ _).trans rfl
set_option maxRecDepth 100000 in
theorem e_X10_startAskings_49 (a0 a1 : Int) (sh : Int × (Int → Nat × Int)) (h : Int → Int → Int) : q_L 99 49 [(20, a0), (0, a1)] [] (sh, h) = q_L 99 2 [(20, a0), (0, q_w (a1 + 1))] [] (sh, h) :=
  (q_unL hL_X10_startAskings cu_X10_startAskings 400 49 _ _ _).trans rfl
def cu_X10_serve : List Nat := [0, 5, 54, 62, 65, 77, 82, 90, 93, 114, 131]
theorem hL_X10_serve : q_P 100 = q_find P_X10_serve := rfl
theorem c_X10_serve (a0 a1 : Int) (s : q_M) : q_Cc 100 [(20, a0), (0, a1)] s = q_L 100 0 [(20, a0), (0, a1), (9, 0), (9, 0), (9, 0)] [] s := rfl
set_option maxRecDepth 100000 in
theorem e_X10_serve_0 (a0 a1 : Int) (sh : Int × (Int → Nat × Int)) (h : Int → Int → Int) : q_L 100 0 [(20, a0), (0, a1), (9, 0), (9, 0), (9, 0)] [] (sh, h) = (q_Cc 97 [(20, a0), (0, a1)] (sh, h)).bind (fun r => q_L 100 5 [(20, a0), (0, a1), (9, 0), (9, 0), (9, 0)] [r.1] r.2) :=
  (q_unL hL_X10_serve cu_X10_serve 400 0 _ _ _).trans rfl
set_option maxRecDepth 100000 in
theorem e_X10_serve_5 (a0 a1 b0 : Int) (sh : Int × (Int → Nat × Int)) (h : Int → Int → Int) : q_L 100 5 [(20, a0), (0, a1), (9, 0), (9, 0), (9, 0)] [(0, b0)] (sh, h) = if b0 < 0 then (some ((0, 0), (sh, h))) else (if 0 ≤ h a0 7 then (if 0 ≤ b0 ∧ b0 < (sh.2 (h a0 7)).2 ∧ 0 ≤ h (h a0 7) b0 then (if 0 ≤ h a0 5 then (if 0 ≤ a1 ∧ a1 < (sh.2 (h a0 5)).2 ∧ 0 ≤ h (h a0 5) a1 then (if (h (h (h a0 5) a1) 3) = 0 then (if 0 ≤ h a0 6 then (if 0 ≤ (h (h (h a0 7) b0) 1) ∧ (h (h (h a0 7) b0) 1) < (sh.2 (h a0 6)).2 ∧ 0 ≤ h (h a0 6) (h (h (h a0 7) b0) 1) then ((q_Cc 6 [(10, h (h a0 7) b0), (0, 1)] (sh, h)).bind (fun r => q_L 100 54 [(20, a0), (0, a1), (0, b0), (10, h (h a0 7) b0), (12, h (h a0 6) (h (h (h a0 7) b0) 1))] [r.1] r.2)) else none) else none) else (some ((0, 0), (sh, q_up h (h (h a0 7) b0) 6 (4 : Int))))) else none) else none) else none) else none) :=
  (q_unL hL_X10_serve cu_X10_serve 400 5 _ _ _).trans rfl
set_option maxRecDepth 100000 in
theorem e_X10_serve_54 (a0 a1 a2 a3 a4 b0 : Int) (sh : Int × (Int → Nat × Int)) (h : Int → Int → Int) : q_L 100 54 [(20, a0), (0, a1), (0, a2), (10, a3), (12, a4)] [(0, b0)] (sh, h) = if b0 = 0 then ((q_Cc 6 [(10, a3), (0, 3)] (sh, h)).bind (fun r => q_L 100 62 [(20, a0), (0, a1), (0, a2), (10, a3), (12, a4)] [r.1] r.2)) else (q_L 100 65 [(20, a0), (0, a1), (0, a2), (10, a3), (12, a4)] [] (sh, h)) :=
  (q_unL hL_X10_serve cu_X10_serve 400 54 _ _ _).trans rfl
set_option maxRecDepth 100000 in
theorem e_X10_serve_62 (a0 a1 a2 a3 a4 b0 : Int) (sh : Int × (Int → Nat × Int)) (h : Int → Int → Int) : q_L 100 62 [(20, a0), (0, a1), (0, a2), (10, a3), (12, a4)] [(0, b0)] (sh, h) = if b0 = 0 then (q_L 100 77 [(20, a0), (0, a1), (0, a2), (10, a3), (12, a4)] [] (sh, h)) else (q_L 100 65 [(20, a0), (0, a1), (0, a2), (10, a3), (12, a4)] [] (sh, h)) :=
  (q_unL hL_X10_serve cu_X10_serve 400 62 _ _ _).trans rfl
set_option maxRecDepth 100000 in
theorem e_X10_serve_65 (a0 a1 a2 a3 a4 : Int) (sh : Int × (Int → Nat × Int)) (h : Int → Int → Int) : q_L 100 65 [(20, a0), (0, a1), (0, a2), (10, a3), (12, a4)] [] (sh, h) = if 0 ≤ h a4 6 then ((q_Cc 33 [(14, h a4 6), (0, h a0 0)] (sh, h)).bind (fun r => q_L 100 77 [(20, a0), (0, a1), (0, a2), (10, a3), (12, a4)] [] r.2)) else none :=
  (q_unL hL_X10_serve cu_X10_serve 400 65 _ _ _).trans rfl
set_option maxRecDepth 100000 in
theorem e_X10_serve_77 (a0 a1 a2 a3 a4 : Int) (sh : Int × (Int → Nat × Int)) (h : Int → Int → Int) : q_L 100 77 [(20, a0), (0, a1), (0, a2), (10, a3), (12, a4)] [] (sh, h) = (q_Cc 6 [(10, a3), (0, 2)] (sh, h)).bind (fun r => q_L 100 82 [(20, a0), (0, a1), (0, a2), (10, a3), (12, a4)] [r.1] r.2) :=
  (q_unL hL_X10_serve cu_X10_serve 400 77 _ _ _).trans rfl
set_option maxRecDepth 100000 in
theorem e_X10_serve_82 (a0 a1 a2 a3 a4 b0 : Int) (sh : Int × (Int → Nat × Int)) (h : Int → Int → Int) : q_L 100 82 [(20, a0), (0, a1), (0, a2), (10, a3), (12, a4)] [(0, b0)] (sh, h) = if b0 = 0 then ((q_Cc 6 [(10, a3), (0, 3)] (sh, h)).bind (fun r => q_L 100 90 [(20, a0), (0, a1), (0, a2), (10, a3), (12, a4)] [r.1] r.2)) else (q_L 100 93 [(20, a0), (0, a1), (0, a2), (10, a3), (12, a4)] [] (sh, h)) :=
  (q_unL hL_X10_serve cu_X10_serve 400 82 _ _ _).trans rfl
set_option maxRecDepth 100000 in
theorem e_X10_serve_90 (a0 a1 a2 a3 a4 b0 : Int) (sh : Int × (Int → Nat × Int)) (h : Int → Int → Int) : q_L 100 90 [(20, a0), (0, a1), (0, a2), (10, a3), (12, a4)] [(0, b0)] (sh, h) = if b0 = 0 then (some ((0, 0), (sh, h))) else (q_L 100 93 [(20, a0), (0, a1), (0, a2), (10, a3), (12, a4)] [] (sh, h)) :=
  (q_unL hL_X10_serve cu_X10_serve 400 90 _ _ _).trans rfl
set_option maxRecDepth 100000 in
theorem e_X10_serve_93 (a0 a1 a2 a3 a4 : Int) (sh : Int × (Int → Nat × Int)) (h : Int → Int → Int) : q_L 100 93 [(20, a0), (0, a1), (0, a2), (10, a3), (12, a4)] [] (sh, h) = if 0 ≤ h a4 5 then (if 0 ≤ h a0 5 then (if 0 ≤ a1 ∧ a1 < (sh.2 (h a0 5)).2 ∧ 0 ≤ h (h a0 5) a1 then ((q_Cc 95 [(20, a0), (12, a4), (13, h (h a0 5) a1), (0, h a0 0)] (sh, h)).bind (fun r => q_L 100 114 [(20, a0), (0, a1), (0, a2), (10, a3), (12, a4)] [r.1, (11, h a4 5)] r.2)) else none) else none) else none :=
  (q_unL hL_X10_serve cu_X10_serve 400 93 _ _ _).trans rfl
set_option maxRecDepth 100000 in
theorem e_X10_serve_114 (a0 a1 a2 a3 a4 b0 b1 : Int) (sh : Int × (Int → Nat × Int)) (h : Int → Int → Int) : q_L 100 114 [(20, a0), (0, a1), (0, a2), (10, a3), (12, a4)] [(0, b1), (11, b0)] (sh, h) = if (8 : Int) = 0 then none else (q_Cc 16 [(11, b0), (0, q_div b1 (8 : Int)), (0, h a0 0), (0, q_mul (2 : Int) (h a4 1))] (sh, h)).bind (fun r => q_L 100 131 [(20, a0), (0, a1), (0, a2), (10, a3), (12, a4)] [r.1] r.2) :=
  (q_unL hL_X10_serve cu_X10_serve 400 114 _ _ _).trans rfl
set_option maxRecDepth 100000 in
theorem e_X10_serve_131 (a0 a1 a2 a3 a4 b0 : Int) (sh : Int × (Int → Nat × Int)) (h : Int → Int → Int) : q_L 100 131 [(20, a0), (0, a1), (0, a2), (10, a3), (12, a4)] [(0, b0)] (sh, h) = some ((0, b0), (sh, h)) :=
  (q_unL hL_X10_serve cu_X10_serve 400 131 _ _ _).trans rfl
def cu_X10_finishAskings : List Nat := [0, 2, 32, 51]
theorem hL_X10_finishAskings : q_P 101 = q_find P_X10_finishAskings := rfl
theorem c_X10_finishAskings (a0 : Int) (s : q_M) : q_Cc 101 [(20, a0)] s = q_L 101 0 [(20, a0), (9, 0)] [] s := rfl
set_option maxRecDepth 100000 in
theorem e_X10_finishAskings_0 (a0 : Int) (sh : Int × (Int → Nat × Int)) (h : Int → Int → Int) : q_L 101 0 [(20, a0), (9, 0)] [] (sh, h) = q_L 101 2 [(20, a0), (0, 0)] [] (sh, h) :=
  (q_unL hL_X10_finishAskings cu_X10_finishAskings 400 0 _ _ _).trans rfl
set_option maxRecDepth 100000 in
theorem e_X10_finishAskings_2 (a0 a1 : Int) (sh : Int × (Int → Nat × Int)) (h : Int → Int → Int) : q_L 101 2 [(20, a0), (0, a1)] [] (sh, h) = if a1 < (h a0 3) then (if 0 ≤ h a0 7 then (if 0 ≤ a1 ∧ a1 < (sh.2 (h a0 7)).2 ∧ 0 ≤ h (h a0 7) a1 then (if (h (h (h a0 7) a1) 6) = (2 : Int) then (if 0 ≤ h a0 7 then (if 0 ≤ a1 ∧ a1 < (sh.2 (h a0 7)).2 ∧ 0 ≤ h (h a0 7) a1 then ((q_Cc 5 [(10, h (h a0 7) a1)] (sh, h)).bind (fun r => q_L 101 32 [(20, a0), (0, a1)] [r.1] r.2)) else none) else none) else (q_L 101 51 [(20, a0), (0, a1)] [] (sh, h))) else none) else none) else (some ((9, 0), (sh, h))) :=
  (q_unL hL_X10_finishAskings cu_X10_finishAskings 400 2 _ _ _).trans rfl
set_option maxRecDepth 100000 in
theorem e_X10_finishAskings_32 (a0 a1 b0 : Int) (sh : Int × (Int → Nat × Int)) (h : Int → Int → Int) : q_L 101 32 [(20, a0), (0, a1)] [(0, b0)] (sh, h) = if (q_add (h a0 0) (1 : Int)) < b0 then (q_L 101 51 [(20, a0), (0, a1)] [] (sh, h)) else (if 0 ≤ h a0 7 then (if 0 ≤ a1 ∧ a1 < (sh.2 (h a0 7)).2 ∧ 0 ≤ h (h a0 7) a1 then (q_L 101 51 [(20, a0), (0, a1)] [] (sh, q_up h (h (h a0 7) a1) 6 (3 : Int))) else none) else none) :=
  (q_unL hL_X10_finishAskings cu_X10_finishAskings 400 32 _ _ _).trans rfl
set_option maxRecDepth 100000 in
theorem e_X10_finishAskings_51 (a0 a1 : Int) (sh : Int × (Int → Nat × Int)) (h : Int → Int → Int) : q_L 101 51 [(20, a0), (0, a1)] [] (sh, h) = q_L 101 2 [(20, a0), (0, q_w (a1 + 1))] [] (sh, h) :=
  (q_unL hL_X10_finishAskings cu_X10_finishAskings 400 51 _ _ _).trans rfl
def cu_X10_makeBlocks : List Nat := [0, 2, 12, 37]
theorem hL_X10_makeBlocks : q_P 102 = q_find P_X10_makeBlocks := rfl
theorem c_X10_makeBlocks (a0 : Int) (s : q_M) : q_Cc 102 [(20, a0)] s = q_L 102 0 [(20, a0), (9, 0), (9, 0)] [] s := rfl
set_option maxRecDepth 100000 in
theorem e_X10_makeBlocks_0 (a0 : Int) (sh : Int × (Int → Nat × Int)) (h : Int → Int → Int) : q_L 102 0 [(20, a0), (9, 0), (9, 0)] [] (sh, h) = q_L 102 2 [(20, a0), (0, 0), (9, 0)] [] (sh, h) :=
  (q_unL hL_X10_makeBlocks cu_X10_makeBlocks 400 0 _ _ _).trans rfl
set_option maxRecDepth 100000 in
theorem e_X10_makeBlocks_2 (a0 a1 : Int) (x2 : q_V) (sh : Int × (Int → Nat × Int)) (h : Int → Int → Int) : q_L 102 2 [(20, a0), (0, a1), x2] [] (sh, h) = if a1 < (h a0 2) then (q_L 102 12 [(20, a0), (0, a1), (0, 0)] [] (sh, h)) else (some ((9, 0), (sh, h))) :=
  (q_unL hL_X10_makeBlocks cu_X10_makeBlocks 400 2 _ _ _).trans rfl
set_option maxRecDepth 100000 in
theorem e_X10_makeBlocks_12 (a0 a1 a2 : Int) (sh : Int × (Int → Nat × Int)) (h : Int → Int → Int) : q_L 102 12 [(20, a0), (0, a1), (0, a2)] [] (sh, h) = if 0 ≤ h a0 6 then (if 0 ≤ a1 ∧ a1 < (sh.2 (h a0 6)).2 ∧ 0 ≤ h (h a0 6) a1 then (if a2 < (h (h (h a0 6) a1) 2) then (if 0 ≤ h a0 6 then (if 0 ≤ a1 ∧ a1 < (sh.2 (h a0 6)).2 ∧ 0 ≤ h (h a0 6) a1 then (if 0 ≤ h (h (h a0 6) a1) 5 then ((q_Cc 12 [(11, h (h (h a0 6) a1) 5)] (sh, h)).bind (fun r => q_L 102 37 [(20, a0), (0, a1), (0, a2)] [] r.2)) else none) else none) else none) else (q_L 102 2 [(20, a0), (0, q_w (a1 + 1)), (0, a2)] [] (sh, h))) else none) else none :=
  (q_unL hL_X10_makeBlocks cu_X10_makeBlocks 400 12 _ _ _).trans rfl
set_option maxRecDepth 100000 in
theorem e_X10_makeBlocks_37 (a0 a1 a2 : Int) (sh : Int × (Int → Nat × Int)) (h : Int → Int → Int) : q_L 102 37 [(20, a0), (0, a1), (0, a2)] [] (sh, h) = q_L 102 12 [(20, a0), (0, a1), (0, q_w (a2 + 1))] [] (sh, h) :=
  (q_unL hL_X10_makeBlocks cu_X10_makeBlocks 400 37 _ _ _).trans rfl
def cu_X10_brokenDishes : List Nat := [0, 4, 27]
theorem hL_X10_brokenDishes : q_P 103 = q_find P_X10_brokenDishes := rfl
theorem c_X10_brokenDishes (a0 : Int) (s : q_M) : q_Cc 103 [(20, a0)] s = q_L 103 0 [(20, a0), (9, 0), (9, 0)] [] s := rfl
set_option maxRecDepth 100000 in
theorem e_X10_brokenDishes_0 (a0 : Int) (sh : Int × (Int → Nat × Int)) (h : Int → Int → Int) : q_L 103 0 [(20, a0), (9, 0), (9, 0)] [] (sh, h) = q_L 103 4 [(20, a0), (0, 0), (0, 0)] [] (sh, h) :=
  (q_unL hL_X10_brokenDishes cu_X10_brokenDishes 400 0 _ _ _).trans rfl
set_option maxRecDepth 100000 in
theorem e_X10_brokenDishes_4 (a0 a1 a2 : Int) (sh : Int × (Int → Nat × Int)) (h : Int → Int → Int) : q_L 103 4 [(20, a0), (0, a1), (0, a2)] [] (sh, h) = if a2 < (h a0 1) then (if 0 ≤ h a0 5 then (if 0 ≤ a2 ∧ a2 < (sh.2 (h a0 5)).2 ∧ 0 ≤ h (h a0 5) a2 then (if (h (h (h a0 5) a2) 3) = 0 then (q_L 103 27 [(20, a0), (0, a1), (0, a2)] [] (sh, h)) else (q_L 103 27 [(20, a0), (0, q_w (a1 + 1)), (0, a2)] [] (sh, h))) else none) else none) else (some ((0, a1), (sh, h))) :=
  (q_unL hL_X10_brokenDishes cu_X10_brokenDishes 400 4 _ _ _).trans rfl
set_option maxRecDepth 100000 in
theorem e_X10_brokenDishes_27 (a0 a1 a2 : Int) (sh : Int × (Int → Nat × Int)) (h : Int → Int → Int) : q_L 103 27 [(20, a0), (0, a1), (0, a2)] [] (sh, h) = q_L 103 4 [(20, a0), (0, a1), (0, q_w (a2 + 1))] [] (sh, h) :=
  (q_unL hL_X10_brokenDishes cu_X10_brokenDishes 400 27 _ _ _).trans rfl
def cu_X10_askingsIn : List Nat := [0, 4, 28]
theorem hL_X10_askingsIn : q_P 104 = q_find P_X10_askingsIn := rfl
theorem c_X10_askingsIn (a0 a1 : Int) (s : q_M) : q_Cc 104 [(20, a0), (0, a1)] s = q_L 104 0 [(20, a0), (0, a1), (9, 0), (9, 0)] [] s := rfl
set_option maxRecDepth 100000 in
theorem e_X10_askingsIn_0 (a0 a1 : Int) (sh : Int × (Int → Nat × Int)) (h : Int → Int → Int) : q_L 104 0 [(20, a0), (0, a1), (9, 0), (9, 0)] [] (sh, h) = q_L 104 4 [(20, a0), (0, a1), (0, 0), (0, 0)] [] (sh, h) :=
  (q_unL hL_X10_askingsIn cu_X10_askingsIn 400 0 _ _ _).trans rfl
set_option maxRecDepth 100000 in
theorem e_X10_askingsIn_4 (a0 a1 a2 a3 : Int) (sh : Int × (Int → Nat × Int)) (h : Int → Int → Int) : q_L 104 4 [(20, a0), (0, a1), (0, a2), (0, a3)] [] (sh, h) = if a3 < (h a0 3) then (if 0 ≤ h a0 7 then (if 0 ≤ a3 ∧ a3 < (sh.2 (h a0 7)).2 ∧ 0 ≤ h (h a0 7) a3 then (if (h (h (h a0 7) a3) 6) = a1 then (q_L 104 28 [(20, a0), (0, a1), (0, q_w (a2 + 1)), (0, a3)] [] (sh, h)) else (q_L 104 28 [(20, a0), (0, a1), (0, a2), (0, a3)] [] (sh, h))) else none) else none) else (some ((0, a2), (sh, h))) :=
  (q_unL hL_X10_askingsIn cu_X10_askingsIn 400 4 _ _ _).trans rfl
set_option maxRecDepth 100000 in
theorem e_X10_askingsIn_28 (a0 a1 a2 a3 : Int) (sh : Int × (Int → Nat × Int)) (h : Int → Int → Int) : q_L 104 28 [(20, a0), (0, a1), (0, a2), (0, a3)] [] (sh, h) = q_L 104 4 [(20, a0), (0, a1), (0, a2), (0, q_w (a3 + 1))] [] (sh, h) :=
  (q_unL hL_X10_askingsIn cu_X10_askingsIn 400 28 _ _ _).trans rfl
def cu_X10_allBlocks : List Nat := [0, 4]
theorem hL_X10_allBlocks : q_P 105 = q_find P_X10_allBlocks := rfl
theorem c_X10_allBlocks (a0 : Int) (s : q_M) : q_Cc 105 [(20, a0)] s = q_L 105 0 [(20, a0), (9, 0), (9, 0)] [] s := rfl
set_option maxRecDepth 100000 in
theorem e_X10_allBlocks_0 (a0 : Int) (sh : Int × (Int → Nat × Int)) (h : Int → Int → Int) : q_L 105 0 [(20, a0), (9, 0), (9, 0)] [] (sh, h) = q_L 105 4 [(20, a0), (0, 0), (0, 0)] [] (sh, h) :=
  (q_unL hL_X10_allBlocks cu_X10_allBlocks 400 0 _ _ _).trans rfl
set_option maxRecDepth 100000 in
theorem e_X10_allBlocks_4 (a0 a1 a2 : Int) (sh : Int × (Int → Nat × Int)) (h : Int → Int → Int) : q_L 105 4 [(20, a0), (0, a1), (0, a2)] [] (sh, h) = if a2 < (h a0 2) then (if 0 ≤ h a0 6 then (if 0 ≤ a2 ∧ a2 < (sh.2 (h a0 6)).2 ∧ 0 ≤ h (h a0 6) a2 then (if 0 ≤ h (h (h a0 6) a2) 5 then (q_L 105 4 [(20, a0), (0, q_add a1 (h (h (h (h a0 6) a2) 5) 1)), (0, q_w (a2 + 1))] [] (sh, h)) else none) else none) else none) else (some ((0, a1), (sh, h))) :=
  (q_unL hL_X10_allBlocks cu_X10_allBlocks 400 4 _ _ _).trans rfl
