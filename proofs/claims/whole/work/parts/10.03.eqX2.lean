def cu_X2_init : List Nat := [0, 8, 15, 22, 26, 33, 37, 44, 48]
theorem hL_X2_init : q_P 19 = q_find P_X2_init := rfl
theorem c_X2_init (a0 : Int) (s : q_M) : q_Cc 19 [(12, a0)] s = q_L 19 0 [(12, a0)] [] s := rfl
set_option maxRecDepth 100000 in
theorem e_X2_init_0 (a0 : Int) (sh : Int × (Int → Nat × Int)) (h : Int → Int → Int) : q_L 19 0 [(12, a0)] [] (sh, h) = if 0 ≤ (3 : Int) ∧ (3 : Int) ≤ 10000 then (q_L 19 8 [(12, a0)] [(30, sh.1), (12, a0)] ((q_ms sh 30 (3 : Int)), (q_mh sh h (fun _ => 0)))) else none :=
  (q_unL hL_X2_init cu_X2_init 400 0 _ _ _).trans rfl
set_option maxRecDepth 100000 in
theorem e_X2_init_8 (a0 b0 b1 : Int) (sh : Int × (Int → Nat × Int)) (h : Int → Int → Int) : q_L 19 8 [(12, a0)] [(30, b1), (12, b0)] (sh, h) = if 0 ≤ b1 then (if 0 ≤ (3 : Int) ∧ (3 : Int) ≤ 10000 then (q_L 19 15 [(12, a0)] [(30, sh.1), (12, a0)] ((q_ms sh 30 (3 : Int)), (q_mh sh (q_up h b0 3 b1) (fun _ => 0)))) else none) else none :=
  (q_unL hL_X2_init cu_X2_init 400 8 _ _ _).trans rfl
set_option maxRecDepth 100000 in
theorem e_X2_init_15 (a0 b0 b1 : Int) (sh : Int × (Int → Nat × Int)) (h : Int → Int → Int) : q_L 19 15 [(12, a0)] [(30, b1), (12, b0)] (sh, h) = if 0 ≤ b1 then (q_L 19 22 [(12, a0)] [(11, sh.1), (12, a0)] ((q_ms sh 11 8), (q_mh sh (q_up h b0 4 b1) (q_zf [6, 7])))) else none :=
  (q_unL hL_X2_init cu_X2_init 400 15 _ _ _).trans rfl
set_option maxRecDepth 100000 in
theorem e_X2_init_22 (a0 b0 b1 : Int) (sh : Int × (Int → Nat × Int)) (h : Int → Int → Int) : q_L 19 22 [(12, a0)] [(11, b1), (12, b0)] (sh, h) = (q_Cc 8 [(11, b1)] (sh, h)).bind (fun r => q_L 19 26 [(12, a0)] [(11, b1), (12, b0)] r.2) :=
  (q_unL hL_X2_init cu_X2_init 400 22 _ _ _).trans rfl
set_option maxRecDepth 100000 in
theorem e_X2_init_26 (a0 b0 b1 : Int) (sh : Int × (Int → Nat × Int)) (h : Int → Int → Int) : q_L 19 26 [(12, a0)] [(11, b1), (12, b0)] (sh, h) = if 0 ≤ b1 then (q_L 19 33 [(12, a0)] [(14, sh.1), (12, a0)] ((q_ms sh 14 7), (q_mh sh (q_up h b0 5 b1) (q_zf [1, 2, 3, 4, 5, 6])))) else none :=
  (q_unL hL_X2_init cu_X2_init 400 26 _ _ _).trans rfl
set_option maxRecDepth 100000 in
theorem e_X2_init_33 (a0 b0 b1 : Int) (sh : Int × (Int → Nat × Int)) (h : Int → Int → Int) : q_L 19 33 [(12, a0)] [(14, b1), (12, b0)] (sh, h) = (q_Cc 29 [(14, b1)] (sh, h)).bind (fun r => q_L 19 37 [(12, a0)] [(14, b1), (12, b0)] r.2) :=
  (q_unL hL_X2_init cu_X2_init 400 33 _ _ _).trans rfl
set_option maxRecDepth 100000 in
theorem e_X2_init_37 (a0 b0 b1 : Int) (sh : Int × (Int → Nat × Int)) (h : Int → Int → Int) : q_L 19 37 [(12, a0)] [(14, b1), (12, b0)] (sh, h) = if 0 ≤ b1 then (q_L 19 44 [(12, a0)] [(18, sh.1), (12, a0)] ((q_ms sh 18 2), (q_mh sh (q_up h b0 6 b1) (q_zf [0])))) else none :=
  (q_unL hL_X2_init cu_X2_init 400 37 _ _ _).trans rfl
set_option maxRecDepth 100000 in
theorem e_X2_init_44 (a0 b0 b1 : Int) (sh : Int × (Int → Nat × Int)) (h : Int → Int → Int) : q_L 19 44 [(12, a0)] [(18, b1), (12, b0)] (sh, h) = (q_Cc 69 [(18, b1)] (sh, h)).bind (fun r => q_L 19 48 [(12, a0)] [(18, b1), (12, b0)] r.2) :=
  (q_unL hL_X2_init cu_X2_init 400 44 _ _ _).trans rfl
set_option maxRecDepth 100000 in
theorem e_X2_init_48 (a0 b0 b1 : Int) (sh : Int × (Int → Nat × Int)) (h : Int → Int → Int) : q_L 19 48 [(12, a0)] [(18, b1), (12, b0)] (sh, h) = if 0 ≤ b1 then (some ((9, 0), (sh, q_up h b0 7 b1))) else none :=
  (q_unL hL_X2_init cu_X2_init 400 48 _ _ _).trans rfl
def cu_X2_begin : List Nat := [0, 19, 55, 70]
theorem hL_X2_begin : q_P 20 = q_find P_X2_begin := rfl
theorem c_X2_begin (a0 a1 a2 a3 a4 : Int) (s : q_M) : q_Cc 20 [(12, a0), (0, a1), (0, a2), (0, a3), (0, a4)] s = q_L 20 0 [(12, a0), (0, a1), (0, a2), (0, a3), (0, a4), (9, 0)] [] s := rfl
set_option maxRecDepth 100000 in
theorem e_X2_begin_0 (a0 a1 a2 a3 a4 : Int) (sh : Int × (Int → Nat × Int)) (h : Int → Int → Int) : q_L 20 0 [(12, a0), (0, a1), (0, a2), (0, a3), (0, a4), (9, 0)] [] (sh, h) = q_L 20 19 [(12, a0), (0, a1), (0, a2), (0, a3), (0, a4), (0, 0)] [] (sh, q_up (q_up (q_up h a0 0 a1) a0 1 a2) a0 2 a4) :=
  (q_unL hL_X2_begin cu_X2_begin 400 0 _ _ _).trans rfl
set_option maxRecDepth 100000 in
theorem e_X2_begin_19 (a0 a1 a2 a3 a4 a5 : Int) (sh : Int × (Int → Nat × Int)) (h : Int → Int → Int) : q_L 20 19 [(12, a0), (0, a1), (0, a2), (0, a3), (0, a4), (0, a5)] [] (sh, h) = if a5 < (3 : Int) then (if 0 ≤ h a0 3 then (if 0 ≤ a5 ∧ a5 < (sh.2 (h a0 3)).2 ∧ 0 ≤ (h a0 3) then (if 0 ≤ (q_up h (h a0 3) a5 (0 : Int)) a0 4 then (if 0 ≤ a5 ∧ a5 < (sh.2 ((q_up h (h a0 3) a5 (0 : Int)) a0 4)).2 ∧ 0 ≤ ((q_up h (h a0 3) a5 (0 : Int)) a0 4) then (q_L 20 19 [(12, a0), (0, a1), (0, a2), (0, a3), (0, a4), (0, q_w (a5 + 1))] [] (sh, q_up (q_up h (h a0 3) a5 (0 : Int)) ((q_up h (h a0 3) a5 (0 : Int)) a0 4) a5 (0 : Int))) else none) else none) else none) else none) else (if 0 ≤ h a0 5 then ((q_Cc 9 [(11, h a0 5), (0, a3)] (sh, h)).bind (fun r => q_L 20 55 [(12, a0), (0, a1), (0, a2), (0, a3), (0, a4), (0, a5)] [] r.2)) else none) :=
  (q_unL hL_X2_begin cu_X2_begin 400 19 _ _ _).trans rfl
set_option maxRecDepth 100000 in
theorem e_X2_begin_55 (a0 a1 a2 a3 a4 a5 : Int) (sh : Int × (Int → Nat × Int)) (h : Int → Int → Int) : q_L 20 55 [(12, a0), (0, a1), (0, a2), (0, a3), (0, a4), (0, a5)] [] (sh, h) = if 0 ≤ h a0 6 then (if 0 ≤ (q_up h (h a0 6) 0 (0 : Int)) a0 7 then ((q_Cc 70 [(18, (q_up h (h a0 6) 0 (0 : Int)) a0 7)] (sh, q_up h (h a0 6) 0 (0 : Int))).bind (fun r => q_L 20 70 [(12, a0), (0, a1), (0, a2), (0, a3), (0, a4), (0, a5)] [] r.2)) else none) else none :=
  (q_unL hL_X2_begin cu_X2_begin 400 55 _ _ _).trans rfl
set_option maxRecDepth 100000 in
theorem e_X2_begin_70 (a0 a1 a2 a3 a4 a5 : Int) (sh : Int × (Int → Nat × Int)) (h : Int → Int → Int) : q_L 20 70 [(12, a0), (0, a1), (0, a2), (0, a3), (0, a4), (0, a5)] [] (sh, h) = some ((9, 0), (sh, h)) :=
  (q_unL hL_X2_begin cu_X2_begin 400 70 _ _ _).trans rfl
def cu_X2_become : List Nat := [0, 38, 52, 63, 74, 85]
theorem hL_X2_become : q_P 21 = q_find P_X2_become := rfl
theorem c_X2_become (a0 a1 : Int) (s : q_M) : q_Cc 21 [(12, a0), (12, a1)] s = q_L 21 0 [(12, a0), (12, a1)] [] s := rfl
set_option maxRecDepth 100000 in
theorem e_X2_become_0 (a0 a1 : Int) (sh : Int × (Int → Nat × Int)) (h : Int → Int → Int) : q_L 21 0 [(12, a0), (12, a1)] [] (sh, h) = if 0 ≤ (q_up (q_up (q_up h a0 0 (h a1 0)) a0 1 ((q_up h a0 0 (h a1 0)) a1 1)) a0 2 ((q_up (q_up h a0 0 (h a1 0)) a0 1 ((q_up h a0 0 (h a1 0)) a1 1)) a1 2)) a1 3 then (if 0 ≤ (q_up (q_up (q_up h a0 0 (h a1 0)) a0 1 ((q_up h a0 0 (h a1 0)) a1 1)) a0 2 ((q_up (q_up h a0 0 (h a1 0)) a0 1 ((q_up h a0 0 (h a1 0)) a1 1)) a1 2)) a0 3 then (if 0 ≤ (0 : Int) ∧ 0 ≤ (0 : Int) ∧ 0 ≤ (3 : Int) ∧ (0 : Int) + (3 : Int) ≤ (sh.2 ((q_up (q_up (q_up h a0 0 (h a1 0)) a0 1 ((q_up h a0 0 (h a1 0)) a1 1)) a0 2 ((q_up (q_up h a0 0 (h a1 0)) a0 1 ((q_up h a0 0 (h a1 0)) a1 1)) a1 2)) a1 3)).2 ∧ (0 : Int) + (3 : Int) ≤ (sh.2 ((q_up (q_up (q_up h a0 0 (h a1 0)) a0 1 ((q_up h a0 0 (h a1 0)) a1 1)) a0 2 ((q_up (q_up h a0 0 (h a1 0)) a0 1 ((q_up h a0 0 (h a1 0)) a1 1)) a1 2)) a0 3)).2 ∧ 0 ≤ ((q_up (q_up (q_up h a0 0 (h a1 0)) a0 1 ((q_up h a0 0 (h a1 0)) a1 1)) a0 2 ((q_up (q_up h a0 0 (h a1 0)) a0 1 ((q_up h a0 0 (h a1 0)) a1 1)) a1 2)) a1 3) ∧ 0 ≤ ((q_up (q_up (q_up h a0 0 (h a1 0)) a0 1 ((q_up h a0 0 (h a1 0)) a1 1)) a0 2 ((q_up (q_up h a0 0 (h a1 0)) a0 1 ((q_up h a0 0 (h a1 0)) a1 1)) a1 2)) a0 3) then (q_L 21 38 [(12, a0), (12, a1)] [] (sh, q_cp (q_up (q_up (q_up h a0 0 (h a1 0)) a0 1 ((q_up h a0 0 (h a1 0)) a1 1)) a0 2 ((q_up (q_up h a0 0 (h a1 0)) a0 1 ((q_up h a0 0 (h a1 0)) a1 1)) a1 2)) ((q_up (q_up (q_up h a0 0 (h a1 0)) a0 1 ((q_up h a0 0 (h a1 0)) a1 1)) a0 2 ((q_up (q_up h a0 0 (h a1 0)) a0 1 ((q_up h a0 0 (h a1 0)) a1 1)) a1 2)) a1 3) (0 : Int) ((q_up (q_up (q_up h a0 0 (h a1 0)) a0 1 ((q_up h a0 0 (h a1 0)) a1 1)) a0 2 ((q_up (q_up h a0 0 (h a1 0)) a0 1 ((q_up h a0 0 (h a1 0)) a1 1)) a1 2)) a0 3) (0 : Int) (3 : Int))) else none) else none) else none :=
  (q_unL hL_X2_become cu_X2_become 400 0 _ _ _).trans rfl
set_option maxRecDepth 100000 in
theorem e_X2_become_38 (a0 a1 : Int) (sh : Int × (Int → Nat × Int)) (h : Int → Int → Int) : q_L 21 38 [(12, a0), (12, a1)] [] (sh, h) = if 0 ≤ h a1 4 then (if 0 ≤ h a0 4 then (if 0 ≤ (0 : Int) ∧ 0 ≤ (0 : Int) ∧ 0 ≤ (3 : Int) ∧ (0 : Int) + (3 : Int) ≤ (sh.2 (h a1 4)).2 ∧ (0 : Int) + (3 : Int) ≤ (sh.2 (h a0 4)).2 ∧ 0 ≤ (h a1 4) ∧ 0 ≤ (h a0 4) then (q_L 21 52 [(12, a0), (12, a1)] [] (sh, q_cp h (h a1 4) (0 : Int) (h a0 4) (0 : Int) (3 : Int))) else none) else none) else none :=
  (q_unL hL_X2_become cu_X2_become 400 38 _ _ _).trans rfl
set_option maxRecDepth 100000 in
theorem e_X2_become_52 (a0 a1 : Int) (sh : Int × (Int → Nat × Int)) (h : Int → Int → Int) : q_L 21 52 [(12, a0), (12, a1)] [] (sh, h) = if 0 ≤ h a0 5 then (if 0 ≤ h a1 5 then ((q_Cc 10 [(11, h a0 5), (11, h a1 5)] (sh, h)).bind (fun r => q_L 21 63 [(12, a0), (12, a1)] [] r.2)) else none) else none :=
  (q_unL hL_X2_become cu_X2_become 400 52 _ _ _).trans rfl
set_option maxRecDepth 100000 in
theorem e_X2_become_63 (a0 a1 : Int) (sh : Int × (Int → Nat × Int)) (h : Int → Int → Int) : q_L 21 63 [(12, a0), (12, a1)] [] (sh, h) = if 0 ≤ h a0 6 then (if 0 ≤ h a1 6 then ((q_Cc 30 [(14, h a0 6), (14, h a1 6)] (sh, h)).bind (fun r => q_L 21 74 [(12, a0), (12, a1)] [] r.2)) else none) else none :=
  (q_unL hL_X2_become cu_X2_become 400 63 _ _ _).trans rfl
set_option maxRecDepth 100000 in
theorem e_X2_become_74 (a0 a1 : Int) (sh : Int × (Int → Nat × Int)) (h : Int → Int → Int) : q_L 21 74 [(12, a0), (12, a1)] [] (sh, h) = if 0 ≤ h a0 7 then (if 0 ≤ h a1 7 then ((q_Cc 71 [(18, h a0 7), (18, h a1 7)] (sh, h)).bind (fun r => q_L 21 85 [(12, a0), (12, a1)] [] r.2)) else none) else none :=
  (q_unL hL_X2_become cu_X2_become 400 74 _ _ _).trans rfl
set_option maxRecDepth 100000 in
theorem e_X2_become_85 (a0 a1 : Int) (sh : Int × (Int → Nat × Int)) (h : Int → Int → Int) : q_L 21 85 [(12, a0), (12, a1)] [] (sh, h) = some ((9, 0), (sh, h)) :=
  (q_unL hL_X2_become cu_X2_become 400 85 _ _ _).trans rfl
def cu_X2_setUp : List Nat := [0]
theorem hL_X2_setUp : q_P 22 = q_find P_X2_setUp := rfl
theorem c_X2_setUp (a0 a1 a2 a3 : Int) (s : q_M) : q_Cc 22 [(12, a0), (0, a1), (0, a2), (0, a3)] s = q_L 22 0 [(12, a0), (0, a1), (0, a2), (0, a3), (9, 0)] [] s := rfl
set_option maxRecDepth 100000 in
theorem e_X2_setUp_0 (a0 a1 a2 a3 : Int) (sh : Int × (Int → Nat × Int)) (h : Int → Int → Int) : q_L 22 0 [(12, a0), (0, a1), (0, a2), (0, a3), (9, 0)] [] (sh, h) = if 0 ≤ h a0 4 then (if 0 ≤ a1 ∧ a1 < (sh.2 (h a0 4)).2 then (if 0 ≤ h a0 3 then (if 0 ≤ a1 ∧ a1 < (sh.2 (h a0 3)).2 ∧ 0 ≤ (h a0 3) then (if 0 ≤ (q_up h (h a0 3) a1 a2) a0 4 then (if 0 ≤ a1 ∧ a1 < (sh.2 ((q_up h (h a0 3) a1 a2) a0 4)).2 ∧ 0 ≤ ((q_up h (h a0 3) a1 a2) a0 4) then (some ((0, h (h a0 4) a1), (sh, q_up (q_up h (h a0 3) a1 a2) ((q_up h (h a0 3) a1 a2) a0 4) a1 a3))) else none) else none) else none) else none) else none) else none :=
  (q_unL hL_X2_setUp cu_X2_setUp 400 0 _ _ _).trans rfl
def cu_X2_isUp : List Nat := [0, 6, 20]
theorem hL_X2_isUp : q_P 23 = q_find P_X2_isUp := rfl
theorem c_X2_isUp (a0 a1 a2 : Int) (s : q_M) : q_Cc 23 [(12, a0), (0, a1), (0, a2)] s = q_L 23 0 [(12, a0), (0, a1), (0, a2)] [] s := rfl
set_option maxRecDepth 100000 in
theorem e_X2_isUp_0 (a0 a1 a2 : Int) (sh : Int × (Int → Nat × Int)) (h : Int → Int → Int) : q_L 23 0 [(12, a0), (0, a1), (0, a2)] [] (sh, h) = (q_Cc 25 [(12, a0), (0, a1), (0, a2)] (sh, h)).bind (fun r => q_L 23 6 [(12, a0), (0, a1), (0, a2)] [r.1] r.2) :=
  (q_unL hL_X2_isUp cu_X2_isUp 400 0 _ _ _).trans rfl
set_option maxRecDepth 100000 in
theorem e_X2_isUp_6 (a0 a1 a2 b0 : Int) (sh : Int × (Int → Nat × Int)) (h : Int → Int → Int) : q_L 23 6 [(12, a0), (0, a1), (0, a2)] [(0, b0)] (sh, h) = if 0 ≤ h a0 4 then (if 0 ≤ a1 ∧ a1 < (sh.2 (h a0 4)).2 then (if b0 < (h (h a0 4) a1) then (q_L 23 20 [(12, a0), (0, a1), (0, a2)] [(0, 1)] (sh, h)) else (q_L 23 20 [(12, a0), (0, a1), (0, a2)] [(0, 0)] (sh, h))) else none) else none :=
  (q_unL hL_X2_isUp cu_X2_isUp 400 6 _ _ _).trans rfl
set_option maxRecDepth 100000 in
theorem e_X2_isUp_20 (a0 a1 a2 b0 : Int) (sh : Int × (Int → Nat × Int)) (h : Int → Int → Int) : q_L 23 20 [(12, a0), (0, a1), (0, a2)] [(0, b0)] (sh, h) = if b0 = 0 ∨ b0 = 1 then some ((0, b0), (sh, h)) else none :=
  (q_unL hL_X2_isUp cu_X2_isUp 400 20 _ _ _).trans rfl
def cu_X2_firstUp : List Nat := [0, 31, 57]
theorem hL_X2_firstUp : q_P 24 = q_find P_X2_firstUp := rfl
theorem c_X2_firstUp (a0 a1 a2 a3 : Int) (s : q_M) : q_Cc 24 [(12, a0), (0, a1), (0, a2), (0, a3)] s = q_L 24 0 [(12, a0), (0, a1), (0, a2), (0, a3), (9, 0)] [] s := rfl
set_option maxRecDepth 100000 in
theorem e_X2_firstUp_0 (a0 a1 a2 a3 : Int) (sh : Int × (Int → Nat × Int)) (h : Int → Int → Int) : q_L 24 0 [(12, a0), (0, a1), (0, a2), (0, a3), (9, 0)] [] (sh, h) = if 0 ≤ h a0 4 then (if 0 ≤ a1 ∧ a1 < (sh.2 (h a0 4)).2 then (if (h (h a0 4) a1) = (24 : Int) then (some ((0, a2), (sh, h))) else (if 0 ≤ h a0 4 then (if 0 ≤ a1 ∧ a1 < (sh.2 (h a0 4)).2 then (if (h (h a0 4) a1) < a3 then (some ((0, (-1)), (sh, h))) else ((q_Cc 25 [(12, a0), (0, a1), (0, a2)] (sh, h)).bind (fun r => q_L 24 31 [(12, a0), (0, a1), (0, a2), (0, a3), (9, 0)] [r.1] r.2))) else none) else none)) else none) else none :=
  (q_unL hL_X2_firstUp cu_X2_firstUp 400 0 _ _ _).trans rfl
set_option maxRecDepth 100000 in
theorem e_X2_firstUp_31 (a0 a1 a2 a3 b0 : Int) (sh : Int × (Int → Nat × Int)) (h : Int → Int → Int) : q_L 24 31 [(12, a0), (0, a1), (0, a2), (0, a3), (9, 0)] [(0, b0)] (sh, h) = if 0 ≤ h a0 4 then (if 0 ≤ a1 ∧ a1 < (sh.2 (h a0 4)).2 then (if (h (h a0 4) a1) < (q_add b0 a3) then (q_L 24 57 [(12, a0), (0, a1), (0, a2), (0, a3), (0, b0)] [(0, q_sub (q_add a2 (24 : Int)) b0)] (sh, h)) else (q_L 24 57 [(12, a0), (0, a1), (0, a2), (0, a3), (0, b0)] [(0, a2)] (sh, h))) else none) else none :=
  (q_unL hL_X2_firstUp cu_X2_firstUp 400 31 _ _ _).trans rfl
set_option maxRecDepth 100000 in
theorem e_X2_firstUp_57 (a0 a1 a2 a3 a4 b0 : Int) (sh : Int × (Int → Nat × Int)) (h : Int → Int → Int) : q_L 24 57 [(12, a0), (0, a1), (0, a2), (0, a3), (0, a4)] [(0, b0)] (sh, h) = some ((0, b0), (sh, h)) :=
  (q_unL hL_X2_firstUp cu_X2_firstUp 400 57 _ _ _).trans rfl
def cu_X2_sinceRise : List Nat := [0]
theorem hL_X2_sinceRise : q_P 25 = q_find P_X2_sinceRise := rfl
theorem c_X2_sinceRise (a0 a1 a2 : Int) (s : q_M) : q_Cc 25 [(12, a0), (0, a1), (0, a2)] s = q_L 25 0 [(12, a0), (0, a1), (0, a2)] [] s := rfl
set_option maxRecDepth 100000 in
theorem e_X2_sinceRise_0 (a0 a1 a2 : Int) (sh : Int × (Int → Nat × Int)) (h : Int → Int → Int) : q_L 25 0 [(12, a0), (0, a1), (0, a2)] [] (sh, h) = if 0 ≤ h a0 3 then (if 0 ≤ a1 ∧ a1 < (sh.2 (h a0 3)).2 then (if (24 : Int) = 0 then none else some ((0, q_rem (q_sub (q_add a2 (24 : Int)) (h (h a0 3) a1)) (24 : Int)), (sh, h))) else none) else none :=
  (q_unL hL_X2_sinceRise cu_X2_sinceRise 400 0 _ _ _).trans rfl
