def cu_X8_init : List Nat := [0, 9]
theorem hL_X8_init : q_P 69 = q_find P_X8_init := rfl
theorem c_X8_init (a0 : Int) (s : q_M) : q_Cc 69 [(18, a0)] s = q_L 69 0 [(18, a0)] [] s := rfl
set_option maxRecDepth 100000 in
theorem e_X8_init_0 (a0 : Int) (sh : Int × (Int → Nat × Int)) (h : Int → Int → Int) : q_L 69 0 [(18, a0)] [] (sh, h) = if 0 ≤ (8 : Int) ∧ (8 : Int) ≤ 10000 then (q_L 69 9 [(18, a0)] [(30, sh.1), (18, a0)] ((q_ms sh 30 (8 : Int)), (q_mh sh h (fun _ => 0)))) else none :=
  (q_unL hL_X8_init cu_X8_init 400 0 _ _ _).trans rfl
set_option maxRecDepth 100000 in
theorem e_X8_init_9 (a0 b0 b1 : Int) (sh : Int × (Int → Nat × Int)) (h : Int → Int → Int) : q_L 69 9 [(18, a0)] [(30, b1), (18, b0)] (sh, h) = if 0 ≤ b1 then (some ((9, 0), (sh, q_up h b0 0 b1))) else none :=
  (q_unL hL_X8_init cu_X8_init 400 9 _ _ _).trans rfl
def cu_X8_begin : List Nat := [0, 7]
theorem hL_X8_begin : q_P 70 = q_find P_X8_begin := rfl
theorem c_X8_begin (a0 : Int) (s : q_M) : q_Cc 70 [(18, a0)] s = q_L 70 0 [(18, a0), (9, 0)] [] s := rfl
set_option maxRecDepth 100000 in
theorem e_X8_begin_0 (a0 : Int) (sh : Int × (Int → Nat × Int)) (h : Int → Int → Int) : q_L 70 0 [(18, a0), (9, 0)] [] (sh, h) = q_L 70 7 [(18, a0), (0, 0)] [] (sh, q_up h a0 1 (0 : Int)) :=
  (q_unL hL_X8_begin cu_X8_begin 400 0 _ _ _).trans rfl
set_option maxRecDepth 100000 in
theorem e_X8_begin_7 (a0 a1 : Int) (sh : Int × (Int → Nat × Int)) (h : Int → Int → Int) : q_L 70 7 [(18, a0), (0, a1)] [] (sh, h) = if a1 < (8 : Int) then (if 0 ≤ h a0 0 then (if 0 ≤ a1 ∧ a1 < (sh.2 (h a0 0)).2 ∧ 0 ≤ (h a0 0) then (q_L 70 7 [(18, a0), (0, q_w (a1 + 1))] [] (sh, q_up h (h a0 0) a1 a1)) else none) else none) else (some ((9, 0), (sh, h))) :=
  (q_unL hL_X8_begin cu_X8_begin 400 7 _ _ _).trans rfl
def cu_X8_become : List Nat := [0, 23]
theorem hL_X8_become : q_P 71 = q_find P_X8_become := rfl
theorem c_X8_become (a0 a1 : Int) (s : q_M) : q_Cc 71 [(18, a0), (18, a1)] s = q_L 71 0 [(18, a0), (18, a1)] [] s := rfl
set_option maxRecDepth 100000 in
theorem e_X8_become_0 (a0 a1 : Int) (sh : Int × (Int → Nat × Int)) (h : Int → Int → Int) : q_L 71 0 [(18, a0), (18, a1)] [] (sh, h) = if 0 ≤ (q_up h a0 1 (h a1 1)) a1 0 then (if 0 ≤ (q_up h a0 1 (h a1 1)) a0 0 then (if 0 ≤ (0 : Int) ∧ 0 ≤ (0 : Int) ∧ 0 ≤ (8 : Int) ∧ (0 : Int) + (8 : Int) ≤ (sh.2 ((q_up h a0 1 (h a1 1)) a1 0)).2 ∧ (0 : Int) + (8 : Int) ≤ (sh.2 ((q_up h a0 1 (h a1 1)) a0 0)).2 ∧ 0 ≤ ((q_up h a0 1 (h a1 1)) a1 0) ∧ 0 ≤ ((q_up h a0 1 (h a1 1)) a0 0) then (q_L 71 23 [(18, a0), (18, a1)] [] (sh, q_cp (q_up h a0 1 (h a1 1)) ((q_up h a0 1 (h a1 1)) a1 0) (0 : Int) ((q_up h a0 1 (h a1 1)) a0 0) (0 : Int) (8 : Int))) else none) else none) else none :=
  (q_unL hL_X8_become cu_X8_become 400 0 _ _ _).trans rfl
set_option maxRecDepth 100000 in
theorem e_X8_become_23 (a0 a1 : Int) (sh : Int × (Int → Nat × Int)) (h : Int → Int → Int) : q_L 71 23 [(18, a0), (18, a1)] [] (sh, h) = some ((9, 0), (sh, h)) :=
  (q_unL hL_X8_become cu_X8_become 400 23 _ _ _).trans rfl
def cu_X8_setState : List Nat := [0, 41]
theorem hL_X8_setState : q_P 72 = q_find P_X8_setState := rfl
theorem c_X8_setState (a0 a1 a2 a3 : Int) (s : q_M) : q_Cc 72 [(18, a0), (0, a1), (0, a2), (0, a3)] s = q_L 72 0 [(18, a0), (0, a1), (0, a2), (0, a3), (9, 0)] [] s := rfl
set_option maxRecDepth 100000 in
theorem e_X8_setState_0 (a0 a1 a2 a3 : Int) (sh : Int × (Int → Nat × Int)) (h : Int → Int → Int) : q_L 72 0 [(18, a0), (0, a1), (0, a2), (0, a3), (9, 0)] [] (sh, h) = if 0 ≤ h a0 0 then (if 0 ≤ a1 ∧ a1 < (sh.2 (h a0 0)).2 then (if 0 ≤ h a0 0 then (if 0 ≤ a1 ∧ a1 < (sh.2 (h a0 0)).2 ∧ 0 ≤ (h a0 0) then (if a3 = 0 then (q_L 72 41 [(18, a0), (0, a1), (0, a2), (0, a3), (0, h (h a0 0) a1)] [(0, q_and ((q_up h (h a0 0) a1 a2) a0 1) (q_xor (q_shl (1 : Int) a1) (-1 : Int))), (18, a0)] (sh, q_up h (h a0 0) a1 a2)) else (q_L 72 41 [(18, a0), (0, a1), (0, a2), (0, a3), (0, h (h a0 0) a1)] [(0, q_or ((q_up h (h a0 0) a1 a2) a0 1) (q_shl (1 : Int) a1)), (18, a0)] (sh, q_up h (h a0 0) a1 a2))) else none) else none) else none) else none :=
  (q_unL hL_X8_setState cu_X8_setState 400 0 _ _ _).trans rfl
set_option maxRecDepth 100000 in
theorem e_X8_setState_41 (a0 a1 a2 a3 a4 b0 b1 : Int) (sh : Int × (Int → Nat × Int)) (h : Int → Int → Int) : q_L 72 41 [(18, a0), (0, a1), (0, a2), (0, a3), (0, a4)] [(0, b1), (18, b0)] (sh, h) = some ((0, a4), (sh, q_up h b0 1 b1)) :=
  (q_unL hL_X8_setState cu_X8_setState 400 41 _ _ _).trans rfl
def cu_X8_daysFrom : List Nat := [0, 4]
theorem hL_X8_daysFrom : q_P 73 = q_find P_X8_daysFrom := rfl
theorem c_X8_daysFrom (a0 a1 : Int) (s : q_M) : q_Cc 73 [(18, a0), (0, a1)] s = q_L 73 0 [(18, a0), (0, a1), (9, 0), (9, 0)] [] s := rfl
set_option maxRecDepth 100000 in
theorem e_X8_daysFrom_0 (a0 a1 : Int) (sh : Int × (Int → Nat × Int)) (h : Int → Int → Int) : q_L 73 0 [(18, a0), (0, a1), (9, 0), (9, 0)] [] (sh, h) = q_L 73 4 [(18, a0), (0, a1), (0, a1), (0, 0)] [] (sh, h) :=
  (q_unL hL_X8_daysFrom cu_X8_daysFrom 400 0 _ _ _).trans rfl
set_option maxRecDepth 100000 in
theorem e_X8_daysFrom_4 (a0 a1 a2 a3 : Int) (sh : Int × (Int → Nat × Int)) (h : Int → Int → Int) : q_L 73 4 [(18, a0), (0, a1), (0, a2), (0, a3)] [] (sh, h) = if a3 < (8 : Int) then (if (q_and (q_shr (h a0 1) a2) (1 : Int)) = (1 : Int) then (some ((0, a3), (sh, h))) else (if 0 ≤ h a0 0 then (if 0 ≤ a2 ∧ a2 < (sh.2 (h a0 0)).2 then (q_L 73 4 [(18, a0), (0, a1), (0, h (h a0 0) a2), (0, q_w (a3 + 1))] [] (sh, h)) else none) else none)) else (some ((0, (-1)), (sh, h))) :=
  (q_unL hL_X8_daysFrom cu_X8_daysFrom 400 4 _ _ _).trans rfl
def cu_X8_neverHeard : List Nat := [0, 4, 15, 24]
theorem hL_X8_neverHeard : q_P 74 = q_find P_X8_neverHeard := rfl
theorem c_X8_neverHeard (a0 : Int) (s : q_M) : q_Cc 74 [(18, a0)] s = q_L 74 0 [(18, a0), (9, 0), (9, 0)] [] s := rfl
set_option maxRecDepth 100000 in
theorem e_X8_neverHeard_0 (a0 : Int) (sh : Int × (Int → Nat × Int)) (h : Int → Int → Int) : q_L 74 0 [(18, a0), (9, 0), (9, 0)] [] (sh, h) = q_L 74 4 [(18, a0), (0, 0), (0, 0)] [] (sh, h) :=
  (q_unL hL_X8_neverHeard cu_X8_neverHeard 400 0 _ _ _).trans rfl
set_option maxRecDepth 100000 in
theorem e_X8_neverHeard_4 (a0 a1 a2 : Int) (sh : Int × (Int → Nat × Int)) (h : Int → Int → Int) : q_L 74 4 [(18, a0), (0, a1), (0, a2)] [] (sh, h) = if a2 < (8 : Int) then ((q_Cc 73 [(18, a0), (0, a2)] (sh, h)).bind (fun r => q_L 74 15 [(18, a0), (0, a1), (0, a2)] [r.1] r.2)) else (some ((0, a1), (sh, h))) :=
  (q_unL hL_X8_neverHeard cu_X8_neverHeard 400 4 _ _ _).trans rfl
set_option maxRecDepth 100000 in
theorem e_X8_neverHeard_15 (a0 a1 a2 b0 : Int) (sh : Int × (Int → Nat × Int)) (h : Int → Int → Int) : q_L 74 15 [(18, a0), (0, a1), (0, a2)] [(0, b0)] (sh, h) = if b0 < 0 then (q_L 74 24 [(18, a0), (0, q_or a1 (q_shl (1 : Int) a2)), (0, a2)] [] (sh, h)) else (q_L 74 24 [(18, a0), (0, a1), (0, a2)] [] (sh, h)) :=
  (q_unL hL_X8_neverHeard cu_X8_neverHeard 400 15 _ _ _).trans rfl
set_option maxRecDepth 100000 in
theorem e_X8_neverHeard_24 (a0 a1 a2 : Int) (sh : Int × (Int → Nat × Int)) (h : Int → Int → Int) : q_L 74 24 [(18, a0), (0, a1), (0, a2)] [] (sh, h) = q_L 74 4 [(18, a0), (0, a1), (0, q_w (a2 + 1))] [] (sh, h) :=
  (q_unL hL_X8_neverHeard cu_X8_neverHeard 400 24 _ _ _).trans rfl
