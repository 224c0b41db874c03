def cu_X7_init : List Nat := [0, 9]
theorem hL_X7_init : q_P 64 = q_find P_X7_init := rfl
theorem c_X7_init (a0 : Int) (s : q_M) : q_Cc 64 [(17, a0)] s = q_L 64 0 [(17, a0)] [] s := rfl
set_option maxRecDepth 100000 in
theorem e_X7_init_0 (a0 : Int) (sh : Int × (Int → Nat × Int)) (h : Int → Int → Int) : q_L 64 0 [(17, a0)] [] (sh, h) = if 0 ≤ (24 : Int) ∧ (24 : Int) ≤ 10000 then (q_L 64 9 [(17, a0)] [(30, sh.1), (17, a0)] ((q_ms sh 30 (24 : Int)), (q_mh sh h (fun _ => 0)))) else none :=
  (q_unL hL_X7_init cu_X7_init 400 0 _ _ _).trans rfl
set_option maxRecDepth 100000 in
theorem e_X7_init_9 (a0 b0 b1 : Int) (sh : Int × (Int → Nat × Int)) (h : Int → Int → Int) : q_L 64 9 [(17, a0)] [(30, b1), (17, b0)] (sh, h) = if 0 ≤ b1 then (some ((9, 0), (sh, q_up h b0 2 b1))) else none :=
  (q_unL hL_X7_init cu_X7_init 400 9 _ _ _).trans rfl
def cu_X7_isMissing : List Nat := [0, 12]
theorem hL_X7_isMissing : q_P 65 = q_find P_X7_isMissing := rfl
theorem c_X7_isMissing (a0 : Int) (s : q_M) : q_Cc 65 [(17, a0)] s = q_L 65 0 [(17, a0)] [] s := rfl
set_option maxRecDepth 100000 in
theorem e_X7_isMissing_0 (a0 : Int) (sh : Int × (Int → Nat × Int)) (h : Int → Int → Int) : q_L 65 0 [(17, a0)] [] (sh, h) = if (h a0 0) = 0 then (q_L 65 12 [(17, a0)] [(0, 1)] (sh, h)) else (q_L 65 12 [(17, a0)] [(0, 0)] (sh, h)) :=
  (q_unL hL_X7_isMissing cu_X7_isMissing 400 0 _ _ _).trans rfl
set_option maxRecDepth 100000 in
theorem e_X7_isMissing_12 (a0 b0 : Int) (sh : Int × (Int → Nat × Int)) (h : Int → Int → Int) : q_L 65 12 [(17, a0)] [(0, b0)] (sh, h) = if b0 = 0 ∨ b0 = 1 then some ((0, b0), (sh, h)) else none :=
  (q_unL hL_X7_isMissing cu_X7_isMissing 400 12 _ _ _).trans rfl
def cu_X7_begin : List Nat := [0, 15, 20]
theorem hL_X7_begin : q_P 66 = q_find P_X7_begin := rfl
theorem c_X7_begin (a0 a1 a2 : Int) (s : q_M) : q_Cc 66 [(17, a0), (0, a1), (0, a2)] s = q_L 66 0 [(17, a0), (0, a1), (0, a2), (9, 0)] [] s := rfl
set_option maxRecDepth 100000 in
theorem e_X7_begin_0 (a0 a1 a2 : Int) (sh : Int × (Int → Nat × Int)) (h : Int → Int → Int) : q_L 66 0 [(17, a0), (0, a1), (0, a2), (9, 0)] [] (sh, h) = if a1 = 0 then (q_L 66 15 [(17, a0), (0, a1), (0, a2), (9, 0)] [(0, 0), (17, a0)] (sh, q_up h a0 0 a1)) else (q_L 66 15 [(17, a0), (0, a1), (0, a2), (9, 0)] [(0, a2), (17, a0)] (sh, q_up h a0 0 a1)) :=
  (q_unL hL_X7_begin cu_X7_begin 400 0 _ _ _).trans rfl
set_option maxRecDepth 100000 in
theorem e_X7_begin_15 (a0 a1 a2 b0 b1 : Int) (sh : Int × (Int → Nat × Int)) (h : Int → Int → Int) : q_L 66 15 [(17, a0), (0, a1), (0, a2), (9, 0)] [(0, b1), (17, b0)] (sh, h) = q_L 66 20 [(17, a0), (0, a1), (0, a2), (0, 0)] [] (sh, q_up h b0 1 b1) :=
  (q_unL hL_X7_begin cu_X7_begin 400 15 _ _ _).trans rfl
set_option maxRecDepth 100000 in
theorem e_X7_begin_20 (a0 a1 a2 a3 : Int) (sh : Int × (Int → Nat × Int)) (h : Int → Int → Int) : q_L 66 20 [(17, a0), (0, a1), (0, a2), (0, a3)] [] (sh, h) = if a3 < (24 : Int) then (if 0 ≤ h a0 2 then (if 0 ≤ a3 ∧ a3 < (sh.2 (h a0 2)).2 ∧ 0 ≤ (h a0 2) then (q_L 66 20 [(17, a0), (0, a1), (0, a2), (0, q_w (a3 + 1))] [] (sh, q_up h (h a0 2) a3 (0 : Int))) else none) else none) else (some ((0, h a0 1), (sh, h))) :=
  (q_unL hL_X7_begin cu_X7_begin 400 20 _ _ _).trans rfl
def cu_X7_set : List Nat := [0]
theorem hL_X7_set : q_P 67 = q_find P_X7_set := rfl
theorem c_X7_set (a0 a1 a2 : Int) (s : q_M) : q_Cc 67 [(17, a0), (0, a1), (0, a2)] s = q_L 67 0 [(17, a0), (0, a1), (0, a2), (9, 0)] [] s := rfl
set_option maxRecDepth 100000 in
theorem e_X7_set_0 (a0 a1 a2 : Int) (sh : Int × (Int → Nat × Int)) (h : Int → Int → Int) : q_L 67 0 [(17, a0), (0, a1), (0, a2), (9, 0)] [] (sh, h) = if 0 ≤ h a0 2 then (if 0 ≤ a1 ∧ a1 < (sh.2 (h a0 2)).2 ∧ 0 ≤ (h a0 2) then (some ((9, 0), (sh, q_up h (h a0 2) a1 (q_shr (q_shl a2 (q_sub (32 : Int) (h a0 0))) (q_sub (32 : Int) (h a0 0)))))) else none) else none :=
  (q_unL hL_X7_set cu_X7_set 400 0 _ _ _).trans rfl
def cu_X7_hasRange : List Nat := [0, 30, 31]
theorem hL_X7_hasRange : q_P 68 = q_find P_X7_hasRange := rfl
theorem c_X7_hasRange (a0 a1 a2 : Int) (s : q_M) : q_Cc 68 [(17, a0), (0, a1), (0, a2)] s = q_L 68 0 [(17, a0), (0, a1), (0, a2)] [] s := rfl
set_option maxRecDepth 100000 in
theorem e_X7_hasRange_0 (a0 a1 a2 : Int) (sh : Int × (Int → Nat × Int)) (h : Int → Int → Int) : q_L 68 0 [(17, a0), (0, a1), (0, a2)] [] (sh, h) = if a1 < 0 then (q_L 68 30 [(17, a0), (0, a1), (0, a2)] [] (sh, h)) else (if a2 < 0 then (q_L 68 30 [(17, a0), (0, a1), (0, a2)] [] (sh, h)) else (if (h a0 1) < a2 then (q_L 68 30 [(17, a0), (0, a1), (0, a2)] [] (sh, h)) else (if (q_sub (h a0 1) a2) < a1 then (q_L 68 30 [(17, a0), (0, a1), (0, a2)] [] (sh, h)) else (q_L 68 31 [(17, a0), (0, a1), (0, a2)] [(0, 1)] (sh, h))))) :=
  (q_unL hL_X7_hasRange cu_X7_hasRange 400 0 _ _ _).trans rfl
set_option maxRecDepth 100000 in
theorem e_X7_hasRange_30 (a0 a1 a2 : Int) (sh : Int × (Int → Nat × Int)) (h : Int → Int → Int) : q_L 68 30 [(17, a0), (0, a1), (0, a2)] [] (sh, h) = q_L 68 31 [(17, a0), (0, a1), (0, a2)] [(0, 0)] (sh, h) :=
  (q_unL hL_X7_hasRange cu_X7_hasRange 400 30 _ _ _).trans rfl
set_option maxRecDepth 100000 in
theorem e_X7_hasRange_31 (a0 a1 a2 b0 : Int) (sh : Int × (Int → Nat × Int)) (h : Int → Int → Int) : q_L 68 31 [(17, a0), (0, a1), (0, a2)] [(0, b0)] (sh, h) = if b0 = 0 ∨ b0 = 1 then some ((0, b0), (sh, h)) else none :=
  (q_unL hL_X7_hasRange cu_X7_hasRange 400 31 _ _ _).trans rfl
