def cu_X12_isOrder : List Nat := [0, 5, 25, 32, 33]
theorem hL_X12_isOrder : q_P 233 = q_find P_X12_isOrder := rfl
theorem c_X12_isOrder (a0 a1 a2 : Int) (s : q_M) : q_Cc 233 [(22, a0), (0, a1), (0, a2)] s = q_L 233 0 [(22, a0), (0, a1), (0, a2)] [] s := rfl
set_option maxRecDepth 100000 in
theorem e_X12_isOrder_0 (a0 a1 a2 : Int) (sh : Int × (Int → Nat × Int)) (h : Int → Int → Int) : q_L 233 0 [(22, a0), (0, a1), (0, a2)] [] (sh, h) = (q_Cc 165 [(22, a0), (0, a1)] (sh, h)).bind (fun r => q_L 233 5 [(22, a0), (0, a1), (0, a2)] [r.1] r.2) :=
  (q_unL hL_X12_isOrder cu_X12_isOrder 400 0 _ _ _).trans rfl
set_option maxRecDepth 100000 in
theorem e_X12_isOrder_5 (a0 a1 a2 b0 : Int) (sh : Int × (Int → Nat × Int)) (h : Int → Int → Int) : q_L 233 5 [(22, a0), (0, a1), (0, a2)] [(0, b0)] (sh, h) = if b0 = 0 then (q_L 233 32 [(22, a0), (0, a1), (0, a2)] [] (sh, h)) else (if 0 ≤ h a0 0 then (if 0 ≤ (q_add (148 : Int) a1) ∧ (q_add (148 : Int) a1) < (sh.2 (h a0 0)).2 then ((q_Cc 162 [(0, a2), (0, 0), (0, q_sub (h (h a0 0) (q_add (148 : Int) a1)) (1 : Int))] (sh, h)).bind (fun r => q_L 233 25 [(22, a0), (0, a1), (0, a2)] [r.1] r.2)) else none) else none) :=
  (q_unL hL_X12_isOrder cu_X12_isOrder 400 5 _ _ _).trans rfl
set_option maxRecDepth 100000 in
theorem e_X12_isOrder_25 (a0 a1 a2 b0 : Int) (sh : Int × (Int → Nat × Int)) (h : Int → Int → Int) : q_L 233 25 [(22, a0), (0, a1), (0, a2)] [(0, b0)] (sh, h) = if b0 = 0 then (q_L 233 32 [(22, a0), (0, a1), (0, a2)] [] (sh, h)) else (q_L 233 33 [(22, a0), (0, a1), (0, a2)] [(0, 1)] (sh, h)) :=
  (q_unL hL_X12_isOrder cu_X12_isOrder 400 25 _ _ _).trans rfl
set_option maxRecDepth 100000 in
theorem e_X12_isOrder_32 (a0 a1 a2 : Int) (sh : Int × (Int → Nat × Int)) (h : Int → Int → Int) : q_L 233 32 [(22, a0), (0, a1), (0, a2)] [] (sh, h) = q_L 233 33 [(22, a0), (0, a1), (0, a2)] [(0, 0)] (sh, h) :=
  (q_unL hL_X12_isOrder cu_X12_isOrder 400 32 _ _ _).trans rfl
set_option maxRecDepth 100000 in
theorem e_X12_isOrder_33 (a0 a1 a2 b0 : Int) (sh : Int × (Int → Nat × Int)) (h : Int → Int → Int) : q_L 233 33 [(22, a0), (0, a1), (0, a2)] [(0, b0)] (sh, h) = if b0 = 0 ∨ b0 = 1 then some ((0, b0), (sh, h)) else none :=
  (q_unL hL_X12_isOrder cu_X12_isOrder 400 33 _ _ _).trans rfl
def cu_X12_again : List Nat := [0, 6, 15, 68, 74]
theorem hL_X12_again : q_P 234 = q_find P_X12_again := rfl
theorem c_X12_again (a0 a1 a2 : Int) (s : q_M) : q_Cc 234 [(22, a0), (0, a1), (0, a2)] s = q_L 234 0 [(22, a0), (0, a1), (0, a2), (9, 0)] [] s := rfl
set_option maxRecDepth 100000 in
theorem e_X12_again_0 (a0 a1 a2 : Int) (sh : Int × (Int → Nat × Int)) (h : Int → Int → Int) : q_L 234 0 [(22, a0), (0, a1), (0, a2), (9, 0)] [] (sh, h) = (q_Cc 233 [(22, a0), (0, a1), (0, a2)] (sh, h)).bind (fun r => q_L 234 6 [(22, a0), (0, a1), (0, a2), (9, 0)] [r.1] r.2) :=
  (q_unL hL_X12_again cu_X12_again 400 0 _ _ _).trans rfl
set_option maxRecDepth 100000 in
theorem e_X12_again_6 (a0 a1 a2 b0 : Int) (sh : Int × (Int → Nat × Int)) (h : Int → Int → Int) : q_L 234 6 [(22, a0), (0, a1), (0, a2), (9, 0)] [(0, b0)] (sh, h) = if b0 = 0 then ((q_Cc 161 [(22, a0), (0, (-1000001))] (sh, h)).bind (fun r => q_L 234 15 [(22, a0), (0, a1), (0, a2), (9, 0)] [r.1] r.2)) else (if 0 ≤ h a0 0 then (if 0 ≤ (q_add (618 : Int) (q_add (q_mul (12 : Int) a1) a2)) ∧ (q_add (618 : Int) (q_add (q_mul (12 : Int) a1) a2)) < (sh.2 (h a0 0)).2 then (if (h (h a0 0) (q_add (618 : Int) (q_add (q_mul (12 : Int) a1) a2))) < 0 then (if 0 ≤ h a0 0 then (if 0 ≤ (q_add (522 : Int) (q_add (q_mul (12 : Int) a1) a2)) ∧ (q_add (522 : Int) (q_add (q_mul (12 : Int) a1) a2)) < (sh.2 (h a0 0)).2 then (if 0 ≤ h a0 0 then (if 0 ≤ (0 : Int) ∧ (0 : Int) < (sh.2 (h a0 0)).2 then (if (h (h a0 0) (q_add (522 : Int) (q_add (q_mul (12 : Int) a1) a2))) = (h (h a0 0) (0 : Int)) then (q_L 234 68 [(22, a0), (0, a1), (0, a2), (0, q_add (q_mul (12 : Int) a1) a2)] [] (sh, h)) else (if 0 ≤ h a0 0 then (if 0 ≤ (q_add (810 : Int) (q_add (q_mul (12 : Int) a1) a2)) ∧ (q_add (810 : Int) (q_add (q_mul (12 : Int) a1) a2)) < (sh.2 (h a0 0)).2 then (if (h (h a0 0) (q_add (810 : Int) (q_add (q_mul (12 : Int) a1) a2))) = 0 then (if 0 ≤ h a0 0 then (if 0 ≤ h a0 0 then (if 0 ≤ (0 : Int) ∧ (0 : Int) < (sh.2 (h a0 0)).2 then (if 0 ≤ (q_add (618 : Int) (q_add (q_mul (12 : Int) a1) a2)) ∧ (q_add (618 : Int) (q_add (q_mul (12 : Int) a1) a2)) < (sh.2 (h a0 0)).2 ∧ 0 ≤ (h a0 0) then (some ((0, 1), (sh, q_up h (h a0 0) (q_add (618 : Int) (q_add (q_mul (12 : Int) a1) a2)) (h (h a0 0) (0 : Int))))) else none) else none) else none) else none) else (q_L 234 68 [(22, a0), (0, a1), (0, a2), (0, q_add (q_mul (12 : Int) a1) a2)] [] (sh, h))) else none) else none)) else none) else none) else none) else none) else (q_L 234 68 [(22, a0), (0, a1), (0, a2), (0, q_add (q_mul (12 : Int) a1) a2)] [] (sh, h))) else none) else none) :=
  (q_unL hL_X12_again cu_X12_again 400 6 _ _ _).trans rfl
set_option maxRecDepth 100000 in
theorem e_X12_again_15 (a0 a1 a2 b0 : Int) (sh : Int × (Int → Nat × Int)) (h : Int → Int → Int) : q_L 234 15 [(22, a0), (0, a1), (0, a2), (9, 0)] [(0, b0)] (sh, h) = some ((0, b0), (sh, h)) :=
  (q_unL hL_X12_again cu_X12_again 400 15 _ _ _).trans rfl
set_option maxRecDepth 100000 in
theorem e_X12_again_68 (a0 a1 a2 a3 : Int) (sh : Int × (Int → Nat × Int)) (h : Int → Int → Int) : q_L 234 68 [(22, a0), (0, a1), (0, a2), (0, a3)] [] (sh, h) = (q_Cc 161 [(22, a0), (0, (-1000005))] (sh, h)).bind (fun r => q_L 234 74 [(22, a0), (0, a1), (0, a2), (0, a3)] [r.1] r.2) :=
  (q_unL hL_X12_again cu_X12_again 400 68 _ _ _).trans rfl
set_option maxRecDepth 100000 in
theorem e_X12_again_74 (a0 a1 a2 a3 b0 : Int) (sh : Int × (Int → Nat × Int)) (h : Int → Int → Int) : q_L 234 74 [(22, a0), (0, a1), (0, a2), (0, a3)] [(0, b0)] (sh, h) = some ((0, b0), (sh, h)) :=
  (q_unL hL_X12_again cu_X12_again 400 74 _ _ _).trans rfl
def cu_X12_orderIs : List Nat := [0, 6, 15, 41, 47]
theorem hL_X12_orderIs : q_P 235 = q_find P_X12_orderIs := rfl
theorem c_X12_orderIs (a0 a1 a2 a3 : Int) (s : q_M) : q_Cc 235 [(22, a0), (0, a1), (0, a2), (0, a3)] s = q_L 235 0 [(22, a0), (0, a1), (0, a2), (0, a3)] [] s := rfl
set_option maxRecDepth 100000 in
theorem e_X12_orderIs_0 (a0 a1 a2 a3 : Int) (sh : Int × (Int → Nat × Int)) (h : Int → Int → Int) : q_L 235 0 [(22, a0), (0, a1), (0, a2), (0, a3)] [] (sh, h) = (q_Cc 233 [(22, a0), (0, a1), (0, a2)] (sh, h)).bind (fun r => q_L 235 6 [(22, a0), (0, a1), (0, a2), (0, a3)] [r.1] r.2) :=
  (q_unL hL_X12_orderIs cu_X12_orderIs 400 0 _ _ _).trans rfl
set_option maxRecDepth 100000 in
theorem e_X12_orderIs_6 (a0 a1 a2 a3 b0 : Int) (sh : Int × (Int → Nat × Int)) (h : Int → Int → Int) : q_L 235 6 [(22, a0), (0, a1), (0, a2), (0, a3)] [(0, b0)] (sh, h) = if b0 = 0 then (q_L 235 41 [(22, a0), (0, a1), (0, a2), (0, a3)] [] (sh, h)) else ((q_Cc 162 [(0, a3), (0, 0), (0, 4)] (sh, h)).bind (fun r => q_L 235 15 [(22, a0), (0, a1), (0, a2), (0, a3)] [r.1] r.2)) :=
  (q_unL hL_X12_orderIs cu_X12_orderIs 400 6 _ _ _).trans rfl
set_option maxRecDepth 100000 in
theorem e_X12_orderIs_15 (a0 a1 a2 a3 b0 : Int) (sh : Int × (Int → Nat × Int)) (h : Int → Int → Int) : q_L 235 15 [(22, a0), (0, a1), (0, a2), (0, a3)] [(0, b0)] (sh, h) = if b0 = 0 then (q_L 235 41 [(22, a0), (0, a1), (0, a2), (0, a3)] [] (sh, h)) else (if 0 ≤ h a0 0 then (if 0 ≤ (q_add (q_add (q_add (522 : Int) (q_mul (96 : Int) a3)) (q_mul (12 : Int) a1)) a2) ∧ (q_add (q_add (q_add (522 : Int) (q_mul (96 : Int) a3)) (q_mul (12 : Int) a1)) a2) < (sh.2 (h a0 0)).2 then (q_L 235 47 [(22, a0), (0, a1), (0, a2), (0, a3)] [(0, h (h a0 0) (q_add (q_add (q_add (522 : Int) (q_mul (96 : Int) a3)) (q_mul (12 : Int) a1)) a2))] (sh, h)) else none) else none) :=
  (q_unL hL_X12_orderIs cu_X12_orderIs 400 15 _ _ _).trans rfl
set_option maxRecDepth 100000 in
theorem e_X12_orderIs_41 (a0 a1 a2 a3 : Int) (sh : Int × (Int → Nat × Int)) (h : Int → Int → Int) : q_L 235 41 [(22, a0), (0, a1), (0, a2), (0, a3)] [] (sh, h) = (q_Cc 161 [(22, a0), (0, (-1000001))] (sh, h)).bind (fun r => q_L 235 47 [(22, a0), (0, a1), (0, a2), (0, a3)] [r.1] r.2) :=
  (q_unL hL_X12_orderIs cu_X12_orderIs 400 41 _ _ _).trans rfl
set_option maxRecDepth 100000 in
theorem e_X12_orderIs_47 (a0 a1 a2 a3 b0 : Int) (sh : Int × (Int → Nat × Int)) (h : Int → Int → Int) : q_L 235 47 [(22, a0), (0, a1), (0, a2), (0, a3)] [(0, b0)] (sh, h) = some ((0, b0), (sh, h)) :=
  (q_unL hL_X12_orderIs cu_X12_orderIs 400 47 _ _ _).trans rfl
def cu_X12_isTableState : List Nat := [0, 7]
theorem hL_X12_isTableState : q_P 236 = q_find P_X12_isTableState := rfl
theorem c_X12_isTableState (a0 : Int) (s : q_M) : q_Cc 236 [(0, a0)] s = q_L 236 0 [(0, a0)] [] s := rfl
set_option maxRecDepth 100000 in
theorem e_X12_isTableState_0 (a0 : Int) (sh : Int × (Int → Nat × Int)) (h : Int → Int → Int) : q_L 236 0 [(0, a0)] [] (sh, h) = (q_Cc 162 [(0, a0), (0, 0), (0, 7)] (sh, h)).bind (fun r => q_L 236 7 [(0, a0)] [r.1] r.2) :=
  (q_unL hL_X12_isTableState cu_X12_isTableState 400 0 _ _ _).trans rfl
set_option maxRecDepth 100000 in
theorem e_X12_isTableState_7 (a0 b0 : Int) (sh : Int × (Int → Nat × Int)) (h : Int → Int → Int) : q_L 236 7 [(0, a0)] [(0, b0)] (sh, h) = if b0 = 0 ∨ b0 = 1 then some ((0, b0), (sh, h)) else none :=
  (q_unL hL_X12_isTableState cu_X12_isTableState 400 7 _ _ _).trans rfl
def cu_X12_table : List Nat := [0, 5, 12, 19, 22, 28, 53, 69]
theorem hL_X12_table : q_P 237 = q_find P_X12_table := rfl
theorem c_X12_table (a0 a1 a2 a3 a4 : Int) (s : q_M) : q_Cc 237 [(22, a0), (0, a1), (0, a2), (0, a3), (0, a4)] s = q_L 237 0 [(22, a0), (0, a1), (0, a2), (0, a3), (0, a4)] [] s := rfl
set_option maxRecDepth 100000 in
theorem e_X12_table_0 (a0 a1 a2 a3 a4 : Int) (sh : Int × (Int → Nat × Int)) (h : Int → Int → Int) : q_L 237 0 [(22, a0), (0, a1), (0, a2), (0, a3), (0, a4)] [] (sh, h) = (q_Cc 165 [(22, a0), (0, a1)] (sh, h)).bind (fun r => q_L 237 5 [(22, a0), (0, a1), (0, a2), (0, a3), (0, a4)] [r.1] r.2) :=
  (q_unL hL_X12_table cu_X12_table 400 0 _ _ _).trans rfl
set_option maxRecDepth 100000 in
theorem e_X12_table_5 (a0 a1 a2 a3 a4 b0 : Int) (sh : Int × (Int → Nat × Int)) (h : Int → Int → Int) : q_L 237 5 [(22, a0), (0, a1), (0, a2), (0, a3), (0, a4)] [(0, b0)] (sh, h) = if b0 = 0 then (q_L 237 22 [(22, a0), (0, a1), (0, a2), (0, a3), (0, a4)] [] (sh, h)) else ((q_Cc 236 [(0, a2)] (sh, h)).bind (fun r => q_L 237 12 [(22, a0), (0, a1), (0, a2), (0, a3), (0, a4)] [r.1] r.2)) :=
  (q_unL hL_X12_table cu_X12_table 400 5 _ _ _).trans rfl
set_option maxRecDepth 100000 in
theorem e_X12_table_12 (a0 a1 a2 a3 a4 b0 : Int) (sh : Int × (Int → Nat × Int)) (h : Int → Int → Int) : q_L 237 12 [(22, a0), (0, a1), (0, a2), (0, a3), (0, a4)] [(0, b0)] (sh, h) = if b0 = 0 then (q_L 237 22 [(22, a0), (0, a1), (0, a2), (0, a3), (0, a4)] [] (sh, h)) else ((q_Cc 236 [(0, a3)] (sh, h)).bind (fun r => q_L 237 19 [(22, a0), (0, a1), (0, a2), (0, a3), (0, a4)] [r.1] r.2)) :=
  (q_unL hL_X12_table cu_X12_table 400 12 _ _ _).trans rfl
set_option maxRecDepth 100000 in
theorem e_X12_table_19 (a0 a1 a2 a3 a4 b0 : Int) (sh : Int × (Int → Nat × Int)) (h : Int → Int → Int) : q_L 237 19 [(22, a0), (0, a1), (0, a2), (0, a3), (0, a4)] [(0, b0)] (sh, h) = if b0 = 0 then (q_L 237 22 [(22, a0), (0, a1), (0, a2), (0, a3), (0, a4)] [] (sh, h)) else (if 0 ≤ h a0 0 then (if a4 = 0 then (q_L 237 53 [(22, a0), (0, a1), (0, a2), (0, a3), (0, a4)] [(0, 0), (0, q_add (q_add (1162 : Int) (q_mul (8 : Int) a1)) a2), (30, h a0 0)] (sh, h)) else (q_L 237 53 [(22, a0), (0, a1), (0, a2), (0, a3), (0, a4)] [(0, 1), (0, q_add (q_add (1162 : Int) (q_mul (8 : Int) a1)) a2), (30, h a0 0)] (sh, h))) else none) :=
  (q_unL hL_X12_table cu_X12_table 400 19 _ _ _).trans rfl
set_option maxRecDepth 100000 in
theorem e_X12_table_22 (a0 a1 a2 a3 a4 : Int) (sh : Int × (Int → Nat × Int)) (h : Int → Int → Int) : q_L 237 22 [(22, a0), (0, a1), (0, a2), (0, a3), (0, a4)] [] (sh, h) = (q_Cc 161 [(22, a0), (0, (-1000001))] (sh, h)).bind (fun r => q_L 237 28 [(22, a0), (0, a1), (0, a2), (0, a3), (0, a4)] [r.1] r.2) :=
  (q_unL hL_X12_table cu_X12_table 400 22 _ _ _).trans rfl
set_option maxRecDepth 100000 in
theorem e_X12_table_28 (a0 a1 a2 a3 a4 b0 : Int) (sh : Int × (Int → Nat × Int)) (h : Int → Int → Int) : q_L 237 28 [(22, a0), (0, a1), (0, a2), (0, a3), (0, a4)] [(0, b0)] (sh, h) = some ((0, b0), (sh, h)) :=
  (q_unL hL_X12_table cu_X12_table 400 28 _ _ _).trans rfl
set_option maxRecDepth 100000 in
theorem e_X12_table_53 (a0 a1 a2 a3 a4 b0 b1 b2 : Int) (sh : Int × (Int → Nat × Int)) (h : Int → Int → Int) : q_L 237 53 [(22, a0), (0, a1), (0, a2), (0, a3), (0, a4)] [(0, b2), (0, b1), (30, b0)] (sh, h) = if 0 ≤ b1 ∧ b1 < (sh.2 b0).2 ∧ 0 ≤ b0 then ((q_Cc 168 [(22, a0), (0, q_add (q_add (1098 : Int) (q_mul (8 : Int) a1)) a2), (0, a3)] (sh, q_up h b0 b1 b2)).bind (fun r => q_L 237 69 [(22, a0), (0, a1), (0, a2), (0, a3), (0, a4)] [r.1] r.2)) else none :=
  (q_unL hL_X12_table cu_X12_table 400 53 _ _ _).trans rfl
set_option maxRecDepth 100000 in
theorem e_X12_table_69 (a0 a1 a2 a3 a4 b0 : Int) (sh : Int × (Int → Nat × Int)) (h : Int → Int → Int) : q_L 237 69 [(22, a0), (0, a1), (0, a2), (0, a3), (0, a4)] [(0, b0)] (sh, h) = some ((0, b0), (sh, h)) :=
  (q_unL hL_X12_table cu_X12_table 400 69 _ _ _).trans rfl
def cu_X12_daysOf : List Nat := [0, 5]
theorem hL_X12_daysOf : q_P 238 = q_find P_X12_daysOf := rfl
theorem c_X12_daysOf (a0 a1 a2 : Int) (s : q_M) : q_Cc 238 [(22, a0), (0, a1), (0, a2)] s = q_L 238 0 [(22, a0), (0, a1), (0, a2), (9, 0), (9, 0)] [] s := rfl
set_option maxRecDepth 100000 in
theorem e_X12_daysOf_0 (a0 a1 a2 : Int) (sh : Int × (Int → Nat × Int)) (h : Int → Int → Int) : q_L 238 0 [(22, a0), (0, a1), (0, a2), (9, 0), (9, 0)] [] (sh, h) = q_L 238 5 [(22, a0), (0, a1), (0, a2), (0, a2), (0, 0)] [] (sh, h) :=
  (q_unL hL_X12_daysOf cu_X12_daysOf 400 0 _ _ _).trans rfl
set_option maxRecDepth 100000 in
theorem e_X12_daysOf_5 (a0 a1 a2 a3 a4 : Int) (sh : Int × (Int → Nat × Int)) (h : Int → Int → Int) : q_L 238 5 [(22, a0), (0, a1), (0, a2), (0, a3), (0, a4)] [] (sh, h) = if a4 < (8 : Int) then (if 0 ≤ h a0 0 then (if 0 ≤ (q_add (q_add (1162 : Int) (q_mul (8 : Int) a1)) a3) ∧ (q_add (q_add (1162 : Int) (q_mul (8 : Int) a1)) a3) < (sh.2 (h a0 0)).2 then (if (h (h a0 0) (q_add (q_add (1162 : Int) (q_mul (8 : Int) a1)) a3)) = (1 : Int) then (some ((0, a4), (sh, h))) else (if 0 ≤ h a0 0 then (if 0 ≤ (q_add (q_add (1098 : Int) (q_mul (8 : Int) a1)) a3) ∧ (q_add (q_add (1098 : Int) (q_mul (8 : Int) a1)) a3) < (sh.2 (h a0 0)).2 then (q_L 238 5 [(22, a0), (0, a1), (0, a2), (0, h (h a0 0) (q_add (q_add (1098 : Int) (q_mul (8 : Int) a1)) a3)), (0, q_w (a4 + 1))] [] (sh, h)) else none) else none)) else none) else none) else (some ((0, (-1)), (sh, h))) :=
  (q_unL hL_X12_daysOf cu_X12_daysOf 400 5 _ _ _).trans rfl
def cu_X12_silence : List Nat := [0, 5, 12, 15, 21, 28, 39, 43]
theorem hL_X12_silence : q_P 239 = q_find P_X12_silence := rfl
theorem c_X12_silence (a0 a1 a2 : Int) (s : q_M) : q_Cc 239 [(22, a0), (0, a1), (0, a2)] s = q_L 239 0 [(22, a0), (0, a1), (0, a2), (9, 0)] [] s := rfl
set_option maxRecDepth 100000 in
theorem e_X12_silence_0 (a0 a1 a2 : Int) (sh : Int × (Int → Nat × Int)) (h : Int → Int → Int) : q_L 239 0 [(22, a0), (0, a1), (0, a2), (9, 0)] [] (sh, h) = (q_Cc 165 [(22, a0), (0, a1)] (sh, h)).bind (fun r => q_L 239 5 [(22, a0), (0, a1), (0, a2), (9, 0)] [r.1] r.2) :=
  (q_unL hL_X12_silence cu_X12_silence 400 0 _ _ _).trans rfl
set_option maxRecDepth 100000 in
theorem e_X12_silence_5 (a0 a1 a2 b0 : Int) (sh : Int × (Int → Nat × Int)) (h : Int → Int → Int) : q_L 239 5 [(22, a0), (0, a1), (0, a2), (9, 0)] [(0, b0)] (sh, h) = if b0 = 0 then (q_L 239 15 [(22, a0), (0, a1), (0, a2), (9, 0)] [] (sh, h)) else ((q_Cc 236 [(0, a2)] (sh, h)).bind (fun r => q_L 239 12 [(22, a0), (0, a1), (0, a2), (9, 0)] [r.1] r.2)) :=
  (q_unL hL_X12_silence cu_X12_silence 400 5 _ _ _).trans rfl
set_option maxRecDepth 100000 in
theorem e_X12_silence_12 (a0 a1 a2 b0 : Int) (sh : Int × (Int → Nat × Int)) (h : Int → Int → Int) : q_L 239 12 [(22, a0), (0, a1), (0, a2), (9, 0)] [(0, b0)] (sh, h) = if b0 = 0 then (q_L 239 15 [(22, a0), (0, a1), (0, a2), (9, 0)] [] (sh, h)) else ((q_Cc 238 [(22, a0), (0, a1), (0, a2)] (sh, h)).bind (fun r => q_L 239 28 [(22, a0), (0, a1), (0, a2), (9, 0)] [r.1] r.2)) :=
  (q_unL hL_X12_silence cu_X12_silence 400 12 _ _ _).trans rfl
set_option maxRecDepth 100000 in
theorem e_X12_silence_15 (a0 a1 a2 : Int) (sh : Int × (Int → Nat × Int)) (h : Int → Int → Int) : q_L 239 15 [(22, a0), (0, a1), (0, a2), (9, 0)] [] (sh, h) = (q_Cc 161 [(22, a0), (0, (-1000001))] (sh, h)).bind (fun r => q_L 239 21 [(22, a0), (0, a1), (0, a2), (9, 0)] [r.1] r.2) :=
  (q_unL hL_X12_silence cu_X12_silence 400 15 _ _ _).trans rfl
set_option maxRecDepth 100000 in
theorem e_X12_silence_21 (a0 a1 a2 b0 : Int) (sh : Int × (Int → Nat × Int)) (h : Int → Int → Int) : q_L 239 21 [(22, a0), (0, a1), (0, a2), (9, 0)] [(0, b0)] (sh, h) = some ((0, b0), (sh, h)) :=
  (q_unL hL_X12_silence cu_X12_silence 400 21 _ _ _).trans rfl
set_option maxRecDepth 100000 in
theorem e_X12_silence_28 (a0 a1 a2 b0 : Int) (sh : Int × (Int → Nat × Int)) (h : Int → Int → Int) : q_L 239 28 [(22, a0), (0, a1), (0, a2), (9, 0)] [(0, b0)] (sh, h) = if b0 < 0 then ((q_Cc 161 [(22, a0), (0, (-1000004))] (sh, h)).bind (fun r => q_L 239 39 [(22, a0), (0, a1), (0, a2), (0, b0)] [r.1] r.2)) else (q_L 239 43 [(22, a0), (0, a1), (0, a2), (0, b0)] [(0, b0)] (sh, h)) :=
  (q_unL hL_X12_silence cu_X12_silence 400 28 _ _ _).trans rfl
set_option maxRecDepth 100000 in
theorem e_X12_silence_39 (a0 a1 a2 a3 b0 : Int) (sh : Int × (Int → Nat × Int)) (h : Int → Int → Int) : q_L 239 39 [(22, a0), (0, a1), (0, a2), (0, a3)] [(0, b0)] (sh, h) = q_L 239 43 [(22, a0), (0, a1), (0, a2), (0, a3)] [(0, b0)] (sh, h) :=
  (q_unL hL_X12_silence cu_X12_silence 400 39 _ _ _).trans rfl
set_option maxRecDepth 100000 in
theorem e_X12_silence_43 (a0 a1 a2 a3 b0 : Int) (sh : Int × (Int → Nat × Int)) (h : Int → Int → Int) : q_L 239 43 [(22, a0), (0, a1), (0, a2), (0, a3)] [(0, b0)] (sh, h) = some ((0, b0), (sh, h)) :=
  (q_unL hL_X12_silence cu_X12_silence 400 43 _ _ _).trans rfl
def cu_X12_ever : List Nat := [0, 5, 14, 19, 32, 42]
theorem hL_X12_ever : q_P 240 = q_find P_X12_ever := rfl
theorem c_X12_ever (a0 a1 : Int) (s : q_M) : q_Cc 240 [(22, a0), (0, a1)] s = q_L 240 0 [(22, a0), (0, a1), (9, 0), (9, 0)] [] s := rfl
set_option maxRecDepth 100000 in
theorem e_X12_ever_0 (a0 a1 : Int) (sh : Int × (Int → Nat × Int)) (h : Int → Int → Int) : q_L 240 0 [(22, a0), (0, a1), (9, 0), (9, 0)] [] (sh, h) = (q_Cc 165 [(22, a0), (0, a1)] (sh, h)).bind (fun r => q_L 240 5 [(22, a0), (0, a1), (9, 0), (9, 0)] [r.1] r.2) :=
  (q_unL hL_X12_ever cu_X12_ever 400 0 _ _ _).trans rfl
set_option maxRecDepth 100000 in
theorem e_X12_ever_5 (a0 a1 b0 : Int) (sh : Int × (Int → Nat × Int)) (h : Int → Int → Int) : q_L 240 5 [(22, a0), (0, a1), (9, 0), (9, 0)] [(0, b0)] (sh, h) = if b0 = 0 then ((q_Cc 161 [(22, a0), (0, (-1000001))] (sh, h)).bind (fun r => q_L 240 14 [(22, a0), (0, a1), (9, 0), (9, 0)] [r.1] r.2)) else (q_L 240 19 [(22, a0), (0, a1), (0, 0), (0, 0)] [] (sh, h)) :=
  (q_unL hL_X12_ever cu_X12_ever 400 5 _ _ _).trans rfl
set_option maxRecDepth 100000 in
theorem e_X12_ever_14 (a0 a1 b0 : Int) (sh : Int × (Int → Nat × Int)) (h : Int → Int → Int) : q_L 240 14 [(22, a0), (0, a1), (9, 0), (9, 0)] [(0, b0)] (sh, h) = some ((0, b0), (sh, h)) :=
  (q_unL hL_X12_ever cu_X12_ever 400 14 _ _ _).trans rfl
set_option maxRecDepth 100000 in
theorem e_X12_ever_19 (a0 a1 a2 a3 : Int) (sh : Int × (Int → Nat × Int)) (h : Int → Int → Int) : q_L 240 19 [(22, a0), (0, a1), (0, a2), (0, a3)] [] (sh, h) = if a3 < (8 : Int) then ((q_Cc 238 [(22, a0), (0, a1), (0, a3)] (sh, h)).bind (fun r => q_L 240 32 [(22, a0), (0, a1), (0, a2), (0, a3)] [r.1, (0, a2)] r.2)) else (some ((0, a2), (sh, h))) :=
  (q_unL hL_X12_ever cu_X12_ever 400 19 _ _ _).trans rfl
set_option maxRecDepth 100000 in
theorem e_X12_ever_32 (a0 a1 a2 a3 b0 b1 : Int) (sh : Int × (Int → Nat × Int)) (h : Int → Int → Int) : q_L 240 32 [(22, a0), (0, a1), (0, a2), (0, a3)] [(0, b1), (0, b0)] (sh, h) = if b1 < 0 then (q_L 240 42 [(22, a0), (0, a1), (0, a2), (0, a3)] [(0, q_shl (1 : Int) a3), (0, b0)] (sh, h)) else (q_L 240 42 [(22, a0), (0, a1), (0, a2), (0, a3)] [(0, 0), (0, b0)] (sh, h)) :=
  (q_unL hL_X12_ever cu_X12_ever 400 32 _ _ _).trans rfl
set_option maxRecDepth 100000 in
theorem e_X12_ever_42 (a0 a1 a2 a3 b0 b1 : Int) (sh : Int × (Int → Nat × Int)) (h : Int → Int → Int) : q_L 240 42 [(22, a0), (0, a1), (0, a2), (0, a3)] [(0, b1), (0, b0)] (sh, h) = q_L 240 19 [(22, a0), (0, a1), (0, q_or b0 b1), (0, q_w (a3 + 1))] [] (sh, h) :=
  (q_unL hL_X12_ever cu_X12_ever 400 42 _ _ _).trans rfl
def cu_X12_cell : List Nat := [0, 7, 17, 20, 26, 48]
theorem hL_X12_cell : q_P 241 = q_find P_X12_cell := rfl
theorem c_X12_cell (a0 a1 a2 : Int) (s : q_M) : q_Cc 241 [(22, a0), (0, a1), (0, a2)] s = q_L 241 0 [(22, a0), (0, a1), (0, a2)] [] s := rfl
set_option maxRecDepth 100000 in
theorem e_X12_cell_0 (a0 a1 a2 : Int) (sh : Int × (Int → Nat × Int)) (h : Int → Int → Int) : q_L 241 0 [(22, a0), (0, a1), (0, a2)] [] (sh, h) = (q_Cc 162 [(0, a1), (0, 0), (0, 63)] (sh, h)).bind (fun r => q_L 241 7 [(22, a0), (0, a1), (0, a2)] [r.1] r.2) :=
  (q_unL hL_X12_cell cu_X12_cell 400 0 _ _ _).trans rfl
set_option maxRecDepth 100000 in
theorem e_X12_cell_7 (a0 a1 a2 b0 : Int) (sh : Int × (Int → Nat × Int)) (h : Int → Int → Int) : q_L 241 7 [(22, a0), (0, a1), (0, a2)] [(0, b0)] (sh, h) = if b0 = 0 then (q_L 241 20 [(22, a0), (0, a1), (0, a2)] [] (sh, h)) else ((q_Cc 162 [(0, a2), (0, 0), (0, 99)] (sh, h)).bind (fun r => q_L 241 17 [(22, a0), (0, a1), (0, a2)] [r.1] r.2)) :=
  (q_unL hL_X12_cell cu_X12_cell 400 7 _ _ _).trans rfl
set_option maxRecDepth 100000 in
theorem e_X12_cell_17 (a0 a1 a2 b0 : Int) (sh : Int × (Int → Nat × Int)) (h : Int → Int → Int) : q_L 241 17 [(22, a0), (0, a1), (0, a2)] [(0, b0)] (sh, h) = if b0 = 0 then (q_L 241 20 [(22, a0), (0, a1), (0, a2)] [] (sh, h)) else (if 0 ≤ h a0 0 then (if 0 ≤ (q_add (1290 : Int) a1) ∧ (q_add (1290 : Int) a1) < (sh.2 (h a0 0)).2 ∧ 0 ≤ (h a0 0) then ((q_Cc 168 [(22, a0), (0, q_add (1226 : Int) a1), (0, a2)] (sh, q_up h (h a0 0) (q_add (1290 : Int) a1) (0 : Int))).bind (fun r => q_L 241 48 [(22, a0), (0, a1), (0, a2)] [r.1] r.2)) else none) else none) :=
  (q_unL hL_X12_cell cu_X12_cell 400 17 _ _ _).trans rfl
set_option maxRecDepth 100000 in
theorem e_X12_cell_20 (a0 a1 a2 : Int) (sh : Int × (Int → Nat × Int)) (h : Int → Int → Int) : q_L 241 20 [(22, a0), (0, a1), (0, a2)] [] (sh, h) = (q_Cc 161 [(22, a0), (0, (-1000001))] (sh, h)).bind (fun r => q_L 241 26 [(22, a0), (0, a1), (0, a2)] [r.1] r.2) :=
  (q_unL hL_X12_cell cu_X12_cell 400 20 _ _ _).trans rfl
set_option maxRecDepth 100000 in
theorem e_X12_cell_26 (a0 a1 a2 b0 : Int) (sh : Int × (Int → Nat × Int)) (h : Int → Int → Int) : q_L 241 26 [(22, a0), (0, a1), (0, a2)] [(0, b0)] (sh, h) = some ((0, b0), (sh, h)) :=
  (q_unL hL_X12_cell cu_X12_cell 400 26 _ _ _).trans rfl
set_option maxRecDepth 100000 in
theorem e_X12_cell_48 (a0 a1 a2 b0 : Int) (sh : Int × (Int → Nat × Int)) (h : Int → Int → Int) : q_L 241 48 [(22, a0), (0, a1), (0, a2)] [(0, b0)] (sh, h) = some ((0, b0), (sh, h)) :=
  (q_unL hL_X12_cell cu_X12_cell 400 48 _ _ _).trans rfl
def cu_X12_nextCell : List Nat := [0, 4, 38, 39, 73, 77, 78]
theorem hL_X12_nextCell : q_P 242 = q_find P_X12_nextCell := rfl
theorem c_X12_nextCell (a0 a1 : Int) (s : q_M) : q_Cc 242 [(22, a0), (0, a1)] s = q_L 242 0 [(22, a0), (0, a1), (9, 0), (9, 0), (9, 0)] [] s := rfl
set_option maxRecDepth 100000 in
theorem e_X12_nextCell_0 (a0 a1 : Int) (sh : Int × (Int → Nat × Int)) (h : Int → Int → Int) : q_L 242 0 [(22, a0), (0, a1), (9, 0), (9, 0), (9, 0)] [] (sh, h) = q_L 242 4 [(22, a0), (0, a1), (0, (-1)), (0, 0), (9, 0)] [] (sh, h) :=
  (q_unL hL_X12_nextCell cu_X12_nextCell 400 0 _ _ _).trans rfl
set_option maxRecDepth 100000 in
theorem e_X12_nextCell_4 (a0 a1 a2 a3 : Int) (x4 : q_V) (sh : Int × (Int → Nat × Int)) (h : Int → Int → Int) : q_L 242 4 [(22, a0), (0, a1), (0, a2), (0, a3), x4] [] (sh, h) = if a3 < (64 : Int) then (if 0 ≤ h a0 0 then (if 0 ≤ (q_add a1 a3) ∧ (q_add a1 a3) < (sh.2 (h a0 0)).2 then (if (h (h a0 0) (q_add a1 a3)) = 0 then (if 0 ≤ h a0 0 then (if 0 ≤ (q_add (1226 : Int) a3) ∧ (q_add (1226 : Int) a3) < (sh.2 (h a0 0)).2 then (if 0 < (h (h a0 0) (q_add (1226 : Int) a3)) then (q_L 242 39 [(22, a0), (0, a1), (0, a2), (0, a3), x4] [(0, 1)] (sh, h)) else (q_L 242 38 [(22, a0), (0, a1), (0, a2), (0, a3), x4] [] (sh, h))) else none) else none) else (q_L 242 38 [(22, a0), (0, a1), (0, a2), (0, a3), x4] [] (sh, h))) else none) else none) else (some ((0, a2), (sh, h))) :=
  (q_unL hL_X12_nextCell cu_X12_nextCell 400 4 _ _ _).trans rfl
set_option maxRecDepth 100000 in
theorem e_X12_nextCell_38 (a0 a1 a2 a3 : Int) (x4 : q_V) (sh : Int × (Int → Nat × Int)) (h : Int → Int → Int) : q_L 242 38 [(22, a0), (0, a1), (0, a2), (0, a3), x4] [] (sh, h) = q_L 242 39 [(22, a0), (0, a1), (0, a2), (0, a3), x4] [(0, 0)] (sh, h) :=
  (q_unL hL_X12_nextCell cu_X12_nextCell 400 38 _ _ _).trans rfl
set_option maxRecDepth 100000 in
theorem e_X12_nextCell_39 (a0 a1 a2 a3 b0 : Int) (x4 : q_V) (sh : Int × (Int → Nat × Int)) (h : Int → Int → Int) : q_L 242 39 [(22, a0), (0, a1), (0, a2), (0, a3), x4] [(0, b0)] (sh, h) = if b0 = 0 then (q_L 242 77 [(22, a0), (0, a1), (0, a2), (0, a3), (0, b0)] [] (sh, h)) else (if a2 < 0 then (q_L 242 73 [(22, a0), (0, a1), (0, a2), (0, a3), (0, b0)] [] (sh, h)) else (if 0 ≤ h a0 0 then (if 0 ≤ (q_add (1226 : Int) a3) ∧ (q_add (1226 : Int) a3) < (sh.2 (h a0 0)).2 then (if 0 ≤ h a0 0 then (if 0 ≤ (q_add (1226 : Int) a2) ∧ (q_add (1226 : Int) a2) < (sh.2 (h a0 0)).2 then (if (h (h a0 0) (q_add (1226 : Int) a2)) < (h (h a0 0) (q_add (1226 : Int) a3)) then (q_L 242 73 [(22, a0), (0, a1), (0, a2), (0, a3), (0, b0)] [] (sh, h)) else (q_L 242 77 [(22, a0), (0, a1), (0, a2), (0, a3), (0, b0)] [] (sh, h))) else none) else none) else none) else none)) :=
  (q_unL hL_X12_nextCell cu_X12_nextCell 400 39 _ _ _).trans rfl
set_option maxRecDepth 100000 in
theorem e_X12_nextCell_73 (a0 a1 a2 a3 a4 : Int) (sh : Int × (Int → Nat × Int)) (h : Int → Int → Int) : q_L 242 73 [(22, a0), (0, a1), (0, a2), (0, a3), (0, a4)] [] (sh, h) = q_L 242 78 [(22, a0), (0, a1), (0, a2), (0, a3), (0, a4)] [(0, a3)] (sh, h) :=
  (q_unL hL_X12_nextCell cu_X12_nextCell 400 73 _ _ _).trans rfl
set_option maxRecDepth 100000 in
theorem e_X12_nextCell_77 (a0 a1 a2 a3 a4 : Int) (sh : Int × (Int → Nat × Int)) (h : Int → Int → Int) : q_L 242 77 [(22, a0), (0, a1), (0, a2), (0, a3), (0, a4)] [] (sh, h) = q_L 242 78 [(22, a0), (0, a1), (0, a2), (0, a3), (0, a4)] [(0, a2)] (sh, h) :=
  (q_unL hL_X12_nextCell cu_X12_nextCell 400 77 _ _ _).trans rfl
set_option maxRecDepth 100000 in
theorem e_X12_nextCell_78 (a0 a1 a2 a3 a4 b0 : Int) (sh : Int × (Int → Nat × Int)) (h : Int → Int → Int) : q_L 242 78 [(22, a0), (0, a1), (0, a2), (0, a3), (0, a4)] [(0, b0)] (sh, h) = q_L 242 4 [(22, a0), (0, a1), (0, b0), (0, q_w (a3 + 1)), (0, a4)] [] (sh, h) :=
  (q_unL hL_X12_nextCell cu_X12_nextCell 400 78 _ _ _).trans rfl
def cu_X12_seek : List Nat := [0, 7, 18]
theorem hL_X12_seek : q_P 243 = q_find P_X12_seek := rfl
theorem c_X12_seek (a0 : Int) (s : q_M) : q_Cc 243 [(22, a0)] s = q_L 243 0 [(22, a0), (9, 0)] [] s := rfl
set_option maxRecDepth 100000 in
theorem e_X12_seek_0 (a0 : Int) (sh : Int × (Int → Nat × Int)) (h : Int → Int → Int) : q_L 243 0 [(22, a0), (9, 0)] [] (sh, h) = (q_Cc 242 [(22, a0), (0, 1290)] (sh, h)).bind (fun r => q_L 243 7 [(22, a0), (9, 0)] [r.1] r.2) :=
  (q_unL hL_X12_seek cu_X12_seek 400 0 _ _ _).trans rfl
set_option maxRecDepth 100000 in
theorem e_X12_seek_7 (a0 b0 : Int) (sh : Int × (Int → Nat × Int)) (h : Int → Int → Int) : q_L 243 7 [(22, a0), (9, 0)] [(0, b0)] (sh, h) = if b0 < 0 then ((q_Cc 161 [(22, a0), (0, (-1000004))] (sh, h)).bind (fun r => q_L 243 18 [(22, a0), (0, b0)] [r.1] r.2)) else (if 0 ≤ h a0 0 then (if 0 ≤ (q_add (1290 : Int) b0) ∧ (q_add (1290 : Int) b0) < (sh.2 (h a0 0)).2 ∧ 0 ≤ (h a0 0) then (some ((0, b0), (sh, q_up h (h a0 0) (q_add (1290 : Int) b0) (1 : Int)))) else none) else none) :=
  (q_unL hL_X12_seek cu_X12_seek 400 7 _ _ _).trans rfl
set_option maxRecDepth 100000 in
theorem e_X12_seek_18 (a0 a1 b0 : Int) (sh : Int × (Int → Nat × Int)) (h : Int → Int → Int) : q_L 243 18 [(22, a0), (0, a1)] [(0, b0)] (sh, h) = some ((0, b0), (sh, h)) :=
  (q_unL hL_X12_seek cu_X12_seek 400 18 _ _ _).trans rfl
def cu_X12_stop : List Nat := [0, 7, 16, 21, 55, 73, 86, 91, 109, 157]
theorem hL_X12_stop : q_P 244 = q_find P_X12_stop := rfl
theorem c_X12_stop (a0 a1 : Int) (s : q_M) : q_Cc 244 [(22, a0), (0, a1)] s = q_L 244 0 [(22, a0), (0, a1), (9, 0), (9, 0), (9, 0), (9, 0)] [] s := rfl
set_option maxRecDepth 100000 in
theorem e_X12_stop_0 (a0 a1 : Int) (sh : Int × (Int → Nat × Int)) (h : Int → Int → Int) : q_L 244 0 [(22, a0), (0, a1), (9, 0), (9, 0), (9, 0), (9, 0)] [] (sh, h) = (q_Cc 162 [(0, a1), (0, 1), (0, 100)] (sh, h)).bind (fun r => q_L 244 7 [(22, a0), (0, a1), (9, 0), (9, 0), (9, 0), (9, 0)] [r.1] r.2) :=
  (q_unL hL_X12_stop cu_X12_stop 400 0 _ _ _).trans rfl
set_option maxRecDepth 100000 in
theorem e_X12_stop_7 (a0 a1 b0 : Int) (sh : Int × (Int → Nat × Int)) (h : Int → Int → Int) : q_L 244 7 [(22, a0), (0, a1), (9, 0), (9, 0), (9, 0), (9, 0)] [(0, b0)] (sh, h) = if b0 = 0 then ((q_Cc 161 [(22, a0), (0, (-1000001))] (sh, h)).bind (fun r => q_L 244 16 [(22, a0), (0, a1), (9, 0), (9, 0), (9, 0), (9, 0)] [r.1] r.2)) else (q_L 244 21 [(22, a0), (0, a1), (0, 0), (0, 0), (9, 0), (9, 0)] [] (sh, h)) :=
  (q_unL hL_X12_stop cu_X12_stop 400 7 _ _ _).trans rfl
set_option maxRecDepth 100000 in
theorem e_X12_stop_16 (a0 a1 b0 : Int) (sh : Int × (Int → Nat × Int)) (h : Int → Int → Int) : q_L 244 16 [(22, a0), (0, a1), (9, 0), (9, 0), (9, 0), (9, 0)] [(0, b0)] (sh, h) = some ((0, b0), (sh, h)) :=
  (q_unL hL_X12_stop cu_X12_stop 400 16 _ _ _).trans rfl
set_option maxRecDepth 100000 in
theorem e_X12_stop_21 (a0 a1 a2 a3 : Int) (sh : Int × (Int → Nat × Int)) (h : Int → Int → Int) : q_L 244 21 [(22, a0), (0, a1), (0, a2), (0, a3), (9, 0), (9, 0)] [] (sh, h) = if a3 < (64 : Int) then (if 0 ≤ h a0 0 then (if 0 ≤ (q_add (1290 : Int) a3) ∧ (q_add (1290 : Int) a3) < (sh.2 (h a0 0)).2 then (if (h (h a0 0) (q_add (1290 : Int) a3)) = 0 then (if 0 ≤ h a0 0 then (if 0 ≤ (q_add (1226 : Int) a3) ∧ (q_add (1226 : Int) a3) < (sh.2 (h a0 0)).2 then (q_L 244 55 [(22, a0), (0, a1), (0, a2), (0, a3), (9, 0), (9, 0)] [(0, h (h a0 0) (q_add (1226 : Int) a3)), (0, a2)] (sh, h)) else none) else none) else (q_L 244 55 [(22, a0), (0, a1), (0, a2), (0, a3), (9, 0), (9, 0)] [(0, 0), (0, a2)] (sh, h))) else none) else none) else (if a2 = 0 then ((q_Cc 161 [(22, a0), (0, (-1000004))] (sh, h)).bind (fun r => q_L 244 73 [(22, a0), (0, a1), (0, a2), (0, a3), (9, 0), (9, 0)] [r.1] r.2)) else (if 0 ≤ h a0 2 then (if 0 ≤ h a0 0 then ((q_Cc 230 [(22, a0), (30, h a0 2), (30, h a0 0)] (sh, h)).bind (fun r => q_L 244 86 [(22, a0), (0, a1), (0, a2), (0, a3), (9, 0), (9, 0)] [] r.2)) else none) else none)) :=
  (q_unL hL_X12_stop cu_X12_stop 400 21 _ _ _).trans rfl
set_option maxRecDepth 100000 in
theorem e_X12_stop_55 (a0 a1 a2 a3 b0 b1 : Int) (sh : Int × (Int → Nat × Int)) (h : Int → Int → Int) : q_L 244 55 [(22, a0), (0, a1), (0, a2), (0, a3), (9, 0), (9, 0)] [(0, b1), (0, b0)] (sh, h) = q_L 244 21 [(22, a0), (0, a1), (0, q_add b0 b1), (0, q_w (a3 + 1)), (9, 0), (9, 0)] [] (sh, h) :=
  (q_unL hL_X12_stop cu_X12_stop 400 55 _ _ _).trans rfl
set_option maxRecDepth 100000 in
theorem e_X12_stop_73 (a0 a1 a2 a3 b0 : Int) (sh : Int × (Int → Nat × Int)) (h : Int → Int → Int) : q_L 244 73 [(22, a0), (0, a1), (0, a2), (0, a3), (9, 0), (9, 0)] [(0, b0)] (sh, h) = some ((0, b0), (sh, h)) :=
  (q_unL hL_X12_stop cu_X12_stop 400 73 _ _ _).trans rfl
set_option maxRecDepth 100000 in
theorem e_X12_stop_86 (a0 a1 a2 a3 : Int) (sh : Int × (Int → Nat × Int)) (h : Int → Int → Int) : q_L 244 86 [(22, a0), (0, a1), (0, a2), (0, a3), (9, 0), (9, 0)] [] (sh, h) = q_L 244 91 [(22, a0), (0, a1), (0, a2), (0, 0), (0, 0), (9, 0)] [] (sh, h) :=
  (q_unL hL_X12_stop cu_X12_stop 400 86 _ _ _).trans rfl
set_option maxRecDepth 100000 in
theorem e_X12_stop_91 (a0 a1 a2 a3 a4 : Int) (x5 : q_V) (sh : Int × (Int → Nat × Int)) (h : Int → Int → Int) : q_L 244 91 [(22, a0), (0, a1), (0, a2), (0, a3), (0, a4), x5] [] (sh, h) = if (q_mul (100 : Int) a4) < (q_mul a1 a2) then ((q_Cc 242 [(22, a0), (0, 1290)] (sh, h)).bind (fun r => q_L 244 109 [(22, a0), (0, a1), (0, a2), (0, a3), (0, a4), x5] [r.1] r.2)) else (if 0 ≤ h a0 0 then (if 0 ≤ h a0 2 then ((q_Cc 230 [(22, a0), (30, h a0 0), (30, h a0 2)] (sh, h)).bind (fun r => q_L 244 157 [(22, a0), (0, a1), (0, a2), (0, a3), (0, a4), x5] [] r.2)) else none) else none) :=
  (q_unL hL_X12_stop cu_X12_stop 400 91 _ _ _).trans rfl
set_option maxRecDepth 100000 in
theorem e_X12_stop_109 (a0 a1 a2 a3 a4 b0 : Int) (x5 : q_V) (sh : Int × (Int → Nat × Int)) (h : Int → Int → Int) : q_L 244 109 [(22, a0), (0, a1), (0, a2), (0, a3), (0, a4), x5] [(0, b0)] (sh, h) = if 0 ≤ h a0 0 then (if 0 ≤ (q_add (1226 : Int) b0) ∧ (q_add (1226 : Int) b0) < (sh.2 (h a0 0)).2 then (if 0 ≤ h a0 0 then (if 0 ≤ (q_add (1290 : Int) b0) ∧ (q_add (1290 : Int) b0) < (sh.2 (h a0 0)).2 ∧ 0 ≤ (h a0 0) then (q_L 244 91 [(22, a0), (0, a1), (0, a2), (0, q_w (a3 + 1)), (0, q_add a4 (h (h a0 0) (q_add (1226 : Int) b0))), (0, b0)] [] (sh, q_up h (h a0 0) (q_add (1290 : Int) b0) (1 : Int))) else none) else none) else none) else none :=
  (q_unL hL_X12_stop cu_X12_stop 400 109 _ _ _).trans rfl
set_option maxRecDepth 100000 in
theorem e_X12_stop_157 (a0 a1 a2 a3 a4 : Int) (x5 : q_V) (sh : Int × (Int → Nat × Int)) (h : Int → Int → Int) : q_L 244 157 [(22, a0), (0, a1), (0, a2), (0, a3), (0, a4), x5] [] (sh, h) = some ((0, a3), (sh, h)) :=
  (q_unL hL_X12_stop cu_X12_stop 400 157 _ _ _).trans rfl
def cu_X12_check : List Nat := [0, 4, 13, 29, 42, 44, 58, 78, 90]
theorem hL_X12_check : q_P 245 = q_find P_X12_check := rfl
theorem c_X12_check (a0 a1 : Int) (s : q_M) : q_Cc 245 [(22, a0), (0, a1)] s = q_L 245 0 [(22, a0), (0, a1), (9, 0)] [] s := rfl
set_option maxRecDepth 100000 in
theorem e_X12_check_0 (a0 a1 : Int) (sh : Int × (Int → Nat × Int)) (h : Int → Int → Int) : q_L 245 0 [(22, a0), (0, a1), (9, 0)] [] (sh, h) = (q_Cc 246 [(0, a1)] (sh, h)).bind (fun r => q_L 245 4 [(22, a0), (0, a1), (9, 0)] [r.1] r.2) :=
  (q_unL hL_X12_check cu_X12_check 400 0 _ _ _).trans rfl
set_option maxRecDepth 100000 in
theorem e_X12_check_4 (a0 a1 b0 : Int) (sh : Int × (Int → Nat × Int)) (h : Int → Int → Int) : q_L 245 4 [(22, a0), (0, a1), (9, 0)] [(0, b0)] (sh, h) = if b0 = 0 then ((q_Cc 161 [(22, a0), (0, (-1000001))] (sh, h)).bind (fun r => q_L 245 13 [(22, a0), (0, a1), (9, 0)] [r.1] r.2)) else (if 0 ≤ h a0 7 then (if 0 ≤ a1 ∧ a1 < (sh.2 (h a0 7)).2 then (if (h (h a0 7) a1) = 0 then ((q_Cc 161 [(22, a0), (0, (-1000006))] (sh, h)).bind (fun r => q_L 245 29 [(22, a0), (0, a1), (9, 0)] [r.1] r.2)) else (if 0 ≤ h a0 2 then (if 0 ≤ h a0 0 then ((q_Cc 230 [(22, a0), (30, h a0 2), (30, h a0 0)] (sh, h)).bind (fun r => q_L 245 42 [(22, a0), (0, a1), (9, 0)] [] r.2)) else none) else none)) else none) else none) :=
  (q_unL hL_X12_check cu_X12_check 400 4 _ _ _).trans rfl
set_option maxRecDepth 100000 in
theorem e_X12_check_13 (a0 a1 b0 : Int) (sh : Int × (Int → Nat × Int)) (h : Int → Int → Int) : q_L 245 13 [(22, a0), (0, a1), (9, 0)] [(0, b0)] (sh, h) = some ((0, b0), (sh, h)) :=
  (q_unL hL_X12_check cu_X12_check 400 13 _ _ _).trans rfl
set_option maxRecDepth 100000 in
theorem e_X12_check_29 (a0 a1 b0 : Int) (sh : Int × (Int → Nat × Int)) (h : Int → Int → Int) : q_L 245 29 [(22, a0), (0, a1), (9, 0)] [(0, b0)] (sh, h) = some ((0, b0), (sh, h)) :=
  (q_unL hL_X12_check cu_X12_check 400 29 _ _ _).trans rfl
set_option maxRecDepth 100000 in
theorem e_X12_check_42 (a0 a1 : Int) (sh : Int × (Int → Nat × Int)) (h : Int → Int → Int) : q_L 245 42 [(22, a0), (0, a1), (9, 0)] [] (sh, h) = q_L 245 44 [(22, a0), (0, a1), (0, 0)] [] (sh, h) :=
  (q_unL hL_X12_check cu_X12_check 400 42 _ _ _).trans rfl
set_option maxRecDepth 100000 in
theorem e_X12_check_44 (a0 a1 a2 : Int) (sh : Int × (Int → Nat × Int)) (h : Int → Int → Int) : q_L 245 44 [(22, a0), (0, a1), (0, a2)] [] (sh, h) = if 0 ≤ h a0 8 then (if 0 ≤ a1 ∧ a1 < (sh.2 (h a0 8)).2 then (if a2 < (h (h a0 8) a1) then ((q_Cc 226 [(22, a0)] (sh, h)).bind (fun r => q_L 245 58 [(22, a0), (0, a1), (0, a2)] [r.1] r.2)) else (q_L 245 78 [(22, a0), (0, a1), (0, a2)] [] (sh, h))) else none) else none :=
  (q_unL hL_X12_check cu_X12_check 400 44 _ _ _).trans rfl
set_option maxRecDepth 100000 in
theorem e_X12_check_58 (a0 a1 a2 b0 : Int) (sh : Int × (Int → Nat × Int)) (h : Int → Int → Int) : q_L 245 58 [(22, a0), (0, a1), (0, a2)] [(0, b0)] (sh, h) = if 0 ≤ h a0 9 then (if 0 ≤ (q_add (q_mul (24 : Int) a1) a2) ∧ (q_add (q_mul (24 : Int) a1) a2) < (sh.2 (h a0 9)).2 then (if b0 = (h (h a0 9) (q_add (q_mul (24 : Int) a1) a2)) then (q_L 245 44 [(22, a0), (0, a1), (0, q_w (a2 + 1))] [] (sh, h)) else (q_L 245 78 [(22, a0), (0, a1), (0, a2)] [] (sh, h))) else none) else none :=
  (q_unL hL_X12_check cu_X12_check 400 58 _ _ _).trans rfl
set_option maxRecDepth 100000 in
theorem e_X12_check_78 (a0 a1 a2 : Int) (sh : Int × (Int → Nat × Int)) (h : Int → Int → Int) : q_L 245 78 [(22, a0), (0, a1), (0, a2)] [] (sh, h) = if 0 ≤ h a0 0 then (if 0 ≤ h a0 2 then ((q_Cc 230 [(22, a0), (30, h a0 0), (30, h a0 2)] (sh, h)).bind (fun r => q_L 245 90 [(22, a0), (0, a1), (0, a2)] [] r.2)) else none) else none :=
  (q_unL hL_X12_check cu_X12_check 400 78 _ _ _).trans rfl
set_option maxRecDepth 100000 in
theorem e_X12_check_90 (a0 a1 a2 : Int) (sh : Int × (Int → Nat × Int)) (h : Int → Int → Int) : q_L 245 90 [(22, a0), (0, a1), (0, a2)] [] (sh, h) = some ((0, a2), (sh, h)) :=
  (q_unL hL_X12_check cu_X12_check 400 90 _ _ _).trans rfl
def cu_X12_isSheet : List Nat := [0, 6]
theorem hL_X12_isSheet : q_P 246 = q_find P_X12_isSheet := rfl
theorem c_X12_isSheet (a0 : Int) (s : q_M) : q_Cc 246 [(0, a0)] s = q_L 246 0 [(0, a0)] [] s := rfl
set_option maxRecDepth 100000 in
theorem e_X12_isSheet_0 (a0 : Int) (sh : Int × (Int → Nat × Int)) (h : Int → Int → Int) : q_L 246 0 [(0, a0)] [] (sh, h) = (q_Cc 162 [(0, a0), (0, 0), (0, 3)] (sh, h)).bind (fun r => q_L 246 6 [(0, a0)] [r.1] r.2) :=
  (q_unL hL_X12_isSheet cu_X12_isSheet 400 0 _ _ _).trans rfl
set_option maxRecDepth 100000 in
theorem e_X12_isSheet_6 (a0 b0 : Int) (sh : Int × (Int → Nat × Int)) (h : Int → Int → Int) : q_L 246 6 [(0, a0)] [(0, b0)] (sh, h) = if b0 = 0 ∨ b0 = 1 then some ((0, b0), (sh, h)) else none :=
  (q_unL hL_X12_isSheet cu_X12_isSheet 400 6 _ _ _).trans rfl
def cu_X12_sheet : List Nat := [0, 4, 29, 35, 36, 46, 59, 81, 85]
theorem hL_X12_sheet : q_P 247 = q_find P_X12_sheet := rfl
theorem c_X12_sheet (a0 a1 a2 a3 : Int) (s : q_M) : q_Cc 247 [(22, a0), (0, a1), (0, a2), (0, a3)] s = q_L 247 0 [(22, a0), (0, a1), (0, a2), (0, a3), (9, 0)] [] s := rfl
set_option maxRecDepth 100000 in
theorem e_X12_sheet_0 (a0 a1 a2 a3 : Int) (sh : Int × (Int → Nat × Int)) (h : Int → Int → Int) : q_L 247 0 [(22, a0), (0, a1), (0, a2), (0, a3), (9, 0)] [] (sh, h) = (q_Cc 246 [(0, a1)] (sh, h)).bind (fun r => q_L 247 4 [(22, a0), (0, a1), (0, a2), (0, a3), (9, 0)] [r.1] r.2) :=
  (q_unL hL_X12_sheet cu_X12_sheet 400 0 _ _ _).trans rfl
set_option maxRecDepth 100000 in
theorem e_X12_sheet_4 (a0 a1 a2 a3 b0 : Int) (sh : Int × (Int → Nat × Int)) (h : Int → Int → Int) : q_L 247 4 [(22, a0), (0, a1), (0, a2), (0, a3), (9, 0)] [(0, b0)] (sh, h) = if b0 = 0 then (q_L 247 29 [(22, a0), (0, a1), (0, a2), (0, a3), (9, 0)] [] (sh, h)) else (if a2 = 0 then (q_L 247 36 [(22, a0), (0, a1), (0, a2), (0, a3), (9, 0)] [] (sh, h)) else (if a2 = (8 : Int) then (q_L 247 36 [(22, a0), (0, a1), (0, a2), (0, a3), (9, 0)] [] (sh, h)) else (if a2 = (16 : Int) then (q_L 247 36 [(22, a0), (0, a1), (0, a2), (0, a3), (9, 0)] [] (sh, h)) else (if a2 = (32 : Int) then (q_L 247 36 [(22, a0), (0, a1), (0, a2), (0, a3), (9, 0)] [] (sh, h)) else (q_L 247 29 [(22, a0), (0, a1), (0, a2), (0, a3), (9, 0)] [] (sh, h)))))) :=
  (q_unL hL_X12_sheet cu_X12_sheet 400 4 _ _ _).trans rfl
set_option maxRecDepth 100000 in
theorem e_X12_sheet_29 (a0 a1 a2 a3 : Int) (sh : Int × (Int → Nat × Int)) (h : Int → Int → Int) : q_L 247 29 [(22, a0), (0, a1), (0, a2), (0, a3), (9, 0)] [] (sh, h) = (q_Cc 161 [(22, a0), (0, (-1000001))] (sh, h)).bind (fun r => q_L 247 35 [(22, a0), (0, a1), (0, a2), (0, a3), (9, 0)] [r.1] r.2) :=
  (q_unL hL_X12_sheet cu_X12_sheet 400 29 _ _ _).trans rfl
set_option maxRecDepth 100000 in
theorem e_X12_sheet_35 (a0 a1 a2 a3 b0 : Int) (sh : Int × (Int → Nat × Int)) (h : Int → Int → Int) : q_L 247 35 [(22, a0), (0, a1), (0, a2), (0, a3), (9, 0)] [(0, b0)] (sh, h) = some ((0, b0), (sh, h)) :=
  (q_unL hL_X12_sheet cu_X12_sheet 400 35 _ _ _).trans rfl
set_option maxRecDepth 100000 in
theorem e_X12_sheet_36 (a0 a1 a2 a3 : Int) (sh : Int × (Int → Nat × Int)) (h : Int → Int → Int) : q_L 247 36 [(22, a0), (0, a1), (0, a2), (0, a3), (9, 0)] [] (sh, h) = if a3 < 0 then ((q_Cc 161 [(22, a0), (0, (-1000007))] (sh, h)).bind (fun r => q_L 247 46 [(22, a0), (0, a1), (0, a2), (0, a3), (9, 0)] [r.1] r.2)) else (if (24 : Int) < a3 then ((q_Cc 161 [(22, a0), (0, (-1000001))] (sh, h)).bind (fun r => q_L 247 59 [(22, a0), (0, a1), (0, a2), (0, a3), (9, 0)] [r.1] r.2)) else (if 0 ≤ h a0 7 then (if 0 ≤ a1 ∧ a1 < (sh.2 (h a0 7)).2 ∧ 0 ≤ (h a0 7) then (if 0 ≤ (q_up h (h a0 7) a1 a2) a0 8 then (if a2 = 0 then (q_L 247 81 [(22, a0), (0, a1), (0, a2), (0, a3), (9, 0)] [(0, 0), (0, a1), (30, (q_up h (h a0 7) a1 a2) a0 8)] (sh, q_up h (h a0 7) a1 a2)) else (q_L 247 81 [(22, a0), (0, a1), (0, a2), (0, a3), (9, 0)] [(0, a3), (0, a1), (30, (q_up h (h a0 7) a1 a2) a0 8)] (sh, q_up h (h a0 7) a1 a2))) else none) else none) else none)) :=
  (q_unL hL_X12_sheet cu_X12_sheet 400 36 _ _ _).trans rfl
set_option maxRecDepth 100000 in
theorem e_X12_sheet_46 (a0 a1 a2 a3 b0 : Int) (sh : Int × (Int → Nat × Int)) (h : Int → Int → Int) : q_L 247 46 [(22, a0), (0, a1), (0, a2), (0, a3), (9, 0)] [(0, b0)] (sh, h) = some ((0, b0), (sh, h)) :=
  (q_unL hL_X12_sheet cu_X12_sheet 400 46 _ _ _).trans rfl
set_option maxRecDepth 100000 in
theorem e_X12_sheet_59 (a0 a1 a2 a3 b0 : Int) (sh : Int × (Int → Nat × Int)) (h : Int → Int → Int) : q_L 247 59 [(22, a0), (0, a1), (0, a2), (0, a3), (9, 0)] [(0, b0)] (sh, h) = some ((0, b0), (sh, h)) :=
  (q_unL hL_X12_sheet cu_X12_sheet 400 59 _ _ _).trans rfl
set_option maxRecDepth 100000 in
theorem e_X12_sheet_81 (a0 a1 a2 a3 b0 b1 b2 : Int) (sh : Int × (Int → Nat × Int)) (h : Int → Int → Int) : q_L 247 81 [(22, a0), (0, a1), (0, a2), (0, a3), (9, 0)] [(0, b2), (0, b1), (30, b0)] (sh, h) = if 0 ≤ b1 ∧ b1 < (sh.2 b0).2 ∧ 0 ≤ b0 then (q_L 247 85 [(22, a0), (0, a1), (0, a2), (0, a3), (0, 0)] [] (sh, q_up h b0 b1 b2)) else none :=
  (q_unL hL_X12_sheet cu_X12_sheet 400 81 _ _ _).trans rfl
set_option maxRecDepth 100000 in
theorem e_X12_sheet_85 (a0 a1 a2 a3 a4 : Int) (sh : Int × (Int → Nat × Int)) (h : Int → Int → Int) : q_L 247 85 [(22, a0), (0, a1), (0, a2), (0, a3), (0, a4)] [] (sh, h) = if a4 < (24 : Int) then (if 0 ≤ h a0 9 then (if 0 ≤ (q_add (q_mul (24 : Int) a1) a4) ∧ (q_add (q_mul (24 : Int) a1) a4) < (sh.2 (h a0 9)).2 ∧ 0 ≤ (h a0 9) then (q_L 247 85 [(22, a0), (0, a1), (0, a2), (0, a3), (0, q_w (a4 + 1))] [] (sh, q_up h (h a0 9) (q_add (q_mul (24 : Int) a1) a4) (0 : Int))) else none) else none) else (if 0 ≤ h a0 8 then (if 0 ≤ a1 ∧ a1 < (sh.2 (h a0 8)).2 then (some ((0, h (h a0 8) a1), (sh, h))) else none) else none) :=
  (q_unL hL_X12_sheet cu_X12_sheet 400 85 _ _ _).trans rfl
def cu_X12_write : List Nat := [0, 4, 13, 29, 43, 52, 96]
theorem hL_X12_write : q_P 248 = q_find P_X12_write := rfl
theorem c_X12_write (a0 a1 a2 a3 : Int) (s : q_M) : q_Cc 248 [(22, a0), (0, a1), (0, a2), (0, a3)] s = q_L 248 0 [(22, a0), (0, a1), (0, a2), (0, a3)] [] s := rfl
set_option maxRecDepth 100000 in
theorem e_X12_write_0 (a0 a1 a2 a3 : Int) (sh : Int × (Int → Nat × Int)) (h : Int → Int → Int) : q_L 248 0 [(22, a0), (0, a1), (0, a2), (0, a3)] [] (sh, h) = (q_Cc 246 [(0, a1)] (sh, h)).bind (fun r => q_L 248 4 [(22, a0), (0, a1), (0, a2), (0, a3)] [r.1] r.2) :=
  (q_unL hL_X12_write cu_X12_write 400 0 _ _ _).trans rfl
set_option maxRecDepth 100000 in
theorem e_X12_write_4 (a0 a1 a2 a3 b0 : Int) (sh : Int × (Int → Nat × Int)) (h : Int → Int → Int) : q_L 248 4 [(22, a0), (0, a1), (0, a2), (0, a3)] [(0, b0)] (sh, h) = if b0 = 0 then ((q_Cc 161 [(22, a0), (0, (-1000001))] (sh, h)).bind (fun r => q_L 248 13 [(22, a0), (0, a1), (0, a2), (0, a3)] [r.1] r.2)) else (if 0 ≤ h a0 7 then (if 0 ≤ a1 ∧ a1 < (sh.2 (h a0 7)).2 then (if (h (h a0 7) a1) = 0 then ((q_Cc 161 [(22, a0), (0, (-1000006))] (sh, h)).bind (fun r => q_L 248 29 [(22, a0), (0, a1), (0, a2), (0, a3)] [r.1] r.2)) else (if 0 ≤ h a0 8 then (if 0 ≤ a1 ∧ a1 < (sh.2 (h a0 8)).2 then ((q_Cc 162 [(0, a2), (0, 0), (0, q_sub (h (h a0 8) a1) (1 : Int))] (sh, h)).bind (fun r => q_L 248 43 [(22, a0), (0, a1), (0, a2), (0, a3)] [r.1] r.2)) else none) else none)) else none) else none) :=
  (q_unL hL_X12_write cu_X12_write 400 4 _ _ _).trans rfl
set_option maxRecDepth 100000 in
theorem e_X12_write_13 (a0 a1 a2 a3 b0 : Int) (sh : Int × (Int → Nat × Int)) (h : Int → Int → Int) : q_L 248 13 [(22, a0), (0, a1), (0, a2), (0, a3)] [(0, b0)] (sh, h) = some ((0, b0), (sh, h)) :=
  (q_unL hL_X12_write cu_X12_write 400 13 _ _ _).trans rfl
set_option maxRecDepth 100000 in
theorem e_X12_write_29 (a0 a1 a2 a3 b0 : Int) (sh : Int × (Int → Nat × Int)) (h : Int → Int → Int) : q_L 248 29 [(22, a0), (0, a1), (0, a2), (0, a3)] [(0, b0)] (sh, h) = some ((0, b0), (sh, h)) :=
  (q_unL hL_X12_write cu_X12_write 400 29 _ _ _).trans rfl
set_option maxRecDepth 100000 in
theorem e_X12_write_43 (a0 a1 a2 a3 b0 : Int) (sh : Int × (Int → Nat × Int)) (h : Int → Int → Int) : q_L 248 43 [(22, a0), (0, a1), (0, a2), (0, a3)] [(0, b0)] (sh, h) = if b0 = 0 then ((q_Cc 161 [(22, a0), (0, (-1000001))] (sh, h)).bind (fun r => q_L 248 52 [(22, a0), (0, a1), (0, a2), (0, a3)] [r.1] r.2)) else (if 0 ≤ h a0 9 then (if 0 ≤ h a0 7 then (if 0 ≤ a1 ∧ a1 < (sh.2 (h a0 7)).2 then (if (h (h a0 7) a1) = (8 : Int) then (q_L 248 96 [(22, a0), (0, a1), (0, a2), (0, a3)] [(0, q_i2b a3), (0, q_add (q_mul (24 : Int) a1) a2), (30, h a0 9)] (sh, h)) else (if 0 ≤ h a0 7 then (if 0 ≤ a1 ∧ a1 < (sh.2 (h a0 7)).2 then (if (h (h a0 7) a1) = (16 : Int) then (q_L 248 96 [(22, a0), (0, a1), (0, a2), (0, a3)] [(0, q_i2s a3), (0, q_add (q_mul (24 : Int) a1) a2), (30, h a0 9)] (sh, h)) else (q_L 248 96 [(22, a0), (0, a1), (0, a2), (0, a3)] [(0, a3), (0, q_add (q_mul (24 : Int) a1) a2), (30, h a0 9)] (sh, h))) else none) else none)) else none) else none) else none) :=
  (q_unL hL_X12_write cu_X12_write 400 43 _ _ _).trans rfl
set_option maxRecDepth 100000 in
theorem e_X12_write_52 (a0 a1 a2 a3 b0 : Int) (sh : Int × (Int → Nat × Int)) (h : Int → Int → Int) : q_L 248 52 [(22, a0), (0, a1), (0, a2), (0, a3)] [(0, b0)] (sh, h) = some ((0, b0), (sh, h)) :=
  (q_unL hL_X12_write cu_X12_write 400 52 _ _ _).trans rfl
set_option maxRecDepth 100000 in
theorem e_X12_write_96 (a0 a1 a2 a3 b0 b1 b2 : Int) (sh : Int × (Int → Nat × Int)) (h : Int → Int → Int) : q_L 248 96 [(22, a0), (0, a1), (0, a2), (0, a3)] [(0, b2), (0, b1), (30, b0)] (sh, h) = if 0 ≤ b1 ∧ b1 < (sh.2 b0).2 ∧ 0 ≤ b0 then (some ((0, 1), (sh, q_up h b0 b1 b2))) else none :=
  (q_unL hL_X12_write cu_X12_write 400 96 _ _ _).trans rfl
def cu_X12_copy : List Nat := [0, 4, 11, 14, 20, 39, 45, 67, 109, 115, 119, 156]
theorem hL_X12_copy : q_P 249 = q_find P_X12_copy := rfl
theorem c_X12_copy (a0 a1 a2 a3 a4 a5 : Int) (s : q_M) : q_Cc 249 [(22, a0), (0, a1), (0, a2), (0, a3), (0, a4), (0, a5)] s = q_L 249 0 [(22, a0), (0, a1), (0, a2), (0, a3), (0, a4), (0, a5), (9, 0)] [] s := rfl
set_option maxRecDepth 100000 in
theorem e_X12_copy_0 (a0 a1 a2 a3 a4 a5 : Int) (sh : Int × (Int → Nat × Int)) (h : Int → Int → Int) : q_L 249 0 [(22, a0), (0, a1), (0, a2), (0, a3), (0, a4), (0, a5), (9, 0)] [] (sh, h) = (q_Cc 246 [(0, a1)] (sh, h)).bind (fun r => q_L 249 4 [(22, a0), (0, a1), (0, a2), (0, a3), (0, a4), (0, a5), (9, 0)] [r.1] r.2) :=
  (q_unL hL_X12_copy cu_X12_copy 400 0 _ _ _).trans rfl
set_option maxRecDepth 100000 in
theorem e_X12_copy_4 (a0 a1 a2 a3 a4 a5 b0 : Int) (sh : Int × (Int → Nat × Int)) (h : Int → Int → Int) : q_L 249 4 [(22, a0), (0, a1), (0, a2), (0, a3), (0, a4), (0, a5), (9, 0)] [(0, b0)] (sh, h) = if b0 = 0 then (q_L 249 14 [(22, a0), (0, a1), (0, a2), (0, a3), (0, a4), (0, a5), (9, 0)] [] (sh, h)) else ((q_Cc 246 [(0, a3)] (sh, h)).bind (fun r => q_L 249 11 [(22, a0), (0, a1), (0, a2), (0, a3), (0, a4), (0, a5), (9, 0)] [r.1] r.2)) :=
  (q_unL hL_X12_copy cu_X12_copy 400 4 _ _ _).trans rfl
set_option maxRecDepth 100000 in
theorem e_X12_copy_11 (a0 a1 a2 a3 a4 a5 b0 : Int) (sh : Int × (Int → Nat × Int)) (h : Int → Int → Int) : q_L 249 11 [(22, a0), (0, a1), (0, a2), (0, a3), (0, a4), (0, a5), (9, 0)] [(0, b0)] (sh, h) = if b0 = 0 then (q_L 249 14 [(22, a0), (0, a1), (0, a2), (0, a3), (0, a4), (0, a5), (9, 0)] [] (sh, h)) else (if 0 ≤ h a0 7 then (if 0 ≤ a1 ∧ a1 < (sh.2 (h a0 7)).2 then (if (h (h a0 7) a1) = 0 then (q_L 249 39 [(22, a0), (0, a1), (0, a2), (0, a3), (0, a4), (0, a5), (9, 0)] [] (sh, h)) else (if 0 ≤ h a0 7 then (if 0 ≤ a3 ∧ a3 < (sh.2 (h a0 7)).2 then (if (h (h a0 7) a3) = 0 then (q_L 249 39 [(22, a0), (0, a1), (0, a2), (0, a3), (0, a4), (0, a5), (9, 0)] [] (sh, h)) else (if 0 ≤ h a0 7 then (if 0 ≤ a1 ∧ a1 < (sh.2 (h a0 7)).2 then (if 0 ≤ h a0 7 then (if 0 ≤ a3 ∧ a3 < (sh.2 (h a0 7)).2 then (if (h (h a0 7) a1) = (h (h a0 7) a3) then (if a2 < 0 then (q_L 249 109 [(22, a0), (0, a1), (0, a2), (0, a3), (0, a4), (0, a5), (9, 0)] [] (sh, h)) else (if a4 < 0 then (q_L 249 109 [(22, a0), (0, a1), (0, a2), (0, a3), (0, a4), (0, a5), (9, 0)] [] (sh, h)) else (if a5 < 0 then (q_L 249 109 [(22, a0), (0, a1), (0, a2), (0, a3), (0, a4), (0, a5), (9, 0)] [] (sh, h)) else (if 0 ≤ h a0 8 then (if 0 ≤ a1 ∧ a1 < (sh.2 (h a0 8)).2 then (if (q_sub (h (h a0 8) a1) a5) < a2 then (q_L 249 109 [(22, a0), (0, a1), (0, a2), (0, a3), (0, a4), (0, a5), (9, 0)] [] (sh, h)) else (if 0 ≤ h a0 8 then (if 0 ≤ a3 ∧ a3 < (sh.2 (h a0 8)).2 then (if (q_sub (h (h a0 8) a3) a5) < a4 then (q_L 249 109 [(22, a0), (0, a1), (0, a2), (0, a3), (0, a4), (0, a5), (9, 0)] [] (sh, h)) else (q_L 249 119 [(22, a0), (0, a1), (0, a2), (0, a3), (0, a4), (0, a5), (0, 0)] [] (sh, h))) else none) else none)) else none) else none)))) else ((q_Cc 161 [(22, a0), (0, (-1000003))] (sh, h)).bind (fun r => q_L 249 67 [(22, a0), (0, a1), (0, a2), (0, a3), (0, a4), (0, a5), (9, 0)] [r.1] r.2))) else none) else none) else none) else none)) else none) else none)) else none) else none) :=
  (q_unL hL_X12_copy cu_X12_copy 400 11 _ _ _).trans rfl
set_option maxRecDepth 100000 in
theorem e_X12_copy_14 (a0 a1 a2 a3 a4 a5 : Int) (sh : Int × (Int → Nat × Int)) (h : Int → Int → Int) : q_L 249 14 [(22, a0), (0, a1), (0, a2), (0, a3), (0, a4), (0, a5), (9, 0)] [] (sh, h) = (q_Cc 161 [(22, a0), (0, (-1000001))] (sh, h)).bind (fun r => q_L 249 20 [(22, a0), (0, a1), (0, a2), (0, a3), (0, a4), (0, a5), (9, 0)] [r.1] r.2) :=
  (q_unL hL_X12_copy cu_X12_copy 400 14 _ _ _).trans rfl
set_option maxRecDepth 100000 in
theorem e_X12_copy_20 (a0 a1 a2 a3 a4 a5 b0 : Int) (sh : Int × (Int → Nat × Int)) (h : Int → Int → Int) : q_L 249 20 [(22, a0), (0, a1), (0, a2), (0, a3), (0, a4), (0, a5), (9, 0)] [(0, b0)] (sh, h) = some ((0, b0), (sh, h)) :=
  (q_unL hL_X12_copy cu_X12_copy 400 20 _ _ _).trans rfl
set_option maxRecDepth 100000 in
theorem e_X12_copy_39 (a0 a1 a2 a3 a4 a5 : Int) (sh : Int × (Int → Nat × Int)) (h : Int → Int → Int) : q_L 249 39 [(22, a0), (0, a1), (0, a2), (0, a3), (0, a4), (0, a5), (9, 0)] [] (sh, h) = (q_Cc 161 [(22, a0), (0, (-1000006))] (sh, h)).bind (fun r => q_L 249 45 [(22, a0), (0, a1), (0, a2), (0, a3), (0, a4), (0, a5), (9, 0)] [r.1] r.2) :=
  (q_unL hL_X12_copy cu_X12_copy 400 39 _ _ _).trans rfl
set_option maxRecDepth 100000 in
theorem e_X12_copy_45 (a0 a1 a2 a3 a4 a5 b0 : Int) (sh : Int × (Int → Nat × Int)) (h : Int → Int → Int) : q_L 249 45 [(22, a0), (0, a1), (0, a2), (0, a3), (0, a4), (0, a5), (9, 0)] [(0, b0)] (sh, h) = some ((0, b0), (sh, h)) :=
  (q_unL hL_X12_copy cu_X12_copy 400 45 _ _ _).trans rfl
set_option maxRecDepth 100000 in
theorem e_X12_copy_67 (a0 a1 a2 a3 a4 a5 b0 : Int) (sh : Int × (Int → Nat × Int)) (h : Int → Int → Int) : q_L 249 67 [(22, a0), (0, a1), (0, a2), (0, a3), (0, a4), (0, a5), (9, 0)] [(0, b0)] (sh, h) = some ((0, b0), (sh, h)) :=
  (q_unL hL_X12_copy cu_X12_copy 400 67 _ _ _).trans rfl
set_option maxRecDepth 100000 in
theorem e_X12_copy_109 (a0 a1 a2 a3 a4 a5 : Int) (sh : Int × (Int → Nat × Int)) (h : Int → Int → Int) : q_L 249 109 [(22, a0), (0, a1), (0, a2), (0, a3), (0, a4), (0, a5), (9, 0)] [] (sh, h) = (q_Cc 161 [(22, a0), (0, (-1000001))] (sh, h)).bind (fun r => q_L 249 115 [(22, a0), (0, a1), (0, a2), (0, a3), (0, a4), (0, a5), (9, 0)] [r.1] r.2) :=
  (q_unL hL_X12_copy cu_X12_copy 400 109 _ _ _).trans rfl
set_option maxRecDepth 100000 in
theorem e_X12_copy_115 (a0 a1 a2 a3 a4 a5 b0 : Int) (sh : Int × (Int → Nat × Int)) (h : Int → Int → Int) : q_L 249 115 [(22, a0), (0, a1), (0, a2), (0, a3), (0, a4), (0, a5), (9, 0)] [(0, b0)] (sh, h) = some ((0, b0), (sh, h)) :=
  (q_unL hL_X12_copy cu_X12_copy 400 115 _ _ _).trans rfl
set_option maxRecDepth 100000 in
theorem e_X12_copy_119 (a0 a1 a2 a3 a4 a5 a6 : Int) (sh : Int × (Int → Nat × Int)) (h : Int → Int → Int) : q_L 249 119 [(22, a0), (0, a1), (0, a2), (0, a3), (0, a4), (0, a5), (0, a6)] [] (sh, h) = if a6 < a5 then (if 0 ≤ h a0 10 then (if 0 ≤ h a0 9 then (if 0 ≤ (q_add (q_add (q_mul (24 : Int) a1) a2) a6) ∧ (q_add (q_add (q_mul (24 : Int) a1) a2) a6) < (sh.2 (h a0 9)).2 then (if 0 ≤ a6 ∧ a6 < (sh.2 (h a0 10)).2 ∧ 0 ≤ (h a0 10) then (q_L 249 119 [(22, a0), (0, a1), (0, a2), (0, a3), (0, a4), (0, a5), (0, q_w (a6 + 1))] [] (sh, q_up h (h a0 10) a6 (h (h a0 9) (q_add (q_add (q_mul (24 : Int) a1) a2) a6)))) else none) else none) else none) else none) else (q_L 249 156 [(22, a0), (0, a1), (0, a2), (0, a3), (0, a4), (0, a5), (0, 0)] [] (sh, h)) :=
  (q_unL hL_X12_copy cu_X12_copy 400 119 _ _ _).trans rfl
set_option maxRecDepth 100000 in
theorem e_X12_copy_156 (a0 a1 a2 a3 a4 a5 a6 : Int) (sh : Int × (Int → Nat × Int)) (h : Int → Int → Int) : q_L 249 156 [(22, a0), (0, a1), (0, a2), (0, a3), (0, a4), (0, a5), (0, a6)] [] (sh, h) = if a6 < a5 then (if 0 ≤ h a0 9 then (if 0 ≤ h a0 10 then (if 0 ≤ a6 ∧ a6 < (sh.2 (h a0 10)).2 then (if 0 ≤ (q_add (q_add (q_mul (24 : Int) a3) a4) a6) ∧ (q_add (q_add (q_mul (24 : Int) a3) a4) a6) < (sh.2 (h a0 9)).2 ∧ 0 ≤ (h a0 9) then (q_L 249 156 [(22, a0), (0, a1), (0, a2), (0, a3), (0, a4), (0, a5), (0, q_w (a6 + 1))] [] (sh, q_up h (h a0 9) (q_add (q_add (q_mul (24 : Int) a3) a4) a6) (h (h a0 10) a6))) else none) else none) else none) else none) else (some ((0, a5), (sh, h))) :=
  (q_unL hL_X12_copy cu_X12_copy 400 156 _ _ _).trans rfl
def cu_X12_image : List Nat := [0, 12]
theorem hL_X12_image : q_P 250 = q_find P_X12_image := rfl
theorem c_X12_image (a0 : Int) (s : q_M) : q_Cc 250 [(22, a0)] s = q_L 250 0 [(22, a0)] [] s := rfl
set_option maxRecDepth 100000 in
theorem e_X12_image_0 (a0 : Int) (sh : Int × (Int → Nat × Int)) (h : Int → Int → Int) : q_L 250 0 [(22, a0)] [] (sh, h) = if 0 ≤ h a0 1 then (if 0 ≤ h a0 0 then ((q_Cc 230 [(22, a0), (30, h a0 1), (30, h a0 0)] (sh, h)).bind (fun r => q_L 250 12 [(22, a0)] [] r.2)) else none) else none :=
  (q_unL hL_X12_image cu_X12_image 400 0 _ _ _).trans rfl
set_option maxRecDepth 100000 in
theorem e_X12_image_12 (a0 : Int) (sh : Int × (Int → Nat × Int)) (h : Int → Int → Int) : q_L 250 12 [(22, a0)] [] (sh, h) = if (1 : Int) = 0 ∨ (1 : Int) = 1 then (some ((0, 1), (sh, q_up h a0 3 (1 : Int)))) else none :=
  (q_unL hL_X12_image cu_X12_image 400 12 _ _ _).trans rfl
def cu_X12_undo : List Nat := [0, 13, 26]
theorem hL_X12_undo : q_P 251 = q_find P_X12_undo := rfl
theorem c_X12_undo (a0 : Int) (s : q_M) : q_Cc 251 [(22, a0)] s = q_L 251 0 [(22, a0)] [] s := rfl
set_option maxRecDepth 100000 in
theorem e_X12_undo_0 (a0 : Int) (sh : Int × (Int → Nat × Int)) (h : Int → Int → Int) : q_L 251 0 [(22, a0)] [] (sh, h) = if (h a0 3) = 0 then ((q_Cc 161 [(22, a0), (0, (-1000004))] (sh, h)).bind (fun r => q_L 251 13 [(22, a0)] [r.1] r.2)) else (if 0 ≤ h a0 0 then (if 0 ≤ h a0 1 then ((q_Cc 230 [(22, a0), (30, h a0 0), (30, h a0 1)] (sh, h)).bind (fun r => q_L 251 26 [(22, a0)] [] r.2)) else none) else none) :=
  (q_unL hL_X12_undo cu_X12_undo 400 0 _ _ _).trans rfl
set_option maxRecDepth 100000 in
theorem e_X12_undo_13 (a0 b0 : Int) (sh : Int × (Int → Nat × Int)) (h : Int → Int → Int) : q_L 251 13 [(22, a0)] [(0, b0)] (sh, h) = some ((0, b0), (sh, h)) :=
  (q_unL hL_X12_undo cu_X12_undo 400 13 _ _ _).trans rfl
set_option maxRecDepth 100000 in
theorem e_X12_undo_26 (a0 : Int) (sh : Int × (Int → Nat × Int)) (h : Int → Int → Int) : q_L 251 26 [(22, a0)] [] (sh, h) = if 0 ≤ h a0 0 then (if 0 ≤ (0 : Int) ∧ (0 : Int) < (sh.2 (h a0 0)).2 then (some ((0, h (h a0 0) (0 : Int)), (sh, h))) else none) else none :=
  (q_unL hL_X12_undo cu_X12_undo 400 26 _ _ _).trans rfl
def cu_X12_tear : List Nat := [0, 12]
theorem hL_X12_tear : q_P 252 = q_find P_X12_tear := rfl
theorem c_X12_tear (a0 : Int) (s : q_M) : q_Cc 252 [(22, a0)] s = q_L 252 0 [(22, a0), (9, 0)] [] s := rfl
set_option maxRecDepth 100000 in
theorem e_X12_tear_0 (a0 : Int) (sh : Int × (Int → Nat × Int)) (h : Int → Int → Int) : q_L 252 0 [(22, a0), (9, 0)] [] (sh, h) = if (h a0 3) = 0 then (q_L 252 12 [(22, a0), (9, 0)] [(0, 0)] (sh, h)) else (q_L 252 12 [(22, a0), (9, 0)] [(0, 1)] (sh, h)) :=
  (q_unL hL_X12_tear cu_X12_tear 400 0 _ _ _).trans rfl
set_option maxRecDepth 100000 in
theorem e_X12_tear_12 (a0 b0 : Int) (sh : Int × (Int → Nat × Int)) (h : Int → Int → Int) : q_L 252 12 [(22, a0), (9, 0)] [(0, b0)] (sh, h) = if (0 : Int) = 0 ∨ (0 : Int) = 1 then (some ((0, b0), (sh, q_up h a0 3 (0 : Int)))) else none :=
  (q_unL hL_X12_tear cu_X12_tear 400 12 _ _ _).trans rfl
def cu_X12_manyIn : List Nat := [0, 4, 34]
theorem hL_X12_manyIn : q_P 253 = q_find P_X12_manyIn := rfl
theorem c_X12_manyIn (a0 a1 : Int) (s : q_M) : q_Cc 253 [(22, a0), (0, a1)] s = q_L 253 0 [(22, a0), (0, a1), (9, 0), (9, 0)] [] s := rfl
set_option maxRecDepth 100000 in
theorem e_X12_manyIn_0 (a0 a1 : Int) (sh : Int × (Int → Nat × Int)) (h : Int → Int → Int) : q_L 253 0 [(22, a0), (0, a1), (9, 0), (9, 0)] [] (sh, h) = q_L 253 4 [(22, a0), (0, a1), (0, 0), (0, 0)] [] (sh, h) :=
  (q_unL hL_X12_manyIn cu_X12_manyIn 400 0 _ _ _).trans rfl
set_option maxRecDepth 100000 in
theorem e_X12_manyIn_4 (a0 a1 a2 a3 : Int) (sh : Int × (Int → Nat × Int)) (h : Int → Int → Int) : q_L 253 4 [(22, a0), (0, a1), (0, a2), (0, a3)] [] (sh, h) = if 0 ≤ h a0 0 then (if 0 ≤ (3 : Int) ∧ (3 : Int) < (sh.2 (h a0 0)).2 then (if a3 < (h (h a0 0) (3 : Int)) then (if 0 ≤ h a0 0 then (if 0 ≤ (q_add (480 : Int) a3) ∧ (q_add (480 : Int) a3) < (sh.2 (h a0 0)).2 then (if (h (h a0 0) (q_add (480 : Int) a3)) = a1 then (q_L 253 34 [(22, a0), (0, a1), (0, a2), (0, a3)] [(0, 1), (0, a2)] (sh, h)) else (q_L 253 34 [(22, a0), (0, a1), (0, a2), (0, a3)] [(0, 0), (0, a2)] (sh, h))) else none) else none) else (some ((0, a2), (sh, h)))) else none) else none :=
  (q_unL hL_X12_manyIn cu_X12_manyIn 400 4 _ _ _).trans rfl
set_option maxRecDepth 100000 in
theorem e_X12_manyIn_34 (a0 a1 a2 a3 b0 b1 : Int) (sh : Int × (Int → Nat × Int)) (h : Int → Int → Int) : q_L 253 34 [(22, a0), (0, a1), (0, a2), (0, a3)] [(0, b1), (0, b0)] (sh, h) = q_L 253 4 [(22, a0), (0, a1), (0, q_add b0 b1), (0, q_w (a3 + 1))] [] (sh, h) :=
  (q_unL hL_X12_manyIn cu_X12_manyIn 400 34 _ _ _).trans rfl
def cu_X12_count : List Nat := [0, 77, 121, 128, 143, 175, 212, 213, 229]
theorem hL_X12_count : q_P 254 = q_find P_X12_count := rfl
theorem c_X12_count (a0 a1 : Int) (s : q_M) : q_Cc 254 [(22, a0), (0, a1)] s = q_L 254 0 [(22, a0), (0, a1), (9, 0), (9, 0)] [] s := rfl
set_option maxRecDepth 100000 in
theorem e_X12_count_0 (a0 a1 : Int) (sh : Int × (Int → Nat × Int)) (h : Int → Int → Int) : q_L 254 0 [(22, a0), (0, a1), (9, 0), (9, 0)] [] (sh, h) = if a1 = 0 then (if 0 ≤ h a0 0 then (if 0 ≤ (1 : Int) ∧ (1 : Int) < (sh.2 (h a0 0)).2 then (some ((0, h (h a0 0) (1 : Int)), (sh, h))) else none) else none) else (if a1 = 1 then (q_L 254 77 [(22, a0), (0, a1), (0, 0), (0, 0)] [] (sh, h)) else (if a1 = 2 then (if 0 ≤ h a0 0 then (if 0 ≤ (2 : Int) ∧ (2 : Int) < (sh.2 (h a0 0)).2 then (some ((0, h (h a0 0) (2 : Int)), (sh, h))) else none) else none) else (if a1 = 3 then (if 0 ≤ h a0 0 then (if 0 ≤ (3 : Int) ∧ (3 : Int) < (sh.2 (h a0 0)).2 then (some ((0, h (h a0 0) (3 : Int)), (sh, h))) else none) else none) else (if a1 = 4 then (q_L 254 121 [(22, a0), (0, a1), (0, 0), (9, 0)] [] (sh, h)) else (if a1 = 5 then (q_L 254 121 [(22, a0), (0, a1), (0, 0), (9, 0)] [] (sh, h)) else (if a1 = 6 then (q_L 254 121 [(22, a0), (0, a1), (0, 0), (9, 0)] [] (sh, h)) else (if a1 = 7 then (q_L 254 121 [(22, a0), (0, a1), (0, 0), (9, 0)] [] (sh, h)) else (if a1 = 8 then (q_L 254 121 [(22, a0), (0, a1), (0, 0), (9, 0)] [] (sh, h)) else (if a1 = 9 then (if 0 ≤ h a0 0 then (if 0 ≤ (0 : Int) ∧ (0 : Int) < (sh.2 (h a0 0)).2 then (some ((0, h (h a0 0) (0 : Int)), (sh, h))) else none) else none) else (if a1 = 10 then (some ((0, h a0 5), (sh, h))) else (if a1 = 11 then (q_L 254 143 [(22, a0), (0, a1), (0, 0), (0, 0)] [] (sh, h)) else (if a1 = 12 then (q_L 254 175 [(22, a0), (0, a1), (0, 0), (0, 0)] [] (sh, h)) else ((q_Cc 161 [(22, a0), (0, (-1000001))] (sh, h)).bind (fun r => q_L 254 229 [(22, a0), (0, a1), (0, 0), (9, 0)] [r.1] r.2)))))))))))))) :=
  (q_unL hL_X12_count cu_X12_count 400 0 _ _ _).trans rfl
set_option maxRecDepth 100000 in
theorem e_X12_count_77 (a0 a1 a2 a3 : Int) (sh : Int × (Int → Nat × Int)) (h : Int → Int → Int) : q_L 254 77 [(22, a0), (0, a1), (0, a2), (0, a3)] [] (sh, h) = if 0 ≤ h a0 0 then (if 0 ≤ (1 : Int) ∧ (1 : Int) < (sh.2 (h a0 0)).2 then (if a3 < (h (h a0 0) (1 : Int)) then (if 0 ≤ h a0 0 then (if 0 ≤ (q_add (70 : Int) a3) ∧ (q_add (70 : Int) a3) < (sh.2 (h a0 0)).2 then (q_L 254 77 [(22, a0), (0, a1), (0, q_add a2 (h (h a0 0) (q_add (70 : Int) a3))), (0, q_w (a3 + 1))] [] (sh, h)) else none) else none) else (some ((0, a2), (sh, h)))) else none) else none :=
  (q_unL hL_X12_count cu_X12_count 400 77 _ _ _).trans rfl
set_option maxRecDepth 100000 in
theorem e_X12_count_121 (a0 a1 a2 : Int) (sh : Int × (Int → Nat × Int)) (h : Int → Int → Int) : q_L 254 121 [(22, a0), (0, a1), (0, a2), (9, 0)] [] (sh, h) = (q_Cc 253 [(22, a0), (0, q_sub a1 (4 : Int))] (sh, h)).bind (fun r => q_L 254 128 [(22, a0), (0, a1), (0, a2), (9, 0)] [r.1] r.2) :=
  (q_unL hL_X12_count cu_X12_count 400 121 _ _ _).trans rfl
set_option maxRecDepth 100000 in
theorem e_X12_count_128 (a0 a1 a2 b0 : Int) (sh : Int × (Int → Nat × Int)) (h : Int → Int → Int) : q_L 254 128 [(22, a0), (0, a1), (0, a2), (9, 0)] [(0, b0)] (sh, h) = some ((0, b0), (sh, h)) :=
  (q_unL hL_X12_count cu_X12_count 400 128 _ _ _).trans rfl
set_option maxRecDepth 100000 in
theorem e_X12_count_143 (a0 a1 a2 a3 : Int) (sh : Int × (Int → Nat × Int)) (h : Int → Int → Int) : q_L 254 143 [(22, a0), (0, a1), (0, a2), (0, a3)] [] (sh, h) = if 0 ≤ h a0 0 then (if 0 ≤ (2 : Int) ∧ (2 : Int) < (sh.2 (h a0 0)).2 then (if a3 < (h (h a0 0) (2 : Int)) then (if 0 ≤ h a0 0 then (if 0 ≤ (q_add (108 : Int) a3) ∧ (q_add (108 : Int) a3) < (sh.2 (h a0 0)).2 then (q_L 254 143 [(22, a0), (0, a1), (0, q_add a2 (h (h a0 0) (q_add (108 : Int) a3))), (0, q_w (a3 + 1))] [] (sh, h)) else none) else none) else (some ((0, a2), (sh, h)))) else none) else none :=
  (q_unL hL_X12_count cu_X12_count 400 143 _ _ _).trans rfl
set_option maxRecDepth 100000 in
theorem e_X12_count_175 (a0 a1 a2 a3 : Int) (sh : Int × (Int → Nat × Int)) (h : Int → Int → Int) : q_L 254 175 [(22, a0), (0, a1), (0, a2), (0, a3)] [] (sh, h) = if a3 < (64 : Int) then (if 0 ≤ h a0 0 then (if 0 ≤ (q_add (1290 : Int) a3) ∧ (q_add (1290 : Int) a3) < (sh.2 (h a0 0)).2 then (if (h (h a0 0) (q_add (1290 : Int) a3)) = 0 then (if 0 ≤ h a0 0 then (if 0 ≤ (q_add (1226 : Int) a3) ∧ (q_add (1226 : Int) a3) < (sh.2 (h a0 0)).2 then (if 0 < (h (h a0 0) (q_add (1226 : Int) a3)) then (q_L 254 213 [(22, a0), (0, a1), (0, a2), (0, a3)] [(0, 1), (0, a2)] (sh, h)) else (q_L 254 212 [(22, a0), (0, a1), (0, a2), (0, a3)] [(0, a2)] (sh, h))) else none) else none) else (q_L 254 212 [(22, a0), (0, a1), (0, a2), (0, a3)] [(0, a2)] (sh, h))) else none) else none) else (some ((0, a2), (sh, h))) :=
  (q_unL hL_X12_count cu_X12_count 400 175 _ _ _).trans rfl
set_option maxRecDepth 100000 in
theorem e_X12_count_212 (a0 a1 a2 a3 b0 : Int) (sh : Int × (Int → Nat × Int)) (h : Int → Int → Int) : q_L 254 212 [(22, a0), (0, a1), (0, a2), (0, a3)] [(0, b0)] (sh, h) = q_L 254 213 [(22, a0), (0, a1), (0, a2), (0, a3)] [(0, 0), (0, b0)] (sh, h) :=
  (q_unL hL_X12_count cu_X12_count 400 212 _ _ _).trans rfl
set_option maxRecDepth 100000 in
theorem e_X12_count_213 (a0 a1 a2 a3 b0 b1 : Int) (sh : Int × (Int → Nat × Int)) (h : Int → Int → Int) : q_L 254 213 [(22, a0), (0, a1), (0, a2), (0, a3)] [(0, b1), (0, b0)] (sh, h) = q_L 254 175 [(22, a0), (0, a1), (0, q_add b0 b1), (0, q_w (a3 + 1))] [] (sh, h) :=
  (q_unL hL_X12_count cu_X12_count 400 213 _ _ _).trans rfl
set_option maxRecDepth 100000 in
theorem e_X12_count_229 (a0 a1 a2 b0 : Int) (sh : Int × (Int → Nat × Int)) (h : Int → Int → Int) : q_L 254 229 [(22, a0), (0, a1), (0, a2), (9, 0)] [(0, b0)] (sh, h) = some ((0, b0), (sh, h)) :=
  (q_unL hL_X12_count cu_X12_count 400 229 _ _ _).trans rfl
def cu_X12_status : List Nat := [0, 7, 16, 21, 38, 48]
theorem hL_X12_status : q_P 255 = q_find P_X12_status := rfl
theorem c_X12_status (a0 a1 : Int) (s : q_M) : q_Cc 255 [(22, a0), (0, a1)] s = q_L 255 0 [(22, a0), (0, a1), (9, 0), (9, 0)] [] s := rfl
set_option maxRecDepth 100000 in
theorem e_X12_status_0 (a0 a1 : Int) (sh : Int × (Int → Nat × Int)) (h : Int → Int → Int) : q_L 255 0 [(22, a0), (0, a1), (9, 0), (9, 0)] [] (sh, h) = (q_Cc 162 [(0, a1), (0, (-1)), (0, 6)] (sh, h)).bind (fun r => q_L 255 7 [(22, a0), (0, a1), (9, 0), (9, 0)] [r.1] r.2) :=
  (q_unL hL_X12_status cu_X12_status 400 0 _ _ _).trans rfl
set_option maxRecDepth 100000 in
theorem e_X12_status_7 (a0 a1 b0 : Int) (sh : Int × (Int → Nat × Int)) (h : Int → Int → Int) : q_L 255 7 [(22, a0), (0, a1), (9, 0), (9, 0)] [(0, b0)] (sh, h) = if b0 = 0 then ((q_Cc 161 [(22, a0), (0, (-1000001))] (sh, h)).bind (fun r => q_L 255 16 [(22, a0), (0, a1), (9, 0), (9, 0)] [r.1] r.2)) else (q_L 255 21 [(22, a0), (0, a1), (0, 0), (0, 0)] [] (sh, h)) :=
  (q_unL hL_X12_status cu_X12_status 400 7 _ _ _).trans rfl
set_option maxRecDepth 100000 in
theorem e_X12_status_16 (a0 a1 b0 : Int) (sh : Int × (Int → Nat × Int)) (h : Int → Int → Int) : q_L 255 16 [(22, a0), (0, a1), (9, 0), (9, 0)] [(0, b0)] (sh, h) = some ((0, b0), (sh, h)) :=
  (q_unL hL_X12_status cu_X12_status 400 16 _ _ _).trans rfl
set_option maxRecDepth 100000 in
theorem e_X12_status_21 (a0 a1 a2 a3 : Int) (sh : Int × (Int → Nat × Int)) (h : Int → Int → Int) : q_L 255 21 [(22, a0), (0, a1), (0, a2), (0, a3)] [] (sh, h) = if a3 < (7 : Int) then (if a1 = (-1 : Int) then (q_L 255 38 [(22, a0), (0, a1), (0, a2), (0, a3)] [(0, a2)] (sh, h)) else (if a1 = a3 then (q_L 255 38 [(22, a0), (0, a1), (0, a2), (0, a3)] [(0, a2)] (sh, h)) else (q_L 255 48 [(22, a0), (0, a1), (0, a2), (0, a3)] [(0, 0), (0, a2)] (sh, h)))) else (some ((0, a2), (sh, h))) :=
  (q_unL hL_X12_status cu_X12_status 400 21 _ _ _).trans rfl
set_option maxRecDepth 100000 in
theorem e_X12_status_38 (a0 a1 a2 a3 b0 : Int) (sh : Int × (Int → Nat × Int)) (h : Int → Int → Int) : q_L 255 38 [(22, a0), (0, a1), (0, a2), (0, a3)] [(0, b0)] (sh, h) = if 0 ≤ h a0 6 then (if 0 ≤ a3 ∧ a3 < (sh.2 (h a0 6)).2 then (q_L 255 48 [(22, a0), (0, a1), (0, a2), (0, a3)] [(0, h (h a0 6) a3), (0, b0)] (sh, h)) else none) else none :=
  (q_unL hL_X12_status cu_X12_status 400 38 _ _ _).trans rfl
set_option maxRecDepth 100000 in
theorem e_X12_status_48 (a0 a1 a2 a3 b0 b1 : Int) (sh : Int × (Int → Nat × Int)) (h : Int → Int → Int) : q_L 255 48 [(22, a0), (0, a1), (0, a2), (0, a3)] [(0, b1), (0, b0)] (sh, h) = q_L 255 21 [(22, a0), (0, a1), (0, q_add b0 b1), (0, q_w (a3 + 1))] [] (sh, h) :=
  (q_unL hL_X12_status cu_X12_status 400 48 _ _ _).trans rfl
