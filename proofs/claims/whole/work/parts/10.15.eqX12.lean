def cu_X12_readAll : List Nat := [0, 16, 18, 27, 54, 55, 64, 85]
theorem hL_X12_readAll : q_P 194 = q_find P_X12_readAll := rfl
theorem c_X12_readAll (a0 : Int) (s : q_M) : q_Cc 194 [(22, a0)] s = q_L 194 0 [(22, a0), (9, 0), (9, 0)] [] s := rfl
set_option maxRecDepth 100000 in
theorem e_X12_readAll_0 (a0 : Int) (sh : Int × (Int → Nat × Int)) (h : Int → Int → Int) : q_L 194 0 [(22, a0), (9, 0), (9, 0)] [] (sh, h) = (q_Cc 190 [(22, a0)] (sh, q_up (q_up h a0 11 (0 : Int)) a0 15 (-1 : Int))).bind (fun r => q_L 194 16 [(22, a0), (0, 0), (9, 0)] [] r.2) :=
  (q_unL hL_X12_readAll cu_X12_readAll 400 0 _ _ _).trans rfl
set_option maxRecDepth 100000 in
theorem e_X12_readAll_16 (a0 a1 : Int) (sh : Int × (Int → Nat × Int)) (h : Int → Int → Int) : q_L 194 16 [(22, a0), (0, a1), (9, 0)] [] (sh, h) = q_L 194 18 [(22, a0), (0, a1), (0, 1)] [] (sh, h) :=
  (q_unL hL_X12_readAll cu_X12_readAll 400 16 _ _ _).trans rfl
set_option maxRecDepth 100000 in
theorem e_X12_readAll_18 (a0 a1 a2 : Int) (sh : Int × (Int → Nat × Int)) (h : Int → Int → Int) : q_L 194 18 [(22, a0), (0, a1), (0, a2)] [] (sh, h) = if a2 = 0 then (if (h a0 15) < 0 then (if (h a0 13) = 0 then (q_L 194 85 [(22, a0), (0, a1), (0, a2)] [] (sh, h)) else ((q_Cc 191 [(22, a0)] (sh, h)).bind (fun r => q_L 194 85 [(22, a0), (0, a1), (0, a2)] [] r.2))) else (q_L 194 85 [(22, a0), (0, a1), (0, a2)] [] (sh, h))) else ((q_Cc 193 [(22, a0), (0, a1)] (sh, h)).bind (fun r => q_L 194 27 [(22, a0), (0, a1), (0, a2)] [] r.2)) :=
  (q_unL hL_X12_readAll cu_X12_readAll 400 18 _ _ _).trans rfl
set_option maxRecDepth 100000 in
theorem e_X12_readAll_27 (a0 a1 a2 : Int) (sh : Int × (Int → Nat × Int)) (h : Int → Int → Int) : q_L 194 27 [(22, a0), (0, a1), (0, a2)] [] (sh, h) = if (h a0 15) < 0 then (if (h a0 13) = (3 : Int) then (if (q_w (a1 + 1)) < (4 : Int) then (q_L 194 55 [(22, a0), (0, q_w (a1 + 1)), (0, a2)] [(0, 1)] (sh, h)) else (q_L 194 54 [(22, a0), (0, q_w (a1 + 1)), (0, a2)] [] (sh, h))) else (q_L 194 54 [(22, a0), (0, q_w (a1 + 1)), (0, a2)] [] (sh, h))) else (q_L 194 54 [(22, a0), (0, q_w (a1 + 1)), (0, a2)] [] (sh, h)) :=
  (q_unL hL_X12_readAll cu_X12_readAll 400 27 _ _ _).trans rfl
set_option maxRecDepth 100000 in
theorem e_X12_readAll_54 (a0 a1 a2 : Int) (sh : Int × (Int → Nat × Int)) (h : Int → Int → Int) : q_L 194 54 [(22, a0), (0, a1), (0, a2)] [] (sh, h) = q_L 194 55 [(22, a0), (0, a1), (0, a2)] [(0, 0)] (sh, h) :=
  (q_unL hL_X12_readAll cu_X12_readAll 400 54 _ _ _).trans rfl
set_option maxRecDepth 100000 in
theorem e_X12_readAll_55 (a0 a1 a2 b0 : Int) (sh : Int × (Int → Nat × Int)) (h : Int → Int → Int) : q_L 194 55 [(22, a0), (0, a1), (0, a2)] [(0, b0)] (sh, h) = if b0 = 0 then (q_L 194 18 [(22, a0), (0, a1), (0, b0)] [] (sh, h)) else ((q_Cc 190 [(22, a0)] (sh, h)).bind (fun r => q_L 194 64 [(22, a0), (0, a1), (0, b0)] [] r.2)) :=
  (q_unL hL_X12_readAll cu_X12_readAll 400 55 _ _ _).trans rfl
set_option maxRecDepth 100000 in
theorem e_X12_readAll_64 (a0 a1 a2 : Int) (sh : Int × (Int → Nat × Int)) (h : Int → Int → Int) : q_L 194 64 [(22, a0), (0, a1), (0, a2)] [] (sh, h) = q_L 194 18 [(22, a0), (0, a1), (0, a2)] [] (sh, h) :=
  (q_unL hL_X12_readAll cu_X12_readAll 400 64 _ _ _).trans rfl
set_option maxRecDepth 100000 in
theorem e_X12_readAll_85 (a0 a1 a2 : Int) (sh : Int × (Int → Nat × Int)) (h : Int → Int → Int) : q_L 194 85 [(22, a0), (0, a1), (0, a2)] [] (sh, h) = some ((0, a1), (sh, h)) :=
  (q_unL hL_X12_readAll cu_X12_readAll 400 85 _ _ _).trans rfl
def cu_X12_asks : List Nat := [0, 4, 43, 51, 66]
theorem hL_X12_asks : q_P 195 = q_find P_X12_asks := rfl
theorem c_X12_asks (a0 : Int) (s : q_M) : q_Cc 195 [(22, a0)] s = q_L 195 0 [(22, a0), (9, 0), (9, 0), (9, 0), (9, 0)] [] s := rfl
set_option maxRecDepth 100000 in
theorem e_X12_asks_0 (a0 : Int) (sh : Int × (Int → Nat × Int)) (h : Int → Int → Int) : q_L 195 0 [(22, a0), (9, 0), (9, 0), (9, 0), (9, 0)] [] (sh, h) = (q_Cc 194 [(22, a0)] (sh, h)).bind (fun r => q_L 195 4 [(22, a0), (9, 0), (9, 0), (9, 0), (9, 0)] [r.1] r.2) :=
  (q_unL hL_X12_asks cu_X12_asks 400 0 _ _ _).trans rfl
set_option maxRecDepth 100000 in
theorem e_X12_asks_4 (a0 b0 : Int) (sh : Int × (Int → Nat × Int)) (h : Int → Int → Int) : q_L 195 4 [(22, a0), (9, 0), (9, 0), (9, 0), (9, 0)] [(0, b0)] (sh, h) = if (h a0 15) < 0 then (if 0 ≤ h a0 0 then (if 0 ≤ (3 : Int) ∧ (3 : Int) < (sh.2 (h a0 0)).2 then (if (14 : Int) < (q_add (h (h a0 0) (3 : Int)) b0) then ((q_Cc 161 [(22, a0), (0, (-1000002))] (sh, h)).bind (fun r => q_L 195 43 [(22, a0), (0, b0), (9, 0), (9, 0), (9, 0)] [r.1] r.2)) else (q_L 195 51 [(22, a0), (0, b0), (0, 0), (9, 0), (9, 0)] [] (sh, q_up h a0 5 (0 : Int)))) else none) else none) else (some ((0, q_sub (-1 : Int) ((q_up h a0 5 (0 : Int)) a0 15)), (sh, q_up h a0 5 (0 : Int)))) :=
  (q_unL hL_X12_asks cu_X12_asks 400 4 _ _ _).trans rfl
set_option maxRecDepth 100000 in
theorem e_X12_asks_43 (a0 a1 b0 : Int) (sh : Int × (Int → Nat × Int)) (h : Int → Int → Int) : q_L 195 43 [(22, a0), (0, a1), (9, 0), (9, 0), (9, 0)] [(0, b0)] (sh, h) = some ((0, b0), (sh, h)) :=
  (q_unL hL_X12_asks cu_X12_asks 400 43 _ _ _).trans rfl
set_option maxRecDepth 100000 in
theorem e_X12_asks_51 (a0 a1 a2 : Int) (x3 x4 : q_V) (sh : Int × (Int → Nat × Int)) (h : Int → Int → Int) : q_L 195 51 [(22, a0), (0, a1), (0, a2), x3, x4] [] (sh, h) = if a2 < a1 then (if 0 ≤ h a0 0 then (if 0 ≤ (3 : Int) ∧ (3 : Int) < (sh.2 (h a0 0)).2 then (q_L 195 66 [(22, a0), (0, a1), (0, a2), (0, h (h a0 0) (3 : Int)), (0, 0)] [] (sh, h)) else none) else none) else (some ((0, a1), (sh, h))) :=
  (q_unL hL_X12_asks cu_X12_asks 400 51 _ _ _).trans rfl
set_option maxRecDepth 100000 in
theorem e_X12_asks_66 (a0 a1 a2 a3 a4 : Int) (sh : Int × (Int → Nat × Int)) (h : Int → Int → Int) : q_L 195 66 [(22, a0), (0, a1), (0, a2), (0, a3), (0, a4)] [] (sh, h) = if a4 < (6 : Int) then (if 0 ≤ h a0 0 then (if 0 ≤ h a0 16 then (if 0 ≤ (q_add (q_mul (6 : Int) a2) a4) ∧ (q_add (q_mul (6 : Int) a2) a4) < (sh.2 (h a0 16)).2 then (if 0 ≤ (q_add (q_add (396 : Int) (q_mul (14 : Int) a4)) a3) ∧ (q_add (q_add (396 : Int) (q_mul (14 : Int) a4)) a3) < (sh.2 (h a0 0)).2 ∧ 0 ≤ (h a0 0) then (q_L 195 66 [(22, a0), (0, a1), (0, a2), (0, a3), (0, q_w (a4 + 1))] [] (sh, q_up h (h a0 0) (q_add (q_add (396 : Int) (q_mul (14 : Int) a4)) a3) (h (h a0 16) (q_add (q_mul (6 : Int) a2) a4)))) else none) else none) else none) else none) else (if 0 ≤ h a0 0 then (if 0 ≤ (q_add (480 : Int) a3) ∧ (q_add (480 : Int) a3) < (sh.2 (h a0 0)).2 ∧ 0 ≤ (h a0 0) then (if 0 ≤ (q_up h (h a0 0) (q_add (480 : Int) a3) (0 : Int)) a0 0 then (if 0 ≤ (q_add (494 : Int) a3) ∧ (q_add (494 : Int) a3) < (sh.2 ((q_up h (h a0 0) (q_add (480 : Int) a3) (0 : Int)) a0 0)).2 ∧ 0 ≤ ((q_up h (h a0 0) (q_add (480 : Int) a3) (0 : Int)) a0 0) then (if 0 ≤ (q_up (q_up h (h a0 0) (q_add (480 : Int) a3) (0 : Int)) ((q_up h (h a0 0) (q_add (480 : Int) a3) (0 : Int)) a0 0) (q_add (494 : Int) a3) (-1 : Int)) a0 0 then (if 0 ≤ (q_add (508 : Int) a3) ∧ (q_add (508 : Int) a3) < (sh.2 ((q_up (q_up h (h a0 0) (q_add (480 : Int) a3) (0 : Int)) ((q_up h (h a0 0) (q_add (480 : Int) a3) (0 : Int)) a0 0) (q_add (494 : Int) a3) (-1 : Int)) a0 0)).2 ∧ 0 ≤ ((q_up (q_up h (h a0 0) (q_add (480 : Int) a3) (0 : Int)) ((q_up h (h a0 0) (q_add (480 : Int) a3) (0 : Int)) a0 0) (q_add (494 : Int) a3) (-1 : Int)) a0 0) then (if 0 ≤ (q_up (q_up (q_up h (h a0 0) (q_add (480 : Int) a3) (0 : Int)) ((q_up h (h a0 0) (q_add (480 : Int) a3) (0 : Int)) a0 0) (q_add (494 : Int) a3) (-1 : Int)) ((q_up (q_up h (h a0 0) (q_add (480 : Int) a3) (0 : Int)) ((q_up h (h a0 0) (q_add (480 : Int) a3) (0 : Int)) a0 0) (q_add (494 : Int) a3) (-1 : Int)) a0 0) (q_add (508 : Int) a3) (-1 : Int)) a0 0 then (if 0 ≤ (3 : Int) ∧ (3 : Int) < (sh.2 ((q_up (q_up (q_up h (h a0 0) (q_add (480 : Int) a3) (0 : Int)) ((q_up h (h a0 0) (q_add (480 : Int) a3) (0 : Int)) a0 0) (q_add (494 : Int) a3) (-1 : Int)) ((q_up (q_up h (h a0 0) (q_add (480 : Int) a3) (0 : Int)) ((q_up h (h a0 0) (q_add (480 : Int) a3) (0 : Int)) a0 0) (q_add (494 : Int) a3) (-1 : Int)) a0 0) (q_add (508 : Int) a3) (-1 : Int)) a0 0)).2 then (if 0 ≤ (3 : Int) ∧ (3 : Int) < (sh.2 ((q_up (q_up (q_up h (h a0 0) (q_add (480 : Int) a3) (0 : Int)) ((q_up h (h a0 0) (q_add (480 : Int) a3) (0 : Int)) a0 0) (q_add (494 : Int) a3) (-1 : Int)) ((q_up (q_up h (h a0 0) (q_add (480 : Int) a3) (0 : Int)) ((q_up h (h a0 0) (q_add (480 : Int) a3) (0 : Int)) a0 0) (q_add (494 : Int) a3) (-1 : Int)) a0 0) (q_add (508 : Int) a3) (-1 : Int)) a0 0)).2 ∧ 0 ≤ ((q_up (q_up (q_up h (h a0 0) (q_add (480 : Int) a3) (0 : Int)) ((q_up h (h a0 0) (q_add (480 : Int) a3) (0 : Int)) a0 0) (q_add (494 : Int) a3) (-1 : Int)) ((q_up (q_up h (h a0 0) (q_add (480 : Int) a3) (0 : Int)) ((q_up h (h a0 0) (q_add (480 : Int) a3) (0 : Int)) a0 0) (q_add (494 : Int) a3) (-1 : Int)) a0 0) (q_add (508 : Int) a3) (-1 : Int)) a0 0) then (q_L 195 51 [(22, a0), (0, a1), (0, q_w (a2 + 1)), (0, a3), (0, a4)] [] (sh, q_up (q_up (q_up (q_up h (h a0 0) (q_add (480 : Int) a3) (0 : Int)) ((q_up h (h a0 0) (q_add (480 : Int) a3) (0 : Int)) a0 0) (q_add (494 : Int) a3) (-1 : Int)) ((q_up (q_up h (h a0 0) (q_add (480 : Int) a3) (0 : Int)) ((q_up h (h a0 0) (q_add (480 : Int) a3) (0 : Int)) a0 0) (q_add (494 : Int) a3) (-1 : Int)) a0 0) (q_add (508 : Int) a3) (-1 : Int)) ((q_up (q_up (q_up h (h a0 0) (q_add (480 : Int) a3) (0 : Int)) ((q_up h (h a0 0) (q_add (480 : Int) a3) (0 : Int)) a0 0) (q_add (494 : Int) a3) (-1 : Int)) ((q_up (q_up h (h a0 0) (q_add (480 : Int) a3) (0 : Int)) ((q_up h (h a0 0) (q_add (480 : Int) a3) (0 : Int)) a0 0) (q_add (494 : Int) a3) (-1 : Int)) a0 0) (q_add (508 : Int) a3) (-1 : Int)) a0 0) (3 : Int) (q_add ((q_up (q_up (q_up h (h a0 0) (q_add (480 : Int) a3) (0 : Int)) ((q_up h (h a0 0) (q_add (480 : Int) a3) (0 : Int)) a0 0) (q_add (494 : Int) a3) (-1 : Int)) ((q_up (q_up h (h a0 0) (q_add (480 : Int) a3) (0 : Int)) ((q_up h (h a0 0) (q_add (480 : Int) a3) (0 : Int)) a0 0) (q_add (494 : Int) a3) (-1 : Int)) a0 0) (q_add (508 : Int) a3) (-1 : Int)) ((q_up (q_up (q_up h (h a0 0) (q_add (480 : Int) a3) (0 : Int)) ((q_up h (h a0 0) (q_add (480 : Int) a3) (0 : Int)) a0 0) (q_add (494 : Int) a3) (-1 : Int)) ((q_up (q_up h (h a0 0) (q_add (480 : Int) a3) (0 : Int)) ((q_up h (h a0 0) (q_add (480 : Int) a3) (0 : Int)) a0 0) (q_add (494 : Int) a3) (-1 : Int)) a0 0) (q_add (508 : Int) a3) (-1 : Int)) a0 0) (3 : Int)) (1 : Int)))) else none) else none) else none) else none) else none) else none) else none) else none) else none) :=
  (q_unL hL_X12_asks cu_X12_asks 400 66 _ _ _).trans rfl
def cu_X12_isHear : List Nat := [0, 16, 21]
theorem hL_X12_isHear : q_P 196 = q_find P_X12_isHear := rfl
theorem c_X12_isHear (a0 : Int) (s : q_M) : q_Cc 196 [(0, a0)] s = q_L 196 0 [(0, a0)] [] s := rfl
set_option maxRecDepth 100000 in
theorem e_X12_isHear_0 (a0 : Int) (sh : Int × (Int → Nat × Int)) (h : Int → Int → Int) : q_L 196 0 [(0, a0)] [] (sh, h) = if a0 = (2 : Int) then (q_L 196 16 [(0, a0)] [] (sh, h)) else (if a0 = (5 : Int) then (q_L 196 16 [(0, a0)] [] (sh, h)) else (if a0 = (6 : Int) then (q_L 196 16 [(0, a0)] [] (sh, h)) else (q_L 196 21 [(0, a0)] [(0, 0)] (sh, h)))) :=
  (q_unL hL_X12_isHear cu_X12_isHear 400 0 _ _ _).trans rfl
set_option maxRecDepth 100000 in
theorem e_X12_isHear_16 (a0 : Int) (sh : Int × (Int → Nat × Int)) (h : Int → Int → Int) : q_L 196 16 [(0, a0)] [] (sh, h) = q_L 196 21 [(0, a0)] [(0, 1)] (sh, h) :=
  (q_unL hL_X12_isHear cu_X12_isHear 400 16 _ _ _).trans rfl
set_option maxRecDepth 100000 in
theorem e_X12_isHear_21 (a0 b0 : Int) (sh : Int × (Int → Nat × Int)) (h : Int → Int → Int) : q_L 196 21 [(0, a0)] [(0, b0)] (sh, h) = if b0 = 0 ∨ b0 = 1 then some ((0, b0), (sh, h)) else none :=
  (q_unL hL_X12_isHear cu_X12_isHear 400 21 _ _ _).trans rfl
def cu_X12_isBoth : List Nat := [0, 10, 15]
theorem hL_X12_isBoth : q_P 197 = q_find P_X12_isBoth := rfl
theorem c_X12_isBoth (a0 : Int) (s : q_M) : q_Cc 197 [(0, a0)] s = q_L 197 0 [(0, a0)] [] s := rfl
set_option maxRecDepth 100000 in
theorem e_X12_isBoth_0 (a0 : Int) (sh : Int × (Int → Nat × Int)) (h : Int → Int → Int) : q_L 197 0 [(0, a0)] [] (sh, h) = if a0 = (3 : Int) then (q_L 197 10 [(0, a0)] [] (sh, h)) else (if a0 = (4 : Int) then (q_L 197 10 [(0, a0)] [] (sh, h)) else (q_L 197 15 [(0, a0)] [(0, 0)] (sh, h))) :=
  (q_unL hL_X12_isBoth cu_X12_isBoth 400 0 _ _ _).trans rfl
set_option maxRecDepth 100000 in
theorem e_X12_isBoth_10 (a0 : Int) (sh : Int × (Int → Nat × Int)) (h : Int → Int → Int) : q_L 197 10 [(0, a0)] [] (sh, h) = q_L 197 15 [(0, a0)] [(0, 1)] (sh, h) :=
  (q_unL hL_X12_isBoth cu_X12_isBoth 400 10 _ _ _).trans rfl
set_option maxRecDepth 100000 in
theorem e_X12_isBoth_15 (a0 b0 : Int) (sh : Int × (Int → Nat × Int)) (h : Int → Int → Int) : q_L 197 15 [(0, a0)] [(0, b0)] (sh, h) = if b0 = 0 ∨ b0 = 1 then some ((0, b0), (sh, h)) else none :=
  (q_unL hL_X12_isBoth cu_X12_isBoth 400 15 _ _ _).trans rfl
def cu_X12_weightOf : List Nat := [0, 26, 72, 77, 112]
theorem hL_X12_weightOf : q_P 198 = q_find P_X12_weightOf := rfl
theorem c_X12_weightOf (a0 a1 : Int) (s : q_M) : q_Cc 198 [(22, a0), (0, a1)] s = q_L 198 0 [(22, a0), (0, a1), (9, 0), (9, 0), (9, 0)] [] s := rfl
set_option maxRecDepth 100000 in
theorem e_X12_weightOf_0 (a0 a1 : Int) (sh : Int × (Int → Nat × Int)) (h : Int → Int → Int) : q_L 198 0 [(22, a0), (0, a1), (9, 0), (9, 0), (9, 0)] [] (sh, h) = if 0 ≤ h a0 0 then (if 0 ≤ (q_add (466 : Int) a1) ∧ (q_add (466 : Int) a1) < (sh.2 (h a0 0)).2 then (if 0 ≤ h a0 0 then (if 0 ≤ (q_add (396 : Int) a1) ∧ (q_add (396 : Int) a1) < (sh.2 (h a0 0)).2 then ((q_Cc 196 [(0, h (h a0 0) (q_add (396 : Int) a1))] (sh, h)).bind (fun r => q_L 198 26 [(22, a0), (0, a1), (0, h (h a0 0) (q_add (466 : Int) a1)), (0, h (h a0 0) (q_add (396 : Int) a1)), (9, 0)] [r.1] r.2)) else none) else none) else none) else none :=
  (q_unL hL_X12_weightOf cu_X12_weightOf 400 0 _ _ _).trans rfl
set_option maxRecDepth 100000 in
theorem e_X12_weightOf_26 (a0 a1 a2 a3 b0 : Int) (sh : Int × (Int → Nat × Int)) (h : Int → Int → Int) : q_L 198 26 [(22, a0), (0, a1), (0, a2), (0, a3), (9, 0)] [(0, b0)] (sh, h) = if b0 = 0 then ((q_Cc 197 [(0, a3)] (sh, h)).bind (fun r => q_L 198 77 [(22, a0), (0, a1), (0, a2), (0, a3), (9, 0)] [r.1] r.2)) else (if 0 ≤ h a0 0 then (if 0 ≤ (q_add (424 : Int) a1) ∧ (q_add (424 : Int) a1) < (sh.2 (h a0 0)).2 then (if a3 = (5 : Int) then (q_L 198 72 [(22, a0), (0, a1), (0, a2), (0, a3), (0, q_add a2 (q_mul (2 : Int) (h (h a0 0) (q_add (424 : Int) a1))))] [(0, q_add (q_add a2 (q_mul (2 : Int) (h (h a0 0) (q_add (424 : Int) a1)))) (5 : Int))] (sh, h)) else (if a3 = (6 : Int) then (q_L 198 72 [(22, a0), (0, a1), (0, a2), (0, a3), (0, q_add a2 (q_mul (2 : Int) (h (h a0 0) (q_add (424 : Int) a1))))] [(0, q_mul (2 : Int) (q_add a2 (q_mul (2 : Int) (h (h a0 0) (q_add (424 : Int) a1)))))] (sh, h)) else (q_L 198 72 [(22, a0), (0, a1), (0, a2), (0, a3), (0, q_add a2 (q_mul (2 : Int) (h (h a0 0) (q_add (424 : Int) a1))))] [(0, q_add a2 (q_mul (2 : Int) (h (h a0 0) (q_add (424 : Int) a1))))] (sh, h)))) else none) else none) :=
  (q_unL hL_X12_weightOf cu_X12_weightOf 400 26 _ _ _).trans rfl
set_option maxRecDepth 100000 in
theorem e_X12_weightOf_72 (a0 a1 a2 a3 a4 b0 : Int) (sh : Int × (Int → Nat × Int)) (h : Int → Int → Int) : q_L 198 72 [(22, a0), (0, a1), (0, a2), (0, a3), (0, a4)] [(0, b0)] (sh, h) = some ((0, b0), (sh, h)) :=
  (q_unL hL_X12_weightOf cu_X12_weightOf 400 72 _ _ _).trans rfl
set_option maxRecDepth 100000 in
theorem e_X12_weightOf_77 (a0 a1 a2 a3 b0 : Int) (sh : Int × (Int → Nat × Int)) (h : Int → Int → Int) : q_L 198 77 [(22, a0), (0, a1), (0, a2), (0, a3), (9, 0)] [(0, b0)] (sh, h) = if b0 = 0 then (some ((0, a2), (sh, h))) else (if (2 : Int) = 0 then none else if a3 = (4 : Int) then (if 0 ≤ h a0 0 then (if 0 ≤ h a0 0 then (if 0 ≤ (q_add (410 : Int) a1) ∧ (q_add (410 : Int) a1) < (sh.2 (h a0 0)).2 then (if 0 ≤ (q_add (84 : Int) (h (h a0 0) (q_add (410 : Int) a1))) ∧ (q_add (84 : Int) (h (h a0 0) (q_add (410 : Int) a1))) < (sh.2 (h a0 0)).2 then (q_L 198 112 [(22, a0), (0, a1), (0, a2), (0, a3), (9, 0)] [(0, h (h a0 0) (q_add (84 : Int) (h (h a0 0) (q_add (410 : Int) a1)))), (0, q_add a2 (q_div a2 (2 : Int)))] (sh, h)) else none) else none) else none) else none) else (q_L 198 112 [(22, a0), (0, a1), (0, a2), (0, a3), (9, 0)] [(0, 0), (0, q_add a2 (q_div a2 (2 : Int)))] (sh, h))) :=
  (q_unL hL_X12_weightOf cu_X12_weightOf 400 77 _ _ _).trans rfl
set_option maxRecDepth 100000 in
theorem e_X12_weightOf_112 (a0 a1 a2 a3 b0 b1 : Int) (sh : Int × (Int → Nat × Int)) (h : Int → Int → Int) : q_L 198 112 [(22, a0), (0, a1), (0, a2), (0, a3), (9, 0)] [(0, b1), (0, b0)] (sh, h) = some ((0, q_add b0 b1), (sh, h)) :=
  (q_unL hL_X12_weightOf cu_X12_weightOf 400 112 _ _ _).trans rfl
def cu_X12_asking : List Nat := [0, 5, 15, 18, 24, 36, 54]
theorem hL_X12_asking : q_P 199 = q_find P_X12_asking := rfl
theorem c_X12_asking (a0 a1 a2 : Int) (s : q_M) : q_Cc 199 [(22, a0), (0, a1), (0, a2)] s = q_L 199 0 [(22, a0), (0, a1), (0, a2)] [] s := rfl
set_option maxRecDepth 100000 in
theorem e_X12_asking_0 (a0 a1 a2 : Int) (sh : Int × (Int → Nat × Int)) (h : Int → Int → Int) : q_L 199 0 [(22, a0), (0, a1), (0, a2)] [] (sh, h) = (q_Cc 166 [(22, a0), (0, a1)] (sh, h)).bind (fun r => q_L 199 5 [(22, a0), (0, a1), (0, a2)] [r.1] r.2) :=
  (q_unL hL_X12_asking cu_X12_asking 400 0 _ _ _).trans rfl
set_option maxRecDepth 100000 in
theorem e_X12_asking_5 (a0 a1 a2 b0 : Int) (sh : Int × (Int → Nat × Int)) (h : Int → Int → Int) : q_L 199 5 [(22, a0), (0, a1), (0, a2)] [(0, b0)] (sh, h) = if b0 = 0 then (q_L 199 18 [(22, a0), (0, a1), (0, a2)] [] (sh, h)) else ((q_Cc 162 [(0, a2), (0, 0), (0, 9)] (sh, h)).bind (fun r => q_L 199 15 [(22, a0), (0, a1), (0, a2)] [r.1] r.2)) :=
  (q_unL hL_X12_asking cu_X12_asking 400 5 _ _ _).trans rfl
set_option maxRecDepth 100000 in
theorem e_X12_asking_15 (a0 a1 a2 b0 : Int) (sh : Int × (Int → Nat × Int)) (h : Int → Int → Int) : q_L 199 15 [(22, a0), (0, a1), (0, a2)] [(0, b0)] (sh, h) = if b0 = 0 then (q_L 199 18 [(22, a0), (0, a1), (0, a2)] [] (sh, h)) else (if a2 = (9 : Int) then ((q_Cc 198 [(22, a0), (0, a1)] (sh, h)).bind (fun r => q_L 199 36 [(22, a0), (0, a1), (0, a2)] [r.1] r.2)) else (if 0 ≤ h a0 0 then (if 0 ≤ (q_add (q_add (396 : Int) (q_mul (14 : Int) a2)) a1) ∧ (q_add (q_add (396 : Int) (q_mul (14 : Int) a2)) a1) < (sh.2 (h a0 0)).2 then (q_L 199 54 [(22, a0), (0, a1), (0, a2)] [(0, h (h a0 0) (q_add (q_add (396 : Int) (q_mul (14 : Int) a2)) a1))] (sh, h)) else none) else none)) :=
  (q_unL hL_X12_asking cu_X12_asking 400 15 _ _ _).trans rfl
set_option maxRecDepth 100000 in
theorem e_X12_asking_18 (a0 a1 a2 : Int) (sh : Int × (Int → Nat × Int)) (h : Int → Int → Int) : q_L 199 18 [(22, a0), (0, a1), (0, a2)] [] (sh, h) = (q_Cc 161 [(22, a0), (0, (-1000001))] (sh, h)).bind (fun r => q_L 199 24 [(22, a0), (0, a1), (0, a2)] [r.1] r.2) :=
  (q_unL hL_X12_asking cu_X12_asking 400 18 _ _ _).trans rfl
set_option maxRecDepth 100000 in
theorem e_X12_asking_24 (a0 a1 a2 b0 : Int) (sh : Int × (Int → Nat × Int)) (h : Int → Int → Int) : q_L 199 24 [(22, a0), (0, a1), (0, a2)] [(0, b0)] (sh, h) = some ((0, b0), (sh, h)) :=
  (q_unL hL_X12_asking cu_X12_asking 400 24 _ _ _).trans rfl
set_option maxRecDepth 100000 in
theorem e_X12_asking_36 (a0 a1 a2 b0 : Int) (sh : Int × (Int → Nat × Int)) (h : Int → Int → Int) : q_L 199 36 [(22, a0), (0, a1), (0, a2)] [(0, b0)] (sh, h) = q_L 199 54 [(22, a0), (0, a1), (0, a2)] [(0, b0)] (sh, h) :=
  (q_unL hL_X12_asking cu_X12_asking 400 36 _ _ _).trans rfl
set_option maxRecDepth 100000 in
theorem e_X12_asking_54 (a0 a1 a2 b0 : Int) (sh : Int × (Int → Nat × Int)) (h : Int → Int → Int) : q_L 199 54 [(22, a0), (0, a1), (0, a2)] [(0, b0)] (sh, h) = some ((0, b0), (sh, h)) :=
  (q_unL hL_X12_asking cu_X12_asking 400 54 _ _ _).trans rfl
def cu_X12_as : List Nat := [0, 5, 15, 18, 24, 54, 57, 66, 69, 73, 74, 91]
theorem hL_X12_as : q_P 200 = q_find P_X12_as := rfl
theorem c_X12_as (a0 a1 a2 : Int) (s : q_M) : q_Cc 200 [(22, a0), (0, a1), (0, a2)] s = q_L 200 0 [(22, a0), (0, a1), (0, a2), (9, 0), (9, 0)] [] s := rfl
set_option maxRecDepth 100000 in
theorem e_X12_as_0 (a0 a1 a2 : Int) (sh : Int × (Int → Nat × Int)) (h : Int → Int → Int) : q_L 200 0 [(22, a0), (0, a1), (0, a2), (9, 0), (9, 0)] [] (sh, h) = (q_Cc 166 [(22, a0), (0, a1)] (sh, h)).bind (fun r => q_L 200 5 [(22, a0), (0, a1), (0, a2), (9, 0), (9, 0)] [r.1] r.2) :=
  (q_unL hL_X12_as cu_X12_as 400 0 _ _ _).trans rfl
set_option maxRecDepth 100000 in
theorem e_X12_as_5 (a0 a1 a2 b0 : Int) (sh : Int × (Int → Nat × Int)) (h : Int → Int → Int) : q_L 200 5 [(22, a0), (0, a1), (0, a2), (9, 0), (9, 0)] [(0, b0)] (sh, h) = if b0 = 0 then (q_L 200 18 [(22, a0), (0, a1), (0, a2), (9, 0), (9, 0)] [] (sh, h)) else ((q_Cc 162 [(0, a2), (0, 0), (0, 6)] (sh, h)).bind (fun r => q_L 200 15 [(22, a0), (0, a1), (0, a2), (9, 0), (9, 0)] [r.1] r.2)) :=
  (q_unL hL_X12_as cu_X12_as 400 5 _ _ _).trans rfl
set_option maxRecDepth 100000 in
theorem e_X12_as_15 (a0 a1 a2 b0 : Int) (sh : Int × (Int → Nat × Int)) (h : Int → Int → Int) : q_L 200 15 [(22, a0), (0, a1), (0, a2), (9, 0), (9, 0)] [(0, b0)] (sh, h) = if b0 = 0 then (q_L 200 18 [(22, a0), (0, a1), (0, a2), (9, 0), (9, 0)] [] (sh, h)) else (if 0 ≤ h a0 0 then (if 0 ≤ (q_add (396 : Int) a1) ∧ (q_add (396 : Int) a1) < (sh.2 (h a0 0)).2 then (if a2 = 0 then (q_L 200 69 [(22, a0), (0, a1), (0, a2), (0, h (h a0 0) (q_add (396 : Int) a1)), (9, 0)] [] (sh, h)) else (if (h (h a0 0) (q_add (396 : Int) a1)) = a2 then (q_L 200 69 [(22, a0), (0, a1), (0, a2), (0, h (h a0 0) (q_add (396 : Int) a1)), (9, 0)] [] (sh, h)) else (if a2 = (2 : Int) then ((q_Cc 196 [(0, h (h a0 0) (q_add (396 : Int) a1))] (sh, h)).bind (fun r => q_L 200 54 [(22, a0), (0, a1), (0, a2), (0, h (h a0 0) (q_add (396 : Int) a1)), (9, 0)] [r.1] r.2)) else (q_L 200 57 [(22, a0), (0, a1), (0, a2), (0, h (h a0 0) (q_add (396 : Int) a1)), (9, 0)] [] (sh, h))))) else none) else none) :=
  (q_unL hL_X12_as cu_X12_as 400 15 _ _ _).trans rfl
set_option maxRecDepth 100000 in
theorem e_X12_as_18 (a0 a1 a2 : Int) (sh : Int × (Int → Nat × Int)) (h : Int → Int → Int) : q_L 200 18 [(22, a0), (0, a1), (0, a2), (9, 0), (9, 0)] [] (sh, h) = (q_Cc 161 [(22, a0), (0, (-1000001))] (sh, h)).bind (fun r => q_L 200 24 [(22, a0), (0, a1), (0, a2), (9, 0), (9, 0)] [r.1] r.2) :=
  (q_unL hL_X12_as cu_X12_as 400 18 _ _ _).trans rfl
set_option maxRecDepth 100000 in
theorem e_X12_as_24 (a0 a1 a2 b0 : Int) (sh : Int × (Int → Nat × Int)) (h : Int → Int → Int) : q_L 200 24 [(22, a0), (0, a1), (0, a2), (9, 0), (9, 0)] [(0, b0)] (sh, h) = some ((0, b0), (sh, h)) :=
  (q_unL hL_X12_as cu_X12_as 400 24 _ _ _).trans rfl
set_option maxRecDepth 100000 in
theorem e_X12_as_54 (a0 a1 a2 a3 b0 : Int) (sh : Int × (Int → Nat × Int)) (h : Int → Int → Int) : q_L 200 54 [(22, a0), (0, a1), (0, a2), (0, a3), (9, 0)] [(0, b0)] (sh, h) = if b0 = 0 then (q_L 200 57 [(22, a0), (0, a1), (0, a2), (0, a3), (9, 0)] [] (sh, h)) else (q_L 200 69 [(22, a0), (0, a1), (0, a2), (0, a3), (9, 0)] [] (sh, h)) :=
  (q_unL hL_X12_as cu_X12_as 400 54 _ _ _).trans rfl
set_option maxRecDepth 100000 in
theorem e_X12_as_57 (a0 a1 a2 a3 : Int) (sh : Int × (Int → Nat × Int)) (h : Int → Int → Int) : q_L 200 57 [(22, a0), (0, a1), (0, a2), (0, a3), (9, 0)] [] (sh, h) = if a2 = (3 : Int) then ((q_Cc 197 [(0, a3)] (sh, h)).bind (fun r => q_L 200 66 [(22, a0), (0, a1), (0, a2), (0, a3), (9, 0)] [r.1] r.2)) else (q_L 200 73 [(22, a0), (0, a1), (0, a2), (0, a3), (9, 0)] [] (sh, h)) :=
  (q_unL hL_X12_as cu_X12_as 400 57 _ _ _).trans rfl
set_option maxRecDepth 100000 in
theorem e_X12_as_66 (a0 a1 a2 a3 b0 : Int) (sh : Int × (Int → Nat × Int)) (h : Int → Int → Int) : q_L 200 66 [(22, a0), (0, a1), (0, a2), (0, a3), (9, 0)] [(0, b0)] (sh, h) = if b0 = 0 then (q_L 200 73 [(22, a0), (0, a1), (0, a2), (0, a3), (9, 0)] [] (sh, h)) else (q_L 200 69 [(22, a0), (0, a1), (0, a2), (0, a3), (9, 0)] [] (sh, h)) :=
  (q_unL hL_X12_as cu_X12_as 400 66 _ _ _).trans rfl
set_option maxRecDepth 100000 in
theorem e_X12_as_69 (a0 a1 a2 a3 : Int) (sh : Int × (Int → Nat × Int)) (h : Int → Int → Int) : q_L 200 69 [(22, a0), (0, a1), (0, a2), (0, a3), (9, 0)] [] (sh, h) = q_L 200 74 [(22, a0), (0, a1), (0, a2), (0, a3), (9, 0)] [(0, 1)] (sh, h) :=
  (q_unL hL_X12_as cu_X12_as 400 69 _ _ _).trans rfl
set_option maxRecDepth 100000 in
theorem e_X12_as_73 (a0 a1 a2 a3 : Int) (sh : Int × (Int → Nat × Int)) (h : Int → Int → Int) : q_L 200 73 [(22, a0), (0, a1), (0, a2), (0, a3), (9, 0)] [] (sh, h) = q_L 200 74 [(22, a0), (0, a1), (0, a2), (0, a3), (9, 0)] [(0, 0)] (sh, h) :=
  (q_unL hL_X12_as cu_X12_as 400 73 _ _ _).trans rfl
set_option maxRecDepth 100000 in
theorem e_X12_as_74 (a0 a1 a2 a3 b0 : Int) (sh : Int × (Int → Nat × Int)) (h : Int → Int → Int) : q_L 200 74 [(22, a0), (0, a1), (0, a2), (0, a3), (9, 0)] [(0, b0)] (sh, h) = if b0 = 0 then ((q_Cc 161 [(22, a0), (0, (-1000003))] (sh, h)).bind (fun r => q_L 200 91 [(22, a0), (0, a1), (0, a2), (0, a3), (0, b0)] [r.1] r.2)) else (q_L 200 91 [(22, a0), (0, a1), (0, a2), (0, a3), (0, b0)] [(0, a1)] (sh, h)) :=
  (q_unL hL_X12_as cu_X12_as 400 74 _ _ _).trans rfl
set_option maxRecDepth 100000 in
theorem e_X12_as_91 (a0 a1 a2 a3 a4 b0 : Int) (sh : Int × (Int → Nat × Int)) (h : Int → Int → Int) : q_L 200 91 [(22, a0), (0, a1), (0, a2), (0, a3), (0, a4)] [(0, b0)] (sh, h) = some ((0, b0), (sh, h)) :=
  (q_unL hL_X12_as cu_X12_as 400 91 _ _ _).trans rfl
def cu_X12_waits : List Nat := [0]
theorem hL_X12_waits : q_P 201 = q_find P_X12_waits := rfl
theorem c_X12_waits (a0 a1 : Int) (s : q_M) : q_Cc 201 [(22, a0), (0, a1)] s = q_L 201 0 [(22, a0), (0, a1)] [] s := rfl
set_option maxRecDepth 100000 in
theorem e_X12_waits_0 (a0 a1 : Int) (sh : Int × (Int → Nat × Int)) (h : Int → Int → Int) : q_L 201 0 [(22, a0), (0, a1)] [] (sh, h) = if 0 ≤ h a0 0 then (if 0 ≤ (q_add (480 : Int) a1) ∧ (q_add (480 : Int) a1) < (sh.2 (h a0 0)).2 ∧ 0 ≤ (h a0 0) then (if 0 ≤ (q_up h (h a0 0) (q_add (480 : Int) a1) (0 : Int)) a0 0 then (if 0 ≤ (q_add (494 : Int) a1) ∧ (q_add (494 : Int) a1) < (sh.2 ((q_up h (h a0 0) (q_add (480 : Int) a1) (0 : Int)) a0 0)).2 ∧ 0 ≤ ((q_up h (h a0 0) (q_add (480 : Int) a1) (0 : Int)) a0 0) then (if 0 ≤ (q_up (q_up h (h a0 0) (q_add (480 : Int) a1) (0 : Int)) ((q_up h (h a0 0) (q_add (480 : Int) a1) (0 : Int)) a0 0) (q_add (494 : Int) a1) (-1 : Int)) a0 0 then (if 0 ≤ (q_add (508 : Int) a1) ∧ (q_add (508 : Int) a1) < (sh.2 ((q_up (q_up h (h a0 0) (q_add (480 : Int) a1) (0 : Int)) ((q_up h (h a0 0) (q_add (480 : Int) a1) (0 : Int)) a0 0) (q_add (494 : Int) a1) (-1 : Int)) a0 0)).2 ∧ 0 ≤ ((q_up (q_up h (h a0 0) (q_add (480 : Int) a1) (0 : Int)) ((q_up h (h a0 0) (q_add (480 : Int) a1) (0 : Int)) a0 0) (q_add (494 : Int) a1) (-1 : Int)) a0 0) then (some ((9, 0), (sh, q_up (q_up (q_up h (h a0 0) (q_add (480 : Int) a1) (0 : Int)) ((q_up h (h a0 0) (q_add (480 : Int) a1) (0 : Int)) a0 0) (q_add (494 : Int) a1) (-1 : Int)) ((q_up (q_up h (h a0 0) (q_add (480 : Int) a1) (0 : Int)) ((q_up h (h a0 0) (q_add (480 : Int) a1) (0 : Int)) a0 0) (q_add (494 : Int) a1) (-1 : Int)) a0 0) (q_add (508 : Int) a1) (-1 : Int)))) else none) else none) else none) else none) else none) else none :=
  (q_unL hL_X12_waits cu_X12_waits 400 0 _ _ _).trans rfl
def cu_X12_worth : List Nat := [0, 5, 16, 19, 25, 59, 60, 65, 75]
theorem hL_X12_worth : q_P 202 = q_find P_X12_worth := rfl
theorem c_X12_worth (a0 a1 a2 : Int) (s : q_M) : q_Cc 202 [(22, a0), (0, a1), (0, a2)] s = q_L 202 0 [(22, a0), (0, a1), (0, a2)] [] s := rfl
set_option maxRecDepth 100000 in
theorem e_X12_worth_0 (a0 a1 a2 : Int) (sh : Int × (Int → Nat × Int)) (h : Int → Int → Int) : q_L 202 0 [(22, a0), (0, a1), (0, a2)] [] (sh, h) = (q_Cc 166 [(22, a0), (0, a1)] (sh, h)).bind (fun r => q_L 202 5 [(22, a0), (0, a1), (0, a2)] [r.1] r.2) :=
  (q_unL hL_X12_worth cu_X12_worth 400 0 _ _ _).trans rfl
set_option maxRecDepth 100000 in
theorem e_X12_worth_5 (a0 a1 a2 b0 : Int) (sh : Int × (Int → Nat × Int)) (h : Int → Int → Int) : q_L 202 5 [(22, a0), (0, a1), (0, a2)] [(0, b0)] (sh, h) = if b0 = 0 then (q_L 202 19 [(22, a0), (0, a1), (0, a2)] [] (sh, h)) else ((q_Cc 162 [(0, a2), (0, 0), (0, 999)] (sh, h)).bind (fun r => q_L 202 16 [(22, a0), (0, a1), (0, a2)] [r.1] r.2)) :=
  (q_unL hL_X12_worth cu_X12_worth 400 5 _ _ _).trans rfl
set_option maxRecDepth 100000 in
theorem e_X12_worth_16 (a0 a1 a2 b0 : Int) (sh : Int × (Int → Nat × Int)) (h : Int → Int → Int) : q_L 202 16 [(22, a0), (0, a1), (0, a2)] [(0, b0)] (sh, h) = if b0 = 0 then (q_L 202 19 [(22, a0), (0, a1), (0, a2)] [] (sh, h)) else (if 0 ≤ h a0 0 then (if 0 ≤ (q_add (480 : Int) a1) ∧ (q_add (480 : Int) a1) < (sh.2 (h a0 0)).2 then (if (h (h a0 0) (q_add (480 : Int) a1)) = 0 then (q_L 202 60 [(22, a0), (0, a1), (0, a2)] [] (sh, h)) else (if 0 ≤ h a0 0 then (if 0 ≤ (q_add (480 : Int) a1) ∧ (q_add (480 : Int) a1) < (sh.2 (h a0 0)).2 then (if (h (h a0 0) (q_add (480 : Int) a1)) = (4 : Int) then (q_L 202 60 [(22, a0), (0, a1), (0, a2)] [] (sh, h)) else ((q_Cc 161 [(22, a0), (0, (-1000005))] (sh, h)).bind (fun r => q_L 202 59 [(22, a0), (0, a1), (0, a2)] [r.1] r.2))) else none) else none)) else none) else none) :=
  (q_unL hL_X12_worth cu_X12_worth 400 16 _ _ _).trans rfl
set_option maxRecDepth 100000 in
theorem e_X12_worth_19 (a0 a1 a2 : Int) (sh : Int × (Int → Nat × Int)) (h : Int → Int → Int) : q_L 202 19 [(22, a0), (0, a1), (0, a2)] [] (sh, h) = (q_Cc 161 [(22, a0), (0, (-1000001))] (sh, h)).bind (fun r => q_L 202 25 [(22, a0), (0, a1), (0, a2)] [r.1] r.2) :=
  (q_unL hL_X12_worth cu_X12_worth 400 19 _ _ _).trans rfl
set_option maxRecDepth 100000 in
theorem e_X12_worth_25 (a0 a1 a2 b0 : Int) (sh : Int × (Int → Nat × Int)) (h : Int → Int → Int) : q_L 202 25 [(22, a0), (0, a1), (0, a2)] [(0, b0)] (sh, h) = some ((0, b0), (sh, h)) :=
  (q_unL hL_X12_worth cu_X12_worth 400 25 _ _ _).trans rfl
set_option maxRecDepth 100000 in
theorem e_X12_worth_59 (a0 a1 a2 b0 : Int) (sh : Int × (Int → Nat × Int)) (h : Int → Int → Int) : q_L 202 59 [(22, a0), (0, a1), (0, a2)] [(0, b0)] (sh, h) = some ((0, b0), (sh, h)) :=
  (q_unL hL_X12_worth cu_X12_worth 400 59 _ _ _).trans rfl
set_option maxRecDepth 100000 in
theorem e_X12_worth_60 (a0 a1 a2 : Int) (sh : Int × (Int → Nat × Int)) (h : Int → Int → Int) : q_L 202 60 [(22, a0), (0, a1), (0, a2)] [] (sh, h) = (q_Cc 201 [(22, a0), (0, a1)] (sh, h)).bind (fun r => q_L 202 65 [(22, a0), (0, a1), (0, a2)] [] r.2) :=
  (q_unL hL_X12_worth cu_X12_worth 400 60 _ _ _).trans rfl
set_option maxRecDepth 100000 in
theorem e_X12_worth_65 (a0 a1 a2 : Int) (sh : Int × (Int → Nat × Int)) (h : Int → Int → Int) : q_L 202 65 [(22, a0), (0, a1), (0, a2)] [] (sh, h) = (q_Cc 168 [(22, a0), (0, q_add (466 : Int) a1), (0, a2)] (sh, h)).bind (fun r => q_L 202 75 [(22, a0), (0, a1), (0, a2)] [r.1] r.2) :=
  (q_unL hL_X12_worth cu_X12_worth 400 65 _ _ _).trans rfl
set_option maxRecDepth 100000 in
theorem e_X12_worth_75 (a0 a1 a2 b0 : Int) (sh : Int × (Int → Nat × Int)) (h : Int → Int → Int) : q_L 202 75 [(22, a0), (0, a1), (0, a2)] [(0, b0)] (sh, h) = some ((0, b0), (sh, h)) :=
  (q_unL hL_X12_worth cu_X12_worth 400 75 _ _ _).trans rfl
def cu_X12_looks : List Nat := [0, 7, 63]
theorem hL_X12_looks : q_P 203 = q_find P_X12_looks := rfl
theorem c_X12_looks (a0 a1 : Int) (s : q_M) : q_Cc 203 [(22, a0), (0, a1)] s = q_L 203 0 [(22, a0), (0, a1), (9, 0)] [] s := rfl
set_option maxRecDepth 100000 in
theorem e_X12_looks_0 (a0 a1 : Int) (sh : Int × (Int → Nat × Int)) (h : Int → Int → Int) : q_L 203 0 [(22, a0), (0, a1), (9, 0)] [] (sh, h) = q_L 203 7 [(22, a0), (0, a1), (0, 0)] [] (sh, q_up h a0 18 (0 : Int)) :=
  (q_unL hL_X12_looks cu_X12_looks 400 0 _ _ _).trans rfl
set_option maxRecDepth 100000 in
theorem e_X12_looks_7 (a0 a1 a2 : Int) (sh : Int × (Int → Nat × Int)) (h : Int → Int → Int) : q_L 203 7 [(22, a0), (0, a1), (0, a2)] [] (sh, h) = if 0 ≤ h a0 0 then (if 0 ≤ (3 : Int) ∧ (3 : Int) < (sh.2 (h a0 0)).2 then (if a2 < (h (h a0 0) (3 : Int)) then (if 0 ≤ h a0 0 then (if 0 ≤ (q_add (480 : Int) a2) ∧ (q_add (480 : Int) a2) < (sh.2 (h a0 0)).2 then (if (h (h a0 0) (q_add (480 : Int) a2)) = 0 then (if a2 = a1 then (q_L 203 63 [(22, a0), (0, a1), (0, a2)] [] (sh, h)) else (if (h a0 18) < (5 : Int) then (if 0 ≤ h a0 19 then (if 0 ≤ (h a0 18) ∧ (h a0 18) < (sh.2 (h a0 19)).2 ∧ 0 ≤ (h a0 19) then (q_L 203 63 [(22, a0), (0, a1), (0, a2)] [] (sh, q_up (q_up h (h a0 19) (h a0 18) a2) a0 18 (q_add ((q_up h (h a0 19) (h a0 18) a2) a0 18) (1 : Int)))) else none) else none) else (q_L 203 63 [(22, a0), (0, a1), (0, a2)] [] (sh, h)))) else (q_L 203 63 [(22, a0), (0, a1), (0, a2)] [] (sh, h))) else none) else none) else (some ((9, 0), (sh, h)))) else none) else none :=
  (q_unL hL_X12_looks cu_X12_looks 400 7 _ _ _).trans rfl
set_option maxRecDepth 100000 in
theorem e_X12_looks_63 (a0 a1 a2 : Int) (sh : Int × (Int → Nat × Int)) (h : Int → Int → Int) : q_L 203 63 [(22, a0), (0, a1), (0, a2)] [] (sh, h) = q_L 203 7 [(22, a0), (0, a1), (0, q_w (a2 + 1))] [] (sh, h) :=
  (q_unL hL_X12_looks cu_X12_looks 400 63 _ _ _).trans rfl
def cu_X12_findFree : List Nat := [0, 2, 26, 78, 82, 83, 123, 152]
theorem hL_X12_findFree : q_P 204 = q_find P_X12_findFree := rfl
theorem c_X12_findFree (a0 : Int) (s : q_M) : q_Cc 204 [(22, a0)] s = q_L 204 0 [(22, a0), (9, 0), (9, 0), (9, 0), (9, 0)] [] s := rfl
set_option maxRecDepth 100000 in
theorem e_X12_findFree_0 (a0 : Int) (sh : Int × (Int → Nat × Int)) (h : Int → Int → Int) : q_L 204 0 [(22, a0), (9, 0), (9, 0), (9, 0), (9, 0)] [] (sh, h) = q_L 204 2 [(22, a0), (0, 0), (9, 0), (9, 0), (9, 0)] [] (sh, h) :=
  (q_unL hL_X12_findFree cu_X12_findFree 400 0 _ _ _).trans rfl
set_option maxRecDepth 100000 in
theorem e_X12_findFree_2 (a0 a1 : Int) (x2 x3 x4 : q_V) (sh : Int × (Int → Nat × Int)) (h : Int → Int → Int) : q_L 204 2 [(22, a0), (0, a1), x2, x3, x4] [] (sh, h) = if 0 ≤ h a0 0 then (if 0 ≤ (1 : Int) ∧ (1 : Int) < (sh.2 (h a0 0)).2 then (if a1 < (h (h a0 0) (1 : Int)) then (if 0 ≤ h a0 26 then (if 0 ≤ h a0 0 then (if 0 ≤ (0 : Int) ∧ (0 : Int) < (sh.2 (h a0 0)).2 then (if 0 ≤ a1 ∧ a1 < (sh.2 (h a0 26)).2 ∧ 0 ≤ (h a0 26) then (q_L 204 26 [(22, a0), (0, a1), (0, 0), x3, x4] [] (sh, q_up h (h a0 26) a1 (h (h a0 0) (0 : Int)))) else none) else none) else none) else none) else (some ((9, 0), (sh, h)))) else none) else none :=
  (q_unL hL_X12_findFree cu_X12_findFree 400 2 _ _ _).trans rfl
set_option maxRecDepth 100000 in
theorem e_X12_findFree_26 (a0 a1 a2 : Int) (x3 x4 : q_V) (sh : Int × (Int → Nat × Int)) (h : Int → Int → Int) : q_L 204 26 [(22, a0), (0, a1), (0, a2), x3, x4] [] (sh, h) = if 0 ≤ h a0 0 then (if 0 ≤ (3 : Int) ∧ (3 : Int) < (sh.2 (h a0 0)).2 then (if a2 < (h (h a0 0) (3 : Int)) then (if 0 ≤ h a0 0 then (if 0 ≤ (q_add (494 : Int) a2) ∧ (q_add (494 : Int) a2) < (sh.2 (h a0 0)).2 then (if (h (h a0 0) (q_add (494 : Int) a2)) = a1 then (if 0 ≤ h a0 0 then (if 0 ≤ (q_add (480 : Int) a2) ∧ (q_add (480 : Int) a2) < (sh.2 (h a0 0)).2 then (if (h (h a0 0) (q_add (480 : Int) a2)) = (1 : Int) then (q_L 204 78 [(22, a0), (0, a1), (0, a2), x3, x4] [] (sh, h)) else (if 0 ≤ h a0 0 then (if 0 ≤ (q_add (480 : Int) a2) ∧ (q_add (480 : Int) a2) < (sh.2 (h a0 0)).2 then (if (h (h a0 0) (q_add (480 : Int) a2)) = (2 : Int) then (q_L 204 78 [(22, a0), (0, a1), (0, a2), x3, x4] [] (sh, h)) else (q_L 204 82 [(22, a0), (0, a1), (0, a2), x3, x4] [] (sh, h))) else none) else none)) else none) else none) else (q_L 204 82 [(22, a0), (0, a1), (0, a2), x3, x4] [] (sh, h))) else none) else none) else (q_L 204 2 [(22, a0), (0, q_w (a1 + 1)), (0, a2), x3, x4] [] (sh, h))) else none) else none :=
  (q_unL hL_X12_findFree cu_X12_findFree 400 26 _ _ _).trans rfl
set_option maxRecDepth 100000 in
theorem e_X12_findFree_78 (a0 a1 a2 : Int) (x3 x4 : q_V) (sh : Int × (Int → Nat × Int)) (h : Int → Int → Int) : q_L 204 78 [(22, a0), (0, a1), (0, a2), x3, x4] [] (sh, h) = q_L 204 83 [(22, a0), (0, a1), (0, a2), x3, x4] [(0, 1)] (sh, h) :=
  (q_unL hL_X12_findFree cu_X12_findFree 400 78 _ _ _).trans rfl
set_option maxRecDepth 100000 in
theorem e_X12_findFree_82 (a0 a1 a2 : Int) (x3 x4 : q_V) (sh : Int × (Int → Nat × Int)) (h : Int → Int → Int) : q_L 204 82 [(22, a0), (0, a1), (0, a2), x3, x4] [] (sh, h) = q_L 204 83 [(22, a0), (0, a1), (0, a2), x3, x4] [(0, 0)] (sh, h) :=
  (q_unL hL_X12_findFree cu_X12_findFree 400 82 _ _ _).trans rfl
set_option maxRecDepth 100000 in
theorem e_X12_findFree_83 (a0 a1 a2 b0 : Int) (x3 x4 : q_V) (sh : Int × (Int → Nat × Int)) (h : Int → Int → Int) : q_L 204 83 [(22, a0), (0, a1), (0, a2), x3, x4] [(0, b0)] (sh, h) = if b0 = 0 then (q_L 204 123 [(22, a0), (0, a1), (0, a2), (0, b0), x4] [(0, 0)] (sh, h)) else (if 0 ≤ h a0 0 then (if 0 ≤ (q_add (508 : Int) a2) ∧ (q_add (508 : Int) a2) < (sh.2 (h a0 0)).2 then (if 0 ≤ h a0 0 then (if 0 ≤ (q_add (424 : Int) a2) ∧ (q_add (424 : Int) a2) < (sh.2 (h a0 0)).2 then (if 0 ≤ h a0 0 then (if 0 ≤ (q_add (64 : Int) a1) ∧ (q_add (64 : Int) a1) < (sh.2 (h a0 0)).2 then (q_L 204 123 [(22, a0), (0, a1), (0, a2), (0, b0), x4] [(0, q_add (q_add (h (h a0 0) (q_add (508 : Int) a2)) (h (h a0 0) (q_add (424 : Int) a2))) (h (h a0 0) (q_add (64 : Int) a1)))] (sh, h)) else none) else none) else none) else none) else none) else none) :=
  (q_unL hL_X12_findFree cu_X12_findFree 400 83 _ _ _).trans rfl
set_option maxRecDepth 100000 in
theorem e_X12_findFree_123 (a0 a1 a2 a3 b0 : Int) (x4 : q_V) (sh : Int × (Int → Nat × Int)) (h : Int → Int → Int) : q_L 204 123 [(22, a0), (0, a1), (0, a2), (0, a3), x4] [(0, b0)] (sh, h) = if 0 ≤ h a0 26 then (if 0 ≤ h a0 26 then (if 0 ≤ a1 ∧ a1 < (sh.2 (h a0 26)).2 then (if (h (h a0 26) a1) < b0 then (q_L 204 152 [(22, a0), (0, a1), (0, a2), (0, a3), (0, b0)] [(0, b0), (0, a1), (30, h a0 26)] (sh, h)) else (if 0 ≤ h a0 26 then (if 0 ≤ a1 ∧ a1 < (sh.2 (h a0 26)).2 then (q_L 204 152 [(22, a0), (0, a1), (0, a2), (0, a3), (0, b0)] [(0, h (h a0 26) a1), (0, a1), (30, h a0 26)] (sh, h)) else none) else none)) else none) else none) else none :=
  (q_unL hL_X12_findFree cu_X12_findFree 400 123 _ _ _).trans rfl
set_option maxRecDepth 100000 in
theorem e_X12_findFree_152 (a0 a1 a2 a3 a4 b0 b1 b2 : Int) (sh : Int × (Int → Nat × Int)) (h : Int → Int → Int) : q_L 204 152 [(22, a0), (0, a1), (0, a2), (0, a3), (0, a4)] [(0, b2), (0, b1), (30, b0)] (sh, h) = if 0 ≤ b1 ∧ b1 < (sh.2 b0).2 ∧ 0 ≤ b0 then (q_L 204 26 [(22, a0), (0, a1), (0, q_w (a2 + 1)), (0, a3), (0, a4)] [] (sh, q_up h b0 b1 b2)) else none :=
  (q_unL hL_X12_findFree cu_X12_findFree 400 152 _ _ _).trans rfl
def cu_X12_fits : List Nat := [0, 53, 88, 126, 127]
theorem hL_X12_fits : q_P 205 = q_find P_X12_fits := rfl
theorem c_X12_fits (a0 a1 a2 : Int) (s : q_M) : q_Cc 205 [(22, a0), (0, a1), (0, a2)] s = q_L 205 0 [(22, a0), (0, a1), (0, a2), (9, 0), (9, 0)] [] s := rfl
set_option maxRecDepth 100000 in
theorem e_X12_fits_0 (a0 a1 a2 : Int) (sh : Int × (Int → Nat × Int)) (h : Int → Int → Int) : q_L 205 0 [(22, a0), (0, a1), (0, a2), (9, 0), (9, 0)] [] (sh, h) = if 0 ≤ h a0 0 then (if 0 ≤ (q_add (70 : Int) a2) ∧ (q_add (70 : Int) a2) < (sh.2 (h a0 0)).2 then (if (h (h a0 0) (q_add (70 : Int) a2)) = (1 : Int) then (some ((0, (-1)), (sh, h))) else (if 0 ≤ h a0 0 then (if 0 ≤ (q_add (438 : Int) a1) ∧ (q_add (438 : Int) a1) < (sh.2 (h a0 0)).2 then (if 0 ≤ h a0 26 then (if 0 ≤ a2 ∧ a2 < (sh.2 (h a0 26)).2 then (if (h (h a0 26) a2) < (h (h a0 0) (q_add (438 : Int) a1)) then (if 0 ≤ h a0 0 then (if 0 ≤ (q_add (438 : Int) a1) ∧ (q_add (438 : Int) a1) < (sh.2 (h a0 0)).2 then (q_L 205 53 [(22, a0), (0, a1), (0, a2), (9, 0), (9, 0)] [(0, h (h a0 0) (q_add (438 : Int) a1))] (sh, h)) else none) else none) else (if 0 ≤ h a0 26 then (if 0 ≤ a2 ∧ a2 < (sh.2 (h a0 26)).2 then (q_L 205 53 [(22, a0), (0, a1), (0, a2), (9, 0), (9, 0)] [(0, h (h a0 26) a2)] (sh, h)) else none) else none)) else none) else none) else none) else none)) else none) else none :=
  (q_unL hL_X12_fits cu_X12_fits 400 0 _ _ _).trans rfl
set_option maxRecDepth 100000 in
theorem e_X12_fits_53 (a0 a1 a2 b0 : Int) (sh : Int × (Int → Nat × Int)) (h : Int → Int → Int) : q_L 205 53 [(22, a0), (0, a1), (0, a2), (9, 0), (9, 0)] [(0, b0)] (sh, h) = if 0 ≤ h a0 0 then (if 0 ≤ (q_add (410 : Int) a1) ∧ (q_add (410 : Int) a1) < (sh.2 (h a0 0)).2 then (if 0 ≤ h a0 0 then (if 0 ≤ (q_add (52 : Int) a2) ∧ (q_add (52 : Int) a2) < (sh.2 (h a0 0)).2 then (if 0 ≤ h a0 0 then (if 0 ≤ (q_add (424 : Int) a1) ∧ (q_add (424 : Int) a1) < (sh.2 (h a0 0)).2 then ((q_Cc 180 [(22, a0), (0, h (h a0 0) (q_add (410 : Int) a1)), (0, h (h a0 0) (q_add (52 : Int) a2)), (0, b0), (0, h (h a0 0) (q_add (424 : Int) a1))] (sh, h)).bind (fun r => q_L 205 88 [(22, a0), (0, a1), (0, a2), (0, b0), (9, 0)] [r.1] r.2)) else none) else none) else none) else none) else none) else none :=
  (q_unL hL_X12_fits cu_X12_fits 400 53 _ _ _).trans rfl
set_option maxRecDepth 100000 in
theorem e_X12_fits_88 (a0 a1 a2 a3 b0 : Int) (sh : Int × (Int → Nat × Int)) (h : Int → Int → Int) : q_L 205 88 [(22, a0), (0, a1), (0, a2), (0, a3), (9, 0)] [(0, b0)] (sh, h) = if b0 < 0 then (q_L 205 126 [(22, a0), (0, a1), (0, a2), (0, a3), (0, b0)] [] (sh, h)) else (if 0 ≤ h a0 0 then (if 0 ≤ (q_add (424 : Int) a1) ∧ (q_add (424 : Int) a1) < (sh.2 (h a0 0)).2 then (if 0 ≤ h a0 0 then (if 0 ≤ (q_add (452 : Int) a1) ∧ (q_add (452 : Int) a1) < (sh.2 (h a0 0)).2 then (if (h (h a0 0) (q_add (452 : Int) a1)) < (q_add b0 (h (h a0 0) (q_add (424 : Int) a1))) then (q_L 205 126 [(22, a0), (0, a1), (0, a2), (0, a3), (0, b0)] [] (sh, h)) else (q_L 205 127 [(22, a0), (0, a1), (0, a2), (0, a3), (0, b0)] [(0, b0)] (sh, h))) else none) else none) else none) else none) :=
  (q_unL hL_X12_fits cu_X12_fits 400 88 _ _ _).trans rfl
set_option maxRecDepth 100000 in
theorem e_X12_fits_126 (a0 a1 a2 a3 a4 : Int) (sh : Int × (Int → Nat × Int)) (h : Int → Int → Int) : q_L 205 126 [(22, a0), (0, a1), (0, a2), (0, a3), (0, a4)] [] (sh, h) = q_L 205 127 [(22, a0), (0, a1), (0, a2), (0, a3), (0, a4)] [(0, (-1))] (sh, h) :=
  (q_unL hL_X12_fits cu_X12_fits 400 126 _ _ _).trans rfl
set_option maxRecDepth 100000 in
theorem e_X12_fits_127 (a0 a1 a2 a3 a4 b0 : Int) (sh : Int × (Int → Nat × Int)) (h : Int → Int → Int) : q_L 205 127 [(22, a0), (0, a1), (0, a2), (0, a3), (0, a4)] [(0, b0)] (sh, h) = some ((0, b0), (sh, h)) :=
  (q_unL hL_X12_fits cu_X12_fits 400 127 _ _ _).trans rfl
def cu_X12_tries : List Nat := [0, 32, 45, 88, 100, 119, 197, 204, 213, 242]
theorem hL_X12_tries (j : Nat) (hj : j ≤ 6) : q_P (310 + j) = q_find (P_X12_tries j) := by
  funext pc
  unfold q_P q_code
  rw [if_neg (by omega), if_neg (by omega), if_pos (by omega), show 310 + j - 310 = j by omega]
theorem c_X12_tries (j : Nat) (hj : j ≤ 6) (a0 a1 a2 a3 : Int) (s : q_M) : q_Cc (310 + j) [(22, a0), (0, a1), (0, a2), (0, a3)] s = q_L (310 + j) 0 [(22, a0), (0, a1), (0, a2), (0, a3), (9, 0), (9, 0), (9, 0), (9, 0)] [] s := by
  have e : q_mx (310 + j) = 8 := by unfold q_mx; rw [q_I_tr _ (by omega)]
  unfold q_Cc q_call q_ca
  rw [e]
  rfl
set_option maxRecDepth 100000 in
theorem e_X12_tries_0 (j : Nat) (hj : j ≤ 6) (a0 a1 a2 a3 : Int) (sh : Int × (Int → Nat × Int)) (h : Int → Int → Int) : q_L (310 + j) 0 [(22, a0), (0, a1), (0, a2), (0, a3), (9, 0), (9, 0), (9, 0), (9, 0)] [] (sh, h) = if a1 = (h a0 18) then (if (h a0 24) < a2 then (q_L (310 + j) 32 [(22, a0), (0, a1), (0, a2), (0, a3), (9, 0), (9, 0), (9, 0), (9, 0)] [] (sh, h)) else (if a2 = (h a0 24) then (if a3 < (h a0 25) then (q_L (310 + j) 32 [(22, a0), (0, a1), (0, a2), (0, a3), (9, 0), (9, 0), (9, 0), (9, 0)] [] (sh, h)) else (q_L (310 + j) 88 [(22, a0), (0, a1), (0, a2), (0, a3), (9, 0), (9, 0), (9, 0), (9, 0)] [] (sh, h))) else (q_L (310 + j) 88 [(22, a0), (0, a1), (0, a2), (0, a3), (9, 0), (9, 0), (9, 0), (9, 0)] [] (sh, h)))) else (if 0 ≤ h a0 19 then (if 0 ≤ a1 ∧ a1 < (sh.2 (h a0 19)).2 then (q_L (310 + j) 100 [(22, a0), (0, a1), (0, a2), (0, a3), (0, h (h a0 19) a1), (0, 0), (9, 0), (9, 0)] [] (sh, h)) else none) else none) :=
  (q_unL (hL_X12_tries j hj) cu_X12_tries 400 0 _ _ _).trans rfl
set_option maxRecDepth 100000 in
theorem e_X12_tries_32 (j : Nat) (hj : j ≤ 6) (a0 a1 a2 a3 : Int) (sh : Int × (Int → Nat × Int)) (h : Int → Int → Int) : q_L (310 + j) 32 [(22, a0), (0, a1), (0, a2), (0, a3), (9, 0), (9, 0), (9, 0), (9, 0)] [] (sh, h) = q_L (310 + j) 45 [(22, a0), (0, a1), (0, a2), (0, a3), (0, 0), (9, 0), (9, 0), (9, 0)] [] (sh, q_up (q_up h a0 24 a2) a0 25 a3) :=
  (q_unL (hL_X12_tries j hj) cu_X12_tries 400 32 _ _ _).trans rfl
set_option maxRecDepth 100000 in
theorem e_X12_tries_45 (j : Nat) (hj : j ≤ 6) (a0 a1 a2 a3 a4 : Int) (sh : Int × (Int → Nat × Int)) (h : Int → Int → Int) : q_L (310 + j) 45 [(22, a0), (0, a1), (0, a2), (0, a3), (0, a4), (9, 0), (9, 0), (9, 0)] [] (sh, h) = if a4 < (h a0 18) then (if 0 ≤ h a0 22 then (if 0 ≤ h a0 20 then (if 0 ≤ a4 ∧ a4 < (sh.2 (h a0 20)).2 then (if 0 ≤ a4 ∧ a4 < (sh.2 (h a0 22)).2 ∧ 0 ≤ (h a0 22) then (if 0 ≤ (q_up h (h a0 22) a4 (h (h a0 20) a4)) a0 23 then (if 0 ≤ (q_up h (h a0 22) a4 (h (h a0 20) a4)) a0 21 then (if 0 ≤ a4 ∧ a4 < (sh.2 ((q_up h (h a0 22) a4 (h (h a0 20) a4)) a0 21)).2 then (if 0 ≤ a4 ∧ a4 < (sh.2 ((q_up h (h a0 22) a4 (h (h a0 20) a4)) a0 23)).2 ∧ 0 ≤ ((q_up h (h a0 22) a4 (h (h a0 20) a4)) a0 23) then (q_L (310 + j) 45 [(22, a0), (0, a1), (0, a2), (0, a3), (0, q_w (a4 + 1)), (9, 0), (9, 0), (9, 0)] [] (sh, q_up (q_up h (h a0 22) a4 (h (h a0 20) a4)) ((q_up h (h a0 22) a4 (h (h a0 20) a4)) a0 23) a4 ((q_up h (h a0 22) a4 (h (h a0 20) a4)) ((q_up h (h a0 22) a4 (h (h a0 20) a4)) a0 21) a4))) else none) else none) else none) else none) else none) else none) else none) else none) else (q_L (310 + j) 88 [(22, a0), (0, a1), (0, a2), (0, a3), (0, a4), (9, 0), (9, 0), (9, 0)] [] (sh, h)) :=
  (q_unL (hL_X12_tries j hj) cu_X12_tries 400 45 _ _ _).trans rfl
set_option maxRecDepth 100000 in
theorem e_X12_tries_88 (j : Nat) (hj : j ≤ 6) (a0 a1 a2 a3 : Int) (x4 : q_V) (sh : Int × (Int → Nat × Int)) (h : Int → Int → Int) : q_L (310 + j) 88 [(22, a0), (0, a1), (0, a2), (0, a3), x4, (9, 0), (9, 0), (9, 0)] [] (sh, h) = some ((9, 0), (sh, h)) :=
  (q_unL (hL_X12_tries j hj) cu_X12_tries 400 88 _ _ _).trans rfl
set_option maxRecDepth 100000 in
theorem e_X12_tries_100 (j : Nat) (hj : j ≤ 6) (a0 a1 a2 a3 a4 a5 : Int) (x6 x7 : q_V) (sh : Int × (Int → Nat × Int)) (h : Int → Int → Int) : q_L (310 + j) 100 [(22, a0), (0, a1), (0, a2), (0, a3), (0, a4), (0, a5), x6, x7] [] (sh, h) = if 0 ≤ h a0 0 then (if 0 ≤ (1 : Int) ∧ (1 : Int) < (sh.2 (h a0 0)).2 then (if a5 < (h (h a0 0) (1 : Int)) then ((q_Cc 205 [(22, a0), (0, a4), (0, a5)] (sh, h)).bind (fun r => q_L (310 + j) 119 [(22, a0), (0, a1), (0, a2), (0, a3), (0, a4), (0, a5), x6, x7] [r.1] r.2)) else (if 0 ≤ h a0 20 then (if 0 ≤ a1 ∧ a1 < (sh.2 (h a0 20)).2 ∧ 0 ≤ (h a0 20) then (if 0 ≤ (q_up h (h a0 20) a1 (-1 : Int)) a0 21 then (if 0 ≤ a1 ∧ a1 < (sh.2 ((q_up h (h a0 20) a1 (-1 : Int)) a0 21)).2 ∧ 0 ≤ ((q_up h (h a0 20) a1 (-1 : Int)) a0 21) then ((q_Cc (309 + j) [(22, a0), (0, q_add a1 (1 : Int)), (0, a2), (0, a3)] (sh, q_up (q_up h (h a0 20) a1 (-1 : Int)) ((q_up h (h a0 20) a1 (-1 : Int)) a0 21) a1 (-1 : Int))).bind (fun r => q_L (310 + j) 242 [(22, a0), (0, a1), (0, a2), (0, a3), (0, a4), (0, a5), x6, x7] [] r.2)) else none) else none) else none) else none)) else none) else none :=
  (q_unL (hL_X12_tries j hj) cu_X12_tries 400 100 _ _ _).trans rfl
set_option maxRecDepth 100000 in
theorem e_X12_tries_119 (j : Nat) (hj : j ≤ 6) (a0 a1 a2 a3 a4 a5 b0 : Int) (x6 x7 : q_V) (sh : Int × (Int → Nat × Int)) (h : Int → Int → Int) : q_L (310 + j) 119 [(22, a0), (0, a1), (0, a2), (0, a3), (0, a4), (0, a5), x6, x7] [(0, b0)] (sh, h) = if b0 < 0 then (q_L (310 + j) 213 [(22, a0), (0, a1), (0, a2), (0, a3), (0, a4), (0, a5), (0, b0), x7] [] (sh, h)) else (if 0 ≤ h a0 26 then (if 0 ≤ a5 ∧ a5 < (sh.2 (h a0 26)).2 then (if 0 ≤ h a0 20 then (if 0 ≤ a1 ∧ a1 < (sh.2 (h a0 20)).2 ∧ 0 ≤ (h a0 20) then (if 0 ≤ (q_up h (h a0 20) a1 a5) a0 21 then (if 0 ≤ a1 ∧ a1 < (sh.2 ((q_up h (h a0 20) a1 a5) a0 21)).2 ∧ 0 ≤ ((q_up h (h a0 20) a1 a5) a0 21) then (if 0 ≤ (q_up (q_up h (h a0 20) a1 a5) ((q_up h (h a0 20) a1 a5) a0 21) a1 b0) a0 26 then (if 0 ≤ (q_up (q_up h (h a0 20) a1 a5) ((q_up h (h a0 20) a1 a5) a0 21) a1 b0) a0 0 then (if 0 ≤ (q_add (424 : Int) a4) ∧ (q_add (424 : Int) a4) < (sh.2 ((q_up (q_up h (h a0 20) a1 a5) ((q_up h (h a0 20) a1 a5) a0 21) a1 b0) a0 0)).2 then (if 0 ≤ (q_up (q_up h (h a0 20) a1 a5) ((q_up h (h a0 20) a1 a5) a0 21) a1 b0) a0 0 then (if 0 ≤ (q_add (64 : Int) a5) ∧ (q_add (64 : Int) a5) < (sh.2 ((q_up (q_up h (h a0 20) a1 a5) ((q_up h (h a0 20) a1 a5) a0 21) a1 b0) a0 0)).2 then (if 0 ≤ a5 ∧ a5 < (sh.2 ((q_up (q_up h (h a0 20) a1 a5) ((q_up h (h a0 20) a1 a5) a0 21) a1 b0) a0 26)).2 ∧ 0 ≤ ((q_up (q_up h (h a0 20) a1 a5) ((q_up h (h a0 20) a1 a5) a0 21) a1 b0) a0 26) then ((q_Cc 198 [(22, a0), (0, a4)] (sh, q_up (q_up (q_up h (h a0 20) a1 a5) ((q_up h (h a0 20) a1 a5) a0 21) a1 b0) ((q_up (q_up h (h a0 20) a1 a5) ((q_up h (h a0 20) a1 a5) a0 21) a1 b0) a0 26) a5 (q_add (q_add b0 ((q_up (q_up h (h a0 20) a1 a5) ((q_up h (h a0 20) a1 a5) a0 21) a1 b0) ((q_up (q_up h (h a0 20) a1 a5) ((q_up h (h a0 20) a1 a5) a0 21) a1 b0) a0 0) (q_add (424 : Int) a4))) ((q_up (q_up h (h a0 20) a1 a5) ((q_up h (h a0 20) a1 a5) a0 21) a1 b0) ((q_up (q_up h (h a0 20) a1 a5) ((q_up h (h a0 20) a1 a5) a0 21) a1 b0) a0 0) (q_add (64 : Int) a5))))).bind (fun r => q_L (310 + j) 197 [(22, a0), (0, a1), (0, a2), (0, a3), (0, a4), (0, a5), (0, b0), (0, h (h a0 26) a5)] [r.1, (0, a2), (0, q_add a1 (1 : Int)), (22, a0)] r.2)) else none) else none) else none) else none) else none) else none) else none) else none) else none) else none) else none) else none) :=
  (q_unL (hL_X12_tries j hj) cu_X12_tries 400 119 _ _ _).trans rfl
set_option maxRecDepth 100000 in
theorem e_X12_tries_197 (j : Nat) (hj : j ≤ 6) (a0 a1 a2 a3 a4 a5 a6 a7 b0 b1 b2 b3 : Int) (sh : Int × (Int → Nat × Int)) (h : Int → Int → Int) : q_L (310 + j) 197 [(22, a0), (0, a1), (0, a2), (0, a3), (0, a4), (0, a5), (0, a6), (0, a7)] [(0, b3), (0, b2), (0, b1), (22, b0)] (sh, h) = (q_Cc (309 + j) [(22, b0), (0, b1), (0, q_add b2 b3), (0, q_add a3 (1 : Int))] (sh, h)).bind (fun r => q_L (310 + j) 204 [(22, a0), (0, a1), (0, a2), (0, a3), (0, a4), (0, a5), (0, a6), (0, a7)] [] r.2) :=
  (q_unL (hL_X12_tries j hj) cu_X12_tries 400 197 _ _ _).trans rfl
set_option maxRecDepth 100000 in
theorem e_X12_tries_204 (j : Nat) (hj : j ≤ 6) (a0 a1 a2 a3 a4 a5 a6 a7 : Int) (sh : Int × (Int → Nat × Int)) (h : Int → Int → Int) : q_L (310 + j) 204 [(22, a0), (0, a1), (0, a2), (0, a3), (0, a4), (0, a5), (0, a6), (0, a7)] [] (sh, h) = if 0 ≤ h a0 26 then (if 0 ≤ a5 ∧ a5 < (sh.2 (h a0 26)).2 ∧ 0 ≤ (h a0 26) then (q_L (310 + j) 213 [(22, a0), (0, a1), (0, a2), (0, a3), (0, a4), (0, a5), (0, a6), (0, a7)] [] (sh, q_up h (h a0 26) a5 a7)) else none) else none :=
  (q_unL (hL_X12_tries j hj) cu_X12_tries 400 204 _ _ _).trans rfl
set_option maxRecDepth 100000 in
theorem e_X12_tries_213 (j : Nat) (hj : j ≤ 6) (a0 a1 a2 a3 a4 a5 a6 : Int) (x7 : q_V) (sh : Int × (Int → Nat × Int)) (h : Int → Int → Int) : q_L (310 + j) 213 [(22, a0), (0, a1), (0, a2), (0, a3), (0, a4), (0, a5), (0, a6), x7] [] (sh, h) = q_L (310 + j) 100 [(22, a0), (0, a1), (0, a2), (0, a3), (0, a4), (0, q_w (a5 + 1)), (0, a6), x7] [] (sh, h) :=
  (q_unL (hL_X12_tries j hj) cu_X12_tries 400 213 _ _ _).trans rfl
set_option maxRecDepth 100000 in
theorem e_X12_tries_242 (j : Nat) (hj : j ≤ 6) (a0 a1 a2 a3 a4 a5 : Int) (x6 x7 : q_V) (sh : Int × (Int → Nat × Int)) (h : Int → Int → Int) : q_L (310 + j) 242 [(22, a0), (0, a1), (0, a2), (0, a3), (0, a4), (0, a5), x6, x7] [] (sh, h) = some ((9, 0), (sh, h)) :=
  (q_unL (hL_X12_tries j hj) cu_X12_tries 400 242 _ _ _).trans rfl
def cu_X12_plans : List Nat := [0, 4, 21]
theorem hL_X12_plans : q_P 207 = q_find P_X12_plans := rfl
theorem c_X12_plans (a0 : Int) (s : q_M) : q_Cc 207 [(22, a0)] s = q_L 207 0 [(22, a0)] [] s := rfl
set_option maxRecDepth 100000 in
theorem e_X12_plans_0 (a0 : Int) (sh : Int × (Int → Nat × Int)) (h : Int → Int → Int) : q_L 207 0 [(22, a0)] [] (sh, h) = (q_Cc 204 [(22, a0)] (sh, h)).bind (fun r => q_L 207 4 [(22, a0)] [] r.2) :=
  (q_unL hL_X12_plans cu_X12_plans 400 0 _ _ _).trans rfl
set_option maxRecDepth 100000 in
theorem e_X12_plans_4 (a0 : Int) (sh : Int × (Int → Nat × Int)) (h : Int → Int → Int) : q_L 207 4 [(22, a0)] [] (sh, h) = (q_Cc 316 [(22, a0), (0, 0), (0, 0), (0, 0)] (sh, q_up (q_up h a0 24 (-1 : Int)) a0 25 (0 : Int))).bind (fun r => q_L 207 21 [(22, a0)] [] r.2) :=
  (q_unL hL_X12_plans cu_X12_plans 400 4 _ _ _).trans rfl
set_option maxRecDepth 100000 in
theorem e_X12_plans_21 (a0 : Int) (sh : Int × (Int → Nat × Int)) (h : Int → Int → Int) : q_L 207 21 [(22, a0)] [] (sh, h) = some ((9, 0), (sh, h)) :=
  (q_unL hL_X12_plans cu_X12_plans 400 21 _ _ _).trans rfl
def cu_X12_planNow : List Nat := [0, 5, 9]
theorem hL_X12_planNow : q_P 208 = q_find P_X12_planNow := rfl
theorem c_X12_planNow (a0 : Int) (s : q_M) : q_Cc 208 [(22, a0)] s = q_L 208 0 [(22, a0)] [] s := rfl
set_option maxRecDepth 100000 in
theorem e_X12_planNow_0 (a0 : Int) (sh : Int × (Int → Nat × Int)) (h : Int → Int → Int) : q_L 208 0 [(22, a0)] [] (sh, h) = (q_Cc 203 [(22, a0), (0, (-1))] (sh, h)).bind (fun r => q_L 208 5 [(22, a0)] [] r.2) :=
  (q_unL hL_X12_planNow cu_X12_planNow 400 0 _ _ _).trans rfl
set_option maxRecDepth 100000 in
theorem e_X12_planNow_5 (a0 : Int) (sh : Int × (Int → Nat × Int)) (h : Int → Int → Int) : q_L 208 5 [(22, a0)] [] (sh, h) = (q_Cc 207 [(22, a0)] (sh, h)).bind (fun r => q_L 208 9 [(22, a0)] [] r.2) :=
  (q_unL hL_X12_planNow cu_X12_planNow 400 5 _ _ _).trans rfl
set_option maxRecDepth 100000 in
theorem e_X12_planNow_9 (a0 : Int) (sh : Int × (Int → Nat × Int)) (h : Int → Int → Int) : q_L 208 9 [(22, a0)] [] (sh, h) = some ((9, 0), (sh, h)) :=
  (q_unL hL_X12_planNow cu_X12_planNow 400 9 _ _ _).trans rfl
def cu_X12_placeOf : List Nat := [0, 4, 27]
theorem hL_X12_placeOf : q_P 209 = q_find P_X12_placeOf := rfl
theorem c_X12_placeOf (a0 a1 : Int) (s : q_M) : q_Cc 209 [(22, a0), (0, a1)] s = q_L 209 0 [(22, a0), (0, a1), (9, 0), (9, 0)] [] s := rfl
set_option maxRecDepth 100000 in
theorem e_X12_placeOf_0 (a0 a1 : Int) (sh : Int × (Int → Nat × Int)) (h : Int → Int → Int) : q_L 209 0 [(22, a0), (0, a1), (9, 0), (9, 0)] [] (sh, h) = q_L 209 4 [(22, a0), (0, a1), (0, (-1)), (0, 0)] [] (sh, h) :=
  (q_unL hL_X12_placeOf cu_X12_placeOf 400 0 _ _ _).trans rfl
set_option maxRecDepth 100000 in
theorem e_X12_placeOf_4 (a0 a1 a2 a3 : Int) (sh : Int × (Int → Nat × Int)) (h : Int → Int → Int) : q_L 209 4 [(22, a0), (0, a1), (0, a2), (0, a3)] [] (sh, h) = if a3 < (h a0 18) then (if 0 ≤ h a0 19 then (if 0 ≤ a3 ∧ a3 < (sh.2 (h a0 19)).2 then (if (h (h a0 19) a3) = a1 then (q_L 209 27 [(22, a0), (0, a1), (0, a2), (0, a3)] [(0, a3)] (sh, h)) else (q_L 209 27 [(22, a0), (0, a1), (0, a2), (0, a3)] [(0, a2)] (sh, h))) else none) else none) else (some ((0, a2), (sh, h))) :=
  (q_unL hL_X12_placeOf cu_X12_placeOf 400 4 _ _ _).trans rfl
set_option maxRecDepth 100000 in
theorem e_X12_placeOf_27 (a0 a1 a2 a3 b0 : Int) (sh : Int × (Int → Nat × Int)) (h : Int → Int → Int) : q_L 209 27 [(22, a0), (0, a1), (0, a2), (0, a3)] [(0, b0)] (sh, h) = q_L 209 4 [(22, a0), (0, a1), (0, b0), (0, q_w (a3 + 1))] [] (sh, h) :=
  (q_unL hL_X12_placeOf cu_X12_placeOf 400 27 _ _ _).trans rfl
def cu_X12_isIn : List Nat := [0, 5, 23, 24]
theorem hL_X12_isIn : q_P 210 = q_find P_X12_isIn := rfl
theorem c_X12_isIn (a0 a1 : Int) (s : q_M) : q_Cc 210 [(22, a0), (0, a1)] s = q_L 210 0 [(22, a0), (0, a1), (9, 0)] [] s := rfl
set_option maxRecDepth 100000 in
theorem e_X12_isIn_0 (a0 a1 : Int) (sh : Int × (Int → Nat × Int)) (h : Int → Int → Int) : q_L 210 0 [(22, a0), (0, a1), (9, 0)] [] (sh, h) = (q_Cc 209 [(22, a0), (0, a1)] (sh, h)).bind (fun r => q_L 210 5 [(22, a0), (0, a1), (9, 0)] [r.1] r.2) :=
  (q_unL hL_X12_isIn cu_X12_isIn 400 0 _ _ _).trans rfl
set_option maxRecDepth 100000 in
theorem e_X12_isIn_5 (a0 a1 b0 : Int) (sh : Int × (Int → Nat × Int)) (h : Int → Int → Int) : q_L 210 5 [(22, a0), (0, a1), (9, 0)] [(0, b0)] (sh, h) = if b0 < 0 then (q_L 210 23 [(22, a0), (0, a1), (0, b0)] [] (sh, h)) else (if 0 ≤ h a0 22 then (if 0 ≤ b0 ∧ b0 < (sh.2 (h a0 22)).2 then (if (h (h a0 22) b0) < 0 then (q_L 210 23 [(22, a0), (0, a1), (0, b0)] [] (sh, h)) else (q_L 210 24 [(22, a0), (0, a1), (0, b0)] [(0, 1)] (sh, h))) else none) else none) :=
  (q_unL hL_X12_isIn cu_X12_isIn 400 5 _ _ _).trans rfl
set_option maxRecDepth 100000 in
theorem e_X12_isIn_23 (a0 a1 a2 : Int) (sh : Int × (Int → Nat × Int)) (h : Int → Int → Int) : q_L 210 23 [(22, a0), (0, a1), (0, a2)] [] (sh, h) = q_L 210 24 [(22, a0), (0, a1), (0, a2)] [(0, 0)] (sh, h) :=
  (q_unL hL_X12_isIn cu_X12_isIn 400 23 _ _ _).trans rfl
set_option maxRecDepth 100000 in
theorem e_X12_isIn_24 (a0 a1 a2 b0 : Int) (sh : Int × (Int → Nat × Int)) (h : Int → Int → Int) : q_L 210 24 [(22, a0), (0, a1), (0, a2)] [(0, b0)] (sh, h) = if b0 = 0 ∨ b0 = 1 then some ((0, b0), (sh, h)) else none :=
  (q_unL hL_X12_isIn cu_X12_isIn 400 24 _ _ _).trans rfl
def cu_X12_plan : List Nat := [0, 10, 19, 20, 24, 41, 53, 58]
theorem hL_X12_plan : q_P 211 = q_find P_X12_plan := rfl
theorem c_X12_plan (a0 a1 : Int) (s : q_M) : q_Cc 211 [(22, a0), (0, a1)] s = q_L 211 0 [(22, a0), (0, a1)] [] s := rfl
set_option maxRecDepth 100000 in
theorem e_X12_plan_0 (a0 a1 : Int) (sh : Int × (Int → Nat × Int)) (h : Int → Int → Int) : q_L 211 0 [(22, a0), (0, a1)] [] (sh, h) = if a1 = (-1 : Int) then (q_L 211 20 [(22, a0), (0, a1)] [] (sh, h)) else ((q_Cc 166 [(22, a0), (0, a1)] (sh, h)).bind (fun r => q_L 211 10 [(22, a0), (0, a1)] [r.1] r.2)) :=
  (q_unL hL_X12_plan cu_X12_plan 400 0 _ _ _).trans rfl
set_option maxRecDepth 100000 in
theorem e_X12_plan_10 (a0 a1 b0 : Int) (sh : Int × (Int → Nat × Int)) (h : Int → Int → Int) : q_L 211 10 [(22, a0), (0, a1)] [(0, b0)] (sh, h) = if b0 = 0 then ((q_Cc 161 [(22, a0), (0, (-1000001))] (sh, h)).bind (fun r => q_L 211 19 [(22, a0), (0, a1)] [r.1] r.2)) else (q_L 211 20 [(22, a0), (0, a1)] [] (sh, h)) :=
  (q_unL hL_X12_plan cu_X12_plan 400 10 _ _ _).trans rfl
set_option maxRecDepth 100000 in
theorem e_X12_plan_19 (a0 a1 b0 : Int) (sh : Int × (Int → Nat × Int)) (h : Int → Int → Int) : q_L 211 19 [(22, a0), (0, a1)] [(0, b0)] (sh, h) = some ((0, b0), (sh, h)) :=
  (q_unL hL_X12_plan cu_X12_plan 400 19 _ _ _).trans rfl
set_option maxRecDepth 100000 in
theorem e_X12_plan_20 (a0 a1 : Int) (sh : Int × (Int → Nat × Int)) (h : Int → Int → Int) : q_L 211 20 [(22, a0), (0, a1)] [] (sh, h) = (q_Cc 208 [(22, a0)] (sh, h)).bind (fun r => q_L 211 24 [(22, a0), (0, a1)] [] r.2) :=
  (q_unL hL_X12_plan cu_X12_plan 400 20 _ _ _).trans rfl
set_option maxRecDepth 100000 in
theorem e_X12_plan_24 (a0 a1 : Int) (sh : Int × (Int → Nat × Int)) (h : Int → Int → Int) : q_L 211 24 [(22, a0), (0, a1)] [] (sh, h) = if a1 = (-1 : Int) then (q_L 211 58 [(22, a0), (0, a1)] [(0, h a0 24)] (sh, h)) else ((q_Cc 210 [(22, a0), (0, a1)] (sh, h)).bind (fun r => q_L 211 41 [(22, a0), (0, a1)] [r.1] r.2)) :=
  (q_unL hL_X12_plan cu_X12_plan 400 24 _ _ _).trans rfl
set_option maxRecDepth 100000 in
theorem e_X12_plan_41 (a0 a1 b0 : Int) (sh : Int × (Int → Nat × Int)) (h : Int → Int → Int) : q_L 211 41 [(22, a0), (0, a1)] [(0, b0)] (sh, h) = if b0 = 0 then (q_L 211 58 [(22, a0), (0, a1)] [(0, (-1))] (sh, h)) else (if 0 ≤ h a0 22 then ((q_Cc 209 [(22, a0), (0, a1)] (sh, h)).bind (fun r => q_L 211 53 [(22, a0), (0, a1)] [r.1, (30, h a0 22)] r.2)) else none) :=
  (q_unL hL_X12_plan cu_X12_plan 400 41 _ _ _).trans rfl
set_option maxRecDepth 100000 in
theorem e_X12_plan_53 (a0 a1 b0 b1 : Int) (sh : Int × (Int → Nat × Int)) (h : Int → Int → Int) : q_L 211 53 [(22, a0), (0, a1)] [(0, b1), (30, b0)] (sh, h) = if 0 ≤ b1 ∧ b1 < (sh.2 b0).2 then (q_L 211 58 [(22, a0), (0, a1)] [(0, h b0 b1)] (sh, h)) else none :=
  (q_unL hL_X12_plan cu_X12_plan 400 53 _ _ _).trans rfl
set_option maxRecDepth 100000 in
theorem e_X12_plan_58 (a0 a1 b0 : Int) (sh : Int × (Int → Nat × Int)) (h : Int → Int → Int) : q_L 211 58 [(22, a0), (0, a1)] [(0, b0)] (sh, h) = some ((0, b0), (sh, h)) :=
  (q_unL hL_X12_plan cu_X12_plan 400 58 _ _ _).trans rfl
def cu_X12_begins : List Nat := [0, 5, 14, 19, 24, 36, 46]
theorem hL_X12_begins : q_P 212 = q_find P_X12_begins := rfl
theorem c_X12_begins (a0 a1 : Int) (s : q_M) : q_Cc 212 [(22, a0), (0, a1)] s = q_L 212 0 [(22, a0), (0, a1)] [] s := rfl
set_option maxRecDepth 100000 in
theorem e_X12_begins_0 (a0 a1 : Int) (sh : Int × (Int → Nat × Int)) (h : Int → Int → Int) : q_L 212 0 [(22, a0), (0, a1)] [] (sh, h) = (q_Cc 166 [(22, a0), (0, a1)] (sh, h)).bind (fun r => q_L 212 5 [(22, a0), (0, a1)] [r.1] r.2) :=
  (q_unL hL_X12_begins cu_X12_begins 400 0 _ _ _).trans rfl
set_option maxRecDepth 100000 in
theorem e_X12_begins_5 (a0 a1 b0 : Int) (sh : Int × (Int → Nat × Int)) (h : Int → Int → Int) : q_L 212 5 [(22, a0), (0, a1)] [(0, b0)] (sh, h) = if b0 = 0 then ((q_Cc 161 [(22, a0), (0, (-1000001))] (sh, h)).bind (fun r => q_L 212 14 [(22, a0), (0, a1)] [r.1] r.2)) else ((q_Cc 208 [(22, a0)] (sh, h)).bind (fun r => q_L 212 19 [(22, a0), (0, a1)] [] r.2)) :=
  (q_unL hL_X12_begins cu_X12_begins 400 5 _ _ _).trans rfl
set_option maxRecDepth 100000 in
theorem e_X12_begins_14 (a0 a1 b0 : Int) (sh : Int × (Int → Nat × Int)) (h : Int → Int → Int) : q_L 212 14 [(22, a0), (0, a1)] [(0, b0)] (sh, h) = some ((0, b0), (sh, h)) :=
  (q_unL hL_X12_begins cu_X12_begins 400 14 _ _ _).trans rfl
set_option maxRecDepth 100000 in
theorem e_X12_begins_19 (a0 a1 : Int) (sh : Int × (Int → Nat × Int)) (h : Int → Int → Int) : q_L 212 19 [(22, a0), (0, a1)] [] (sh, h) = (q_Cc 210 [(22, a0), (0, a1)] (sh, h)).bind (fun r => q_L 212 24 [(22, a0), (0, a1)] [r.1] r.2) :=
  (q_unL hL_X12_begins cu_X12_begins 400 19 _ _ _).trans rfl
set_option maxRecDepth 100000 in
theorem e_X12_begins_24 (a0 a1 b0 : Int) (sh : Int × (Int → Nat × Int)) (h : Int → Int → Int) : q_L 212 24 [(22, a0), (0, a1)] [(0, b0)] (sh, h) = if b0 = 0 then ((q_Cc 161 [(22, a0), (0, (-1000004))] (sh, h)).bind (fun r => q_L 212 46 [(22, a0), (0, a1)] [r.1] r.2)) else (if 0 ≤ h a0 23 then ((q_Cc 209 [(22, a0), (0, a1)] (sh, h)).bind (fun r => q_L 212 36 [(22, a0), (0, a1)] [r.1, (30, h a0 23)] r.2)) else none) :=
  (q_unL hL_X12_begins cu_X12_begins 400 24 _ _ _).trans rfl
set_option maxRecDepth 100000 in
theorem e_X12_begins_36 (a0 a1 b0 b1 : Int) (sh : Int × (Int → Nat × Int)) (h : Int → Int → Int) : q_L 212 36 [(22, a0), (0, a1)] [(0, b1), (30, b0)] (sh, h) = if 0 ≤ b1 ∧ b1 < (sh.2 b0).2 then (q_L 212 46 [(22, a0), (0, a1)] [(0, h b0 b1)] (sh, h)) else none :=
  (q_unL hL_X12_begins cu_X12_begins 400 36 _ _ _).trans rfl
set_option maxRecDepth 100000 in
theorem e_X12_begins_46 (a0 a1 b0 : Int) (sh : Int × (Int → Nat × Int)) (h : Int → Int → Int) : q_L 212 46 [(22, a0), (0, a1)] [(0, b0)] (sh, h) = some ((0, b0), (sh, h)) :=
  (q_unL hL_X12_begins cu_X12_begins 400 46 _ _ _).trans rfl
def cu_X12_without : List Nat := [0, 5, 14, 34, 40, 44]
theorem hL_X12_without : q_P 213 = q_find P_X12_without := rfl
theorem c_X12_without (a0 a1 : Int) (s : q_M) : q_Cc 213 [(22, a0), (0, a1)] s = q_L 213 0 [(22, a0), (0, a1)] [] s := rfl
set_option maxRecDepth 100000 in
theorem e_X12_without_0 (a0 a1 : Int) (sh : Int × (Int → Nat × Int)) (h : Int → Int → Int) : q_L 213 0 [(22, a0), (0, a1)] [] (sh, h) = (q_Cc 166 [(22, a0), (0, a1)] (sh, h)).bind (fun r => q_L 213 5 [(22, a0), (0, a1)] [r.1] r.2) :=
  (q_unL hL_X12_without cu_X12_without 400 0 _ _ _).trans rfl
set_option maxRecDepth 100000 in
theorem e_X12_without_5 (a0 a1 b0 : Int) (sh : Int × (Int → Nat × Int)) (h : Int → Int → Int) : q_L 213 5 [(22, a0), (0, a1)] [(0, b0)] (sh, h) = if b0 = 0 then ((q_Cc 161 [(22, a0), (0, (-1000001))] (sh, h)).bind (fun r => q_L 213 14 [(22, a0), (0, a1)] [r.1] r.2)) else (if 0 ≤ h a0 0 then (if 0 ≤ (q_add (480 : Int) a1) ∧ (q_add (480 : Int) a1) < (sh.2 (h a0 0)).2 then (if (h (h a0 0) (q_add (480 : Int) a1)) = 0 then ((q_Cc 203 [(22, a0), (0, a1)] (sh, h)).bind (fun r => q_L 213 40 [(22, a0), (0, a1)] [] r.2)) else ((q_Cc 161 [(22, a0), (0, (-1000005))] (sh, h)).bind (fun r => q_L 213 34 [(22, a0), (0, a1)] [r.1] r.2))) else none) else none) :=
  (q_unL hL_X12_without cu_X12_without 400 5 _ _ _).trans rfl
set_option maxRecDepth 100000 in
theorem e_X12_without_14 (a0 a1 b0 : Int) (sh : Int × (Int → Nat × Int)) (h : Int → Int → Int) : q_L 213 14 [(22, a0), (0, a1)] [(0, b0)] (sh, h) = some ((0, b0), (sh, h)) :=
  (q_unL hL_X12_without cu_X12_without 400 14 _ _ _).trans rfl
set_option maxRecDepth 100000 in
theorem e_X12_without_34 (a0 a1 b0 : Int) (sh : Int × (Int → Nat × Int)) (h : Int → Int → Int) : q_L 213 34 [(22, a0), (0, a1)] [(0, b0)] (sh, h) = some ((0, b0), (sh, h)) :=
  (q_unL hL_X12_without cu_X12_without 400 34 _ _ _).trans rfl
set_option maxRecDepth 100000 in
theorem e_X12_without_40 (a0 a1 : Int) (sh : Int × (Int → Nat × Int)) (h : Int → Int → Int) : q_L 213 40 [(22, a0), (0, a1)] [] (sh, h) = (q_Cc 207 [(22, a0)] (sh, h)).bind (fun r => q_L 213 44 [(22, a0), (0, a1)] [] r.2) :=
  (q_unL hL_X12_without cu_X12_without 400 40 _ _ _).trans rfl
set_option maxRecDepth 100000 in
theorem e_X12_without_44 (a0 a1 : Int) (sh : Int × (Int → Nat × Int)) (h : Int → Int → Int) : q_L 213 44 [(22, a0), (0, a1)] [] (sh, h) = some ((0, h a0 24), (sh, h)) :=
  (q_unL hL_X12_without cu_X12_without 400 44 _ _ _).trans rfl
def cu_X12_inPlan : List Nat := [0, 4, 34]
theorem hL_X12_inPlan : q_P 214 = q_find P_X12_inPlan := rfl
theorem c_X12_inPlan (a0 : Int) (s : q_M) : q_Cc 214 [(22, a0)] s = q_L 214 0 [(22, a0), (9, 0), (9, 0)] [] s := rfl
set_option maxRecDepth 100000 in
theorem e_X12_inPlan_0 (a0 : Int) (sh : Int × (Int → Nat × Int)) (h : Int → Int → Int) : q_L 214 0 [(22, a0), (9, 0), (9, 0)] [] (sh, h) = q_L 214 4 [(22, a0), (0, 0), (0, 0)] [] (sh, h) :=
  (q_unL hL_X12_inPlan cu_X12_inPlan 400 0 _ _ _).trans rfl
set_option maxRecDepth 100000 in
theorem e_X12_inPlan_4 (a0 a1 a2 : Int) (sh : Int × (Int → Nat × Int)) (h : Int → Int → Int) : q_L 214 4 [(22, a0), (0, a1), (0, a2)] [] (sh, h) = if a2 < (h a0 18) then (if 0 ≤ h a0 22 then (if 0 ≤ a2 ∧ a2 < (sh.2 (h a0 22)).2 then (if (h (h a0 22) a2) < 0 then (q_L 214 34 [(22, a0), (0, a1), (0, a2)] [(0, 0), (0, a1)] (sh, h)) else (if 0 ≤ h a0 19 then (if 0 ≤ a2 ∧ a2 < (sh.2 (h a0 19)).2 then (q_L 214 34 [(22, a0), (0, a1), (0, a2)] [(0, q_shl (1 : Int) (h (h a0 19) a2)), (0, a1)] (sh, h)) else none) else none)) else none) else none) else (some ((0, a1), (sh, h))) :=
  (q_unL hL_X12_inPlan cu_X12_inPlan 400 4 _ _ _).trans rfl
set_option maxRecDepth 100000 in
theorem e_X12_inPlan_34 (a0 a1 a2 b0 b1 : Int) (sh : Int × (Int → Nat × Int)) (h : Int → Int → Int) : q_L 214 34 [(22, a0), (0, a1), (0, a2)] [(0, b1), (0, b0)] (sh, h) = q_L 214 4 [(22, a0), (0, q_or b0 b1), (0, q_w (a2 + 1))] [] (sh, h) :=
  (q_unL hL_X12_inPlan cu_X12_inPlan 400 34 _ _ _).trans rfl
def cu_X12_takes : List Nat := [0, 5, 16, 19, 25, 45, 50, 54, 65, 71, 88]
theorem hL_X12_takes : q_P 215 = q_find P_X12_takes := rfl
theorem c_X12_takes (a0 a1 a2 : Int) (s : q_M) : q_Cc 215 [(22, a0), (0, a1), (0, a2)] s = q_L 215 0 [(22, a0), (0, a1), (0, a2), (9, 0), (9, 0)] [] s := rfl
set_option maxRecDepth 100000 in
theorem e_X12_takes_0 (a0 a1 a2 : Int) (sh : Int × (Int → Nat × Int)) (h : Int → Int → Int) : q_L 215 0 [(22, a0), (0, a1), (0, a2), (9, 0), (9, 0)] [] (sh, h) = (q_Cc 166 [(22, a0), (0, a1)] (sh, h)).bind (fun r => q_L 215 5 [(22, a0), (0, a1), (0, a2), (9, 0), (9, 0)] [r.1] r.2) :=
  (q_unL hL_X12_takes cu_X12_takes 400 0 _ _ _).trans rfl
set_option maxRecDepth 100000 in
theorem e_X12_takes_5 (a0 a1 a2 b0 : Int) (sh : Int × (Int → Nat × Int)) (h : Int → Int → Int) : q_L 215 5 [(22, a0), (0, a1), (0, a2), (9, 0), (9, 0)] [(0, b0)] (sh, h) = if b0 = 0 then (q_L 215 19 [(22, a0), (0, a1), (0, a2), (9, 0), (9, 0)] [] (sh, h)) else ((q_Cc 162 [(0, a2), (0, 0), (0, 999)] (sh, h)).bind (fun r => q_L 215 16 [(22, a0), (0, a1), (0, a2), (9, 0), (9, 0)] [r.1] r.2)) :=
  (q_unL hL_X12_takes cu_X12_takes 400 5 _ _ _).trans rfl
set_option maxRecDepth 100000 in
theorem e_X12_takes_16 (a0 a1 a2 b0 : Int) (sh : Int × (Int → Nat × Int)) (h : Int → Int → Int) : q_L 215 16 [(22, a0), (0, a1), (0, a2), (9, 0), (9, 0)] [(0, b0)] (sh, h) = if b0 = 0 then (q_L 215 19 [(22, a0), (0, a1), (0, a2), (9, 0), (9, 0)] [] (sh, h)) else (if 0 ≤ h a0 0 then (if 0 ≤ (q_add (480 : Int) a1) ∧ (q_add (480 : Int) a1) < (sh.2 (h a0 0)).2 then (if (h (h a0 0) (q_add (480 : Int) a1)) = 0 then ((q_Cc 208 [(22, a0)] (sh, h)).bind (fun r => q_L 215 50 [(22, a0), (0, a1), (0, a2), (9, 0), (9, 0)] [] r.2)) else ((q_Cc 161 [(22, a0), (0, (-1000005))] (sh, h)).bind (fun r => q_L 215 45 [(22, a0), (0, a1), (0, a2), (9, 0), (9, 0)] [r.1] r.2))) else none) else none) :=
  (q_unL hL_X12_takes cu_X12_takes 400 16 _ _ _).trans rfl
set_option maxRecDepth 100000 in
theorem e_X12_takes_19 (a0 a1 a2 : Int) (sh : Int × (Int → Nat × Int)) (h : Int → Int → Int) : q_L 215 19 [(22, a0), (0, a1), (0, a2), (9, 0), (9, 0)] [] (sh, h) = (q_Cc 161 [(22, a0), (0, (-1000001))] (sh, h)).bind (fun r => q_L 215 25 [(22, a0), (0, a1), (0, a2), (9, 0), (9, 0)] [r.1] r.2) :=
  (q_unL hL_X12_takes cu_X12_takes 400 19 _ _ _).trans rfl
set_option maxRecDepth 100000 in
theorem e_X12_takes_25 (a0 a1 a2 b0 : Int) (sh : Int × (Int → Nat × Int)) (h : Int → Int → Int) : q_L 215 25 [(22, a0), (0, a1), (0, a2), (9, 0), (9, 0)] [(0, b0)] (sh, h) = some ((0, b0), (sh, h)) :=
  (q_unL hL_X12_takes cu_X12_takes 400 25 _ _ _).trans rfl
set_option maxRecDepth 100000 in
theorem e_X12_takes_45 (a0 a1 a2 b0 : Int) (sh : Int × (Int → Nat × Int)) (h : Int → Int → Int) : q_L 215 45 [(22, a0), (0, a1), (0, a2), (9, 0), (9, 0)] [(0, b0)] (sh, h) = some ((0, b0), (sh, h)) :=
  (q_unL hL_X12_takes cu_X12_takes 400 45 _ _ _).trans rfl
set_option maxRecDepth 100000 in
theorem e_X12_takes_50 (a0 a1 a2 : Int) (sh : Int × (Int → Nat × Int)) (h : Int → Int → Int) : q_L 215 50 [(22, a0), (0, a1), (0, a2), (9, 0), (9, 0)] [] (sh, h) = (q_Cc 214 [(22, a0)] (sh, h)).bind (fun r => q_L 215 54 [(22, a0), (0, a1), (0, a2), (9, 0), (9, 0)] [r.1] r.2) :=
  (q_unL hL_X12_takes cu_X12_takes 400 50 _ _ _).trans rfl
set_option maxRecDepth 100000 in
theorem e_X12_takes_54 (a0 a1 a2 b0 : Int) (sh : Int × (Int → Nat × Int)) (h : Int → Int → Int) : q_L 215 54 [(22, a0), (0, a1), (0, a2), (9, 0), (9, 0)] [(0, b0)] (sh, h) = (q_Cc 168 [(22, a0), (0, q_add (466 : Int) a1), (0, a2)] (sh, h)).bind (fun r => q_L 215 65 [(22, a0), (0, a1), (0, a2), (0, b0), (9, 0)] [r.1] r.2) :=
  (q_unL hL_X12_takes cu_X12_takes 400 54 _ _ _).trans rfl
set_option maxRecDepth 100000 in
theorem e_X12_takes_65 (a0 a1 a2 a3 b0 : Int) (sh : Int × (Int → Nat × Int)) (h : Int → Int → Int) : q_L 215 65 [(22, a0), (0, a1), (0, a2), (0, a3), (9, 0)] [(0, b0)] (sh, h) = (q_Cc 208 [(22, a0)] (sh, h)).bind (fun r => q_L 215 71 [(22, a0), (0, a1), (0, a2), (0, a3), (0, b0)] [] r.2) :=
  (q_unL hL_X12_takes cu_X12_takes 400 65 _ _ _).trans rfl
set_option maxRecDepth 100000 in
theorem e_X12_takes_71 (a0 a1 a2 a3 a4 : Int) (sh : Int × (Int → Nat × Int)) (h : Int → Int → Int) : q_L 215 71 [(22, a0), (0, a1), (0, a2), (0, a3), (0, a4)] [] (sh, h) = if 0 ≤ h a0 0 then (if 0 ≤ (q_add (466 : Int) a1) ∧ (q_add (466 : Int) a1) < (sh.2 (h a0 0)).2 ∧ 0 ≤ (h a0 0) then ((q_Cc 214 [(22, a0)] (sh, q_up h (h a0 0) (q_add (466 : Int) a1) a4)).bind (fun r => q_L 215 88 [(22, a0), (0, a1), (0, a2), (0, a3), (0, a4)] [r.1, (0, a3)] r.2)) else none) else none :=
  (q_unL hL_X12_takes cu_X12_takes 400 71 _ _ _).trans rfl
set_option maxRecDepth 100000 in
theorem e_X12_takes_88 (a0 a1 a2 a3 a4 b0 b1 : Int) (sh : Int × (Int → Nat × Int)) (h : Int → Int → Int) : q_L 215 88 [(22, a0), (0, a1), (0, a2), (0, a3), (0, a4)] [(0, b1), (0, b0)] (sh, h) = some ((0, q_and b0 (q_xor b1 (-1 : Int))), (sh, h)) :=
  (q_unL hL_X12_takes cu_X12_takes 400 88 _ _ _).trans rfl
def cu_X12_isAlone : List Nat := [0, 16, 30]
theorem hL_X12_isAlone : q_P 216 = q_find P_X12_isAlone := rfl
theorem c_X12_isAlone (a0 a1 : Int) (s : q_M) : q_Cc 216 [(22, a0), (0, a1)] s = q_L 216 0 [(22, a0), (0, a1)] [] s := rfl
set_option maxRecDepth 100000 in
theorem e_X12_isAlone_0 (a0 a1 : Int) (sh : Int × (Int → Nat × Int)) (h : Int → Int → Int) : q_L 216 0 [(22, a0), (0, a1)] [] (sh, h) = if 0 ≤ (q_up h a0 18 (1 : Int)) a0 19 then (if 0 ≤ (0 : Int) ∧ (0 : Int) < (sh.2 ((q_up h a0 18 (1 : Int)) a0 19)).2 ∧ 0 ≤ ((q_up h a0 18 (1 : Int)) a0 19) then ((q_Cc 207 [(22, a0)] (sh, q_up (q_up h a0 18 (1 : Int)) ((q_up h a0 18 (1 : Int)) a0 19) (0 : Int) a1)).bind (fun r => q_L 216 16 [(22, a0), (0, a1)] [] r.2)) else none) else none :=
  (q_unL hL_X12_isAlone cu_X12_isAlone 400 0 _ _ _).trans rfl
set_option maxRecDepth 100000 in
theorem e_X12_isAlone_16 (a0 a1 : Int) (sh : Int × (Int → Nat × Int)) (h : Int → Int → Int) : q_L 216 16 [(22, a0), (0, a1)] [] (sh, h) = if 0 ≤ h a0 22 then (if 0 ≤ (0 : Int) ∧ (0 : Int) < (sh.2 (h a0 22)).2 then (if (h (h a0 22) (0 : Int)) < 0 then (q_L 216 30 [(22, a0), (0, a1)] [(0, 0)] (sh, h)) else (q_L 216 30 [(22, a0), (0, a1)] [(0, 1)] (sh, h))) else none) else none :=
  (q_unL hL_X12_isAlone cu_X12_isAlone 400 16 _ _ _).trans rfl
set_option maxRecDepth 100000 in
theorem e_X12_isAlone_30 (a0 a1 b0 : Int) (sh : Int × (Int → Nat × Int)) (h : Int → Int → Int) : q_L 216 30 [(22, a0), (0, a1)] [(0, b0)] (sh, h) = if b0 = 0 ∨ b0 = 1 then some ((0, b0), (sh, h)) else none :=
  (q_unL hL_X12_isAlone cu_X12_isAlone 400 30 _ _ _).trans rfl
def cu_X12_bars : List Nat := [0, 5, 13, 21, 27, 54, 60, 66, 74, 81, 82, 103, 119, 124, 140, 141]
theorem hL_X12_bars : q_P 217 = q_find P_X12_bars := rfl
theorem c_X12_bars (a0 a1 a2 : Int) (s : q_M) : q_Cc 217 [(22, a0), (0, a1), (0, a2)] s = q_L 217 0 [(22, a0), (0, a1), (0, a2), (9, 0)] [] s := rfl
set_option maxRecDepth 100000 in
theorem e_X12_bars_0 (a0 a1 a2 : Int) (sh : Int × (Int → Nat × Int)) (h : Int → Int → Int) : q_L 217 0 [(22, a0), (0, a1), (0, a2), (9, 0)] [] (sh, h) = (q_Cc 166 [(22, a0), (0, a1)] (sh, h)).bind (fun r => q_L 217 5 [(22, a0), (0, a1), (0, a2), (9, 0)] [r.1] r.2) :=
  (q_unL hL_X12_bars cu_X12_bars 400 0 _ _ _).trans rfl
set_option maxRecDepth 100000 in
theorem e_X12_bars_5 (a0 a1 a2 b0 : Int) (sh : Int × (Int → Nat × Int)) (h : Int → Int → Int) : q_L 217 5 [(22, a0), (0, a1), (0, a2), (9, 0)] [(0, b0)] (sh, h) = if b0 = 0 then (q_L 217 21 [(22, a0), (0, a1), (0, a2), (9, 0)] [] (sh, h)) else ((q_Cc 166 [(22, a0), (0, a2)] (sh, h)).bind (fun r => q_L 217 13 [(22, a0), (0, a1), (0, a2), (9, 0)] [r.1] r.2)) :=
  (q_unL hL_X12_bars cu_X12_bars 400 5 _ _ _).trans rfl
set_option maxRecDepth 100000 in
theorem e_X12_bars_13 (a0 a1 a2 b0 : Int) (sh : Int × (Int → Nat × Int)) (h : Int → Int → Int) : q_L 217 13 [(22, a0), (0, a1), (0, a2), (9, 0)] [(0, b0)] (sh, h) = if b0 = 0 then (q_L 217 21 [(22, a0), (0, a1), (0, a2), (9, 0)] [] (sh, h)) else (if a1 = a2 then (q_L 217 21 [(22, a0), (0, a1), (0, a2), (9, 0)] [] (sh, h)) else (if 0 ≤ h a0 0 then (if 0 ≤ (q_add (480 : Int) a1) ∧ (q_add (480 : Int) a1) < (sh.2 (h a0 0)).2 then (if (h (h a0 0) (q_add (480 : Int) a1)) = 0 then (if 0 ≤ h a0 0 then (if 0 ≤ (q_add (480 : Int) a2) ∧ (q_add (480 : Int) a2) < (sh.2 (h a0 0)).2 then (if (h (h a0 0) (q_add (480 : Int) a2)) = 0 then ((q_Cc 216 [(22, a0), (0, a1)] (sh, h)).bind (fun r => q_L 217 66 [(22, a0), (0, a1), (0, a2), (9, 0)] [r.1] r.2)) else (q_L 217 54 [(22, a0), (0, a1), (0, a2), (9, 0)] [] (sh, h))) else none) else none) else (q_L 217 54 [(22, a0), (0, a1), (0, a2), (9, 0)] [] (sh, h))) else none) else none)) :=
  (q_unL hL_X12_bars cu_X12_bars 400 13 _ _ _).trans rfl
set_option maxRecDepth 100000 in
theorem e_X12_bars_21 (a0 a1 a2 : Int) (sh : Int × (Int → Nat × Int)) (h : Int → Int → Int) : q_L 217 21 [(22, a0), (0, a1), (0, a2), (9, 0)] [] (sh, h) = (q_Cc 161 [(22, a0), (0, (-1000001))] (sh, h)).bind (fun r => q_L 217 27 [(22, a0), (0, a1), (0, a2), (9, 0)] [r.1] r.2) :=
  (q_unL hL_X12_bars cu_X12_bars 400 21 _ _ _).trans rfl
set_option maxRecDepth 100000 in
theorem e_X12_bars_27 (a0 a1 a2 b0 : Int) (sh : Int × (Int → Nat × Int)) (h : Int → Int → Int) : q_L 217 27 [(22, a0), (0, a1), (0, a2), (9, 0)] [(0, b0)] (sh, h) = some ((0, b0), (sh, h)) :=
  (q_unL hL_X12_bars cu_X12_bars 400 27 _ _ _).trans rfl
set_option maxRecDepth 100000 in
theorem e_X12_bars_54 (a0 a1 a2 : Int) (sh : Int × (Int → Nat × Int)) (h : Int → Int → Int) : q_L 217 54 [(22, a0), (0, a1), (0, a2), (9, 0)] [] (sh, h) = (q_Cc 161 [(22, a0), (0, (-1000005))] (sh, h)).bind (fun r => q_L 217 60 [(22, a0), (0, a1), (0, a2), (9, 0)] [r.1] r.2) :=
  (q_unL hL_X12_bars cu_X12_bars 400 54 _ _ _).trans rfl
set_option maxRecDepth 100000 in
theorem e_X12_bars_60 (a0 a1 a2 b0 : Int) (sh : Int × (Int → Nat × Int)) (h : Int → Int → Int) : q_L 217 60 [(22, a0), (0, a1), (0, a2), (9, 0)] [(0, b0)] (sh, h) = some ((0, b0), (sh, h)) :=
  (q_unL hL_X12_bars cu_X12_bars 400 60 _ _ _).trans rfl
set_option maxRecDepth 100000 in
theorem e_X12_bars_66 (a0 a1 a2 b0 : Int) (sh : Int × (Int → Nat × Int)) (h : Int → Int → Int) : q_L 217 66 [(22, a0), (0, a1), (0, a2), (9, 0)] [(0, b0)] (sh, h) = if b0 = 0 then (q_L 217 81 [(22, a0), (0, a1), (0, a2), (9, 0)] [] (sh, h)) else ((q_Cc 216 [(22, a0), (0, a2)] (sh, h)).bind (fun r => q_L 217 74 [(22, a0), (0, a1), (0, a2), (9, 0)] [r.1] r.2)) :=
  (q_unL hL_X12_bars cu_X12_bars 400 66 _ _ _).trans rfl
set_option maxRecDepth 100000 in
theorem e_X12_bars_74 (a0 a1 a2 b0 : Int) (sh : Int × (Int → Nat × Int)) (h : Int → Int → Int) : q_L 217 74 [(22, a0), (0, a1), (0, a2), (9, 0)] [(0, b0)] (sh, h) = if b0 = 0 then (q_L 217 81 [(22, a0), (0, a1), (0, a2), (9, 0)] [] (sh, h)) else (q_L 217 82 [(22, a0), (0, a1), (0, a2), (9, 0)] [(0, 1)] (sh, h)) :=
  (q_unL hL_X12_bars cu_X12_bars 400 74 _ _ _).trans rfl
set_option maxRecDepth 100000 in
theorem e_X12_bars_81 (a0 a1 a2 : Int) (sh : Int × (Int → Nat × Int)) (h : Int → Int → Int) : q_L 217 81 [(22, a0), (0, a1), (0, a2), (9, 0)] [] (sh, h) = q_L 217 82 [(22, a0), (0, a1), (0, a2), (9, 0)] [(0, 0)] (sh, h) :=
  (q_unL hL_X12_bars cu_X12_bars 400 81 _ _ _).trans rfl
set_option maxRecDepth 100000 in
theorem e_X12_bars_82 (a0 a1 a2 b0 : Int) (sh : Int × (Int → Nat × Int)) (h : Int → Int → Int) : q_L 217 82 [(22, a0), (0, a1), (0, a2), (9, 0)] [(0, b0)] (sh, h) = if 0 ≤ (q_up h a0 18 (2 : Int)) a0 19 then (if a1 < a2 then (q_L 217 103 [(22, a0), (0, a1), (0, a2), (0, b0)] [(0, a1), (0, 0), (30, (q_up h a0 18 (2 : Int)) a0 19)] (sh, q_up h a0 18 (2 : Int))) else (q_L 217 103 [(22, a0), (0, a1), (0, a2), (0, b0)] [(0, a2), (0, 0), (30, (q_up h a0 18 (2 : Int)) a0 19)] (sh, q_up h a0 18 (2 : Int)))) else none :=
  (q_unL hL_X12_bars cu_X12_bars 400 82 _ _ _).trans rfl
set_option maxRecDepth 100000 in
theorem e_X12_bars_103 (a0 a1 a2 a3 b0 b1 b2 : Int) (sh : Int × (Int → Nat × Int)) (h : Int → Int → Int) : q_L 217 103 [(22, a0), (0, a1), (0, a2), (0, a3)] [(0, b2), (0, b1), (30, b0)] (sh, h) = if 0 ≤ b1 ∧ b1 < (sh.2 b0).2 ∧ 0 ≤ b0 then (if 0 ≤ (q_up h b0 b1 b2) a0 19 then (if a1 < a2 then (q_L 217 119 [(22, a0), (0, a1), (0, a2), (0, a3)] [(0, a2), (0, 1), (30, (q_up h b0 b1 b2) a0 19)] (sh, q_up h b0 b1 b2)) else (q_L 217 119 [(22, a0), (0, a1), (0, a2), (0, a3)] [(0, a1), (0, 1), (30, (q_up h b0 b1 b2) a0 19)] (sh, q_up h b0 b1 b2))) else none) else none :=
  (q_unL hL_X12_bars cu_X12_bars 400 103 _ _ _).trans rfl
set_option maxRecDepth 100000 in
theorem e_X12_bars_119 (a0 a1 a2 a3 b0 b1 b2 : Int) (sh : Int × (Int → Nat × Int)) (h : Int → Int → Int) : q_L 217 119 [(22, a0), (0, a1), (0, a2), (0, a3)] [(0, b2), (0, b1), (30, b0)] (sh, h) = if 0 ≤ b1 ∧ b1 < (sh.2 b0).2 ∧ 0 ≤ b0 then ((q_Cc 207 [(22, a0)] (sh, q_up h b0 b1 b2)).bind (fun r => q_L 217 124 [(22, a0), (0, a1), (0, a2), (0, a3)] [] r.2)) else none :=
  (q_unL hL_X12_bars cu_X12_bars 400 119 _ _ _).trans rfl
set_option maxRecDepth 100000 in
theorem e_X12_bars_124 (a0 a1 a2 a3 : Int) (sh : Int × (Int → Nat × Int)) (h : Int → Int → Int) : q_L 217 124 [(22, a0), (0, a1), (0, a2), (0, a3)] [] (sh, h) = if a3 = 0 then (q_L 217 140 [(22, a0), (0, a1), (0, a2), (0, a3)] [] (sh, h)) else (if (h a0 25) < (2 : Int) then (q_L 217 141 [(22, a0), (0, a1), (0, a2), (0, a3)] [(0, 1)] (sh, h)) else (q_L 217 140 [(22, a0), (0, a1), (0, a2), (0, a3)] [] (sh, h))) :=
  (q_unL hL_X12_bars cu_X12_bars 400 124 _ _ _).trans rfl
set_option maxRecDepth 100000 in
theorem e_X12_bars_140 (a0 a1 a2 a3 : Int) (sh : Int × (Int → Nat × Int)) (h : Int → Int → Int) : q_L 217 140 [(22, a0), (0, a1), (0, a2), (0, a3)] [] (sh, h) = q_L 217 141 [(22, a0), (0, a1), (0, a2), (0, a3)] [(0, 0)] (sh, h) :=
  (q_unL hL_X12_bars cu_X12_bars 400 140 _ _ _).trans rfl
set_option maxRecDepth 100000 in
theorem e_X12_bars_141 (a0 a1 a2 a3 b0 : Int) (sh : Int × (Int → Nat × Int)) (h : Int → Int → Int) : q_L 217 141 [(22, a0), (0, a1), (0, a2), (0, a3)] [(0, b0)] (sh, h) = some ((0, b0), (sh, h)) :=
  (q_unL hL_X12_bars cu_X12_bars 400 141 _ _ _).trans rfl
def cu_X12_judge : List Nat := [0, 4, 13, 29, 35, 54, 57, 87, 96, 97, 107, 111, 157, 210, 212]
theorem hL_X12_judge : q_P 218 = q_find P_X12_judge := rfl
theorem c_X12_judge (a0 a1 : Int) (s : q_M) : q_Cc 218 [(22, a0), (0, a1)] s = q_L 218 0 [(22, a0), (0, a1), (9, 0), (9, 0), (9, 0), (9, 0), (9, 0)] [] s := rfl
set_option maxRecDepth 100000 in
theorem e_X12_judge_0 (a0 a1 : Int) (sh : Int × (Int → Nat × Int)) (h : Int → Int → Int) : q_L 218 0 [(22, a0), (0, a1), (9, 0), (9, 0), (9, 0), (9, 0), (9, 0)] [] (sh, h) = (q_Cc 246 [(0, a1)] (sh, h)).bind (fun r => q_L 218 4 [(22, a0), (0, a1), (9, 0), (9, 0), (9, 0), (9, 0), (9, 0)] [r.1] r.2) :=
  (q_unL hL_X12_judge cu_X12_judge 400 0 _ _ _).trans rfl
set_option maxRecDepth 100000 in
theorem e_X12_judge_4 (a0 a1 b0 : Int) (sh : Int × (Int → Nat × Int)) (h : Int → Int → Int) : q_L 218 4 [(22, a0), (0, a1), (9, 0), (9, 0), (9, 0), (9, 0), (9, 0)] [(0, b0)] (sh, h) = if b0 = 0 then ((q_Cc 161 [(22, a0), (0, (-1000001))] (sh, h)).bind (fun r => q_L 218 13 [(22, a0), (0, a1), (9, 0), (9, 0), (9, 0), (9, 0), (9, 0)] [r.1] r.2)) else (if 0 ≤ h a0 7 then (if 0 ≤ a1 ∧ a1 < (sh.2 (h a0 7)).2 then (if (h (h a0 7) a1) = 0 then ((q_Cc 161 [(22, a0), (0, (-1000006))] (sh, h)).bind (fun r => q_L 218 29 [(22, a0), (0, a1), (9, 0), (9, 0), (9, 0), (9, 0), (9, 0)] [r.1] r.2)) else ((q_Cc 203 [(22, a0), (0, (-1))] (sh, h)).bind (fun r => q_L 218 35 [(22, a0), (0, a1), (9, 0), (9, 0), (9, 0), (9, 0), (9, 0)] [] r.2))) else none) else none) :=
  (q_unL hL_X12_judge cu_X12_judge 400 4 _ _ _).trans rfl
set_option maxRecDepth 100000 in
theorem e_X12_judge_13 (a0 a1 b0 : Int) (sh : Int × (Int → Nat × Int)) (h : Int → Int → Int) : q_L 218 13 [(22, a0), (0, a1), (9, 0), (9, 0), (9, 0), (9, 0), (9, 0)] [(0, b0)] (sh, h) = some ((0, b0), (sh, h)) :=
  (q_unL hL_X12_judge cu_X12_judge 400 13 _ _ _).trans rfl
set_option maxRecDepth 100000 in
theorem e_X12_judge_29 (a0 a1 b0 : Int) (sh : Int × (Int → Nat × Int)) (h : Int → Int → Int) : q_L 218 29 [(22, a0), (0, a1), (9, 0), (9, 0), (9, 0), (9, 0), (9, 0)] [(0, b0)] (sh, h) = some ((0, b0), (sh, h)) :=
  (q_unL hL_X12_judge cu_X12_judge 400 29 _ _ _).trans rfl
set_option maxRecDepth 100000 in
theorem e_X12_judge_35 (a0 a1 : Int) (sh : Int × (Int → Nat × Int)) (h : Int → Int → Int) : q_L 218 35 [(22, a0), (0, a1), (9, 0), (9, 0), (9, 0), (9, 0), (9, 0)] [] (sh, h) = if 0 ≤ h a0 8 then (if 0 ≤ a1 ∧ a1 < (sh.2 (h a0 8)).2 then (if (h (h a0 8) a1) = (h a0 18) then (q_L 218 57 [(22, a0), (0, a1), (0, 0), (9, 0), (9, 0), (9, 0), (9, 0)] [] (sh, h)) else ((q_Cc 161 [(22, a0), (0, (-1000007))] (sh, h)).bind (fun r => q_L 218 54 [(22, a0), (0, a1), (9, 0), (9, 0), (9, 0), (9, 0), (9, 0)] [r.1] r.2))) else none) else none :=
  (q_unL hL_X12_judge cu_X12_judge 400 35 _ _ _).trans rfl
set_option maxRecDepth 100000 in
theorem e_X12_judge_54 (a0 a1 b0 : Int) (sh : Int × (Int → Nat × Int)) (h : Int → Int → Int) : q_L 218 54 [(22, a0), (0, a1), (9, 0), (9, 0), (9, 0), (9, 0), (9, 0)] [(0, b0)] (sh, h) = some ((0, b0), (sh, h)) :=
  (q_unL hL_X12_judge cu_X12_judge 400 54 _ _ _).trans rfl
set_option maxRecDepth 100000 in
theorem e_X12_judge_57 (a0 a1 a2 : Int) (x3 : q_V) (sh : Int × (Int → Nat × Int)) (h : Int → Int → Int) : q_L 218 57 [(22, a0), (0, a1), (0, a2), x3, (9, 0), (9, 0), (9, 0)] [] (sh, h) = if a2 < (h a0 18) then (if 0 ≤ h a0 9 then (if 0 ≤ (q_add (q_mul (24 : Int) a1) a2) ∧ (q_add (q_mul (24 : Int) a1) a2) < (sh.2 (h a0 9)).2 then (if (h (h a0 9) (q_add (q_mul (24 : Int) a1) a2)) = (-1 : Int) then (q_L 218 97 [(22, a0), (0, a1), (0, a2), (0, h (h a0 9) (q_add (q_mul (24 : Int) a1) a2)), (9, 0), (9, 0), (9, 0)] [] (sh, h)) else ((q_Cc 164 [(22, a0), (0, h (h a0 9) (q_add (q_mul (24 : Int) a1) a2))] (sh, h)).bind (fun r => q_L 218 87 [(22, a0), (0, a1), (0, a2), (0, h (h a0 9) (q_add (q_mul (24 : Int) a1) a2)), (9, 0), (9, 0), (9, 0)] [r.1] r.2))) else none) else none) else ((q_Cc 204 [(22, a0)] (sh, h)).bind (fun r => q_L 218 107 [(22, a0), (0, a1), (0, a2), x3, (9, 0), (9, 0), (9, 0)] [] r.2)) :=
  (q_unL hL_X12_judge cu_X12_judge 400 57 _ _ _).trans rfl
set_option maxRecDepth 100000 in
theorem e_X12_judge_87 (a0 a1 a2 a3 b0 : Int) (sh : Int × (Int → Nat × Int)) (h : Int → Int → Int) : q_L 218 87 [(22, a0), (0, a1), (0, a2), (0, a3), (9, 0), (9, 0), (9, 0)] [(0, b0)] (sh, h) = if b0 = 0 then ((q_Cc 161 [(22, a0), (0, (-1000001))] (sh, h)).bind (fun r => q_L 218 96 [(22, a0), (0, a1), (0, a2), (0, a3), (9, 0), (9, 0), (9, 0)] [r.1] r.2)) else (q_L 218 97 [(22, a0), (0, a1), (0, a2), (0, a3), (9, 0), (9, 0), (9, 0)] [] (sh, h)) :=
  (q_unL hL_X12_judge cu_X12_judge 400 87 _ _ _).trans rfl
set_option maxRecDepth 100000 in
theorem e_X12_judge_96 (a0 a1 a2 a3 b0 : Int) (sh : Int × (Int → Nat × Int)) (h : Int → Int → Int) : q_L 218 96 [(22, a0), (0, a1), (0, a2), (0, a3), (9, 0), (9, 0), (9, 0)] [(0, b0)] (sh, h) = some ((0, b0), (sh, h)) :=
  (q_unL hL_X12_judge cu_X12_judge 400 96 _ _ _).trans rfl
set_option maxRecDepth 100000 in
theorem e_X12_judge_97 (a0 a1 a2 a3 : Int) (sh : Int × (Int → Nat × Int)) (h : Int → Int → Int) : q_L 218 97 [(22, a0), (0, a1), (0, a2), (0, a3), (9, 0), (9, 0), (9, 0)] [] (sh, h) = q_L 218 57 [(22, a0), (0, a1), (0, q_w (a2 + 1)), (0, a3), (9, 0), (9, 0), (9, 0)] [] (sh, h) :=
  (q_unL hL_X12_judge cu_X12_judge 400 97 _ _ _).trans rfl
set_option maxRecDepth 100000 in
theorem e_X12_judge_107 (a0 a1 a2 : Int) (x3 : q_V) (sh : Int × (Int → Nat × Int)) (h : Int → Int → Int) : q_L 218 107 [(22, a0), (0, a1), (0, a2), x3, (9, 0), (9, 0), (9, 0)] [] (sh, h) = q_L 218 111 [(22, a0), (0, a1), (0, 0), (0, 0), (9, 0), (9, 0), (9, 0)] [] (sh, h) :=
  (q_unL hL_X12_judge cu_X12_judge 400 107 _ _ _).trans rfl
set_option maxRecDepth 100000 in
theorem e_X12_judge_111 (a0 a1 a2 a3 : Int) (x4 x5 x6 : q_V) (sh : Int × (Int → Nat × Int)) (h : Int → Int → Int) : q_L 218 111 [(22, a0), (0, a1), (0, a2), (0, a3), x4, x5, x6] [] (sh, h) = if a3 < (h a0 18) then (if 0 ≤ h a0 9 then (if 0 ≤ (q_add (q_mul (24 : Int) a1) a3) ∧ (q_add (q_mul (24 : Int) a1) a3) < (sh.2 (h a0 9)).2 then (if 0 ≤ h a0 19 then (if 0 ≤ a3 ∧ a3 < (sh.2 (h a0 19)).2 then (if (h (h a0 9) (q_add (q_mul (24 : Int) a1) a3)) < 0 then (q_L 218 157 [(22, a0), (0, a1), (0, a2), (0, a3), (0, h (h a0 9) (q_add (q_mul (24 : Int) a1) a3)), (0, h (h a0 19) a3), x6] [(0, 0)] (sh, h)) else ((q_Cc 205 [(22, a0), (0, h (h a0 19) a3), (0, h (h a0 9) (q_add (q_mul (24 : Int) a1) a3))] (sh, h)).bind (fun r => q_L 218 157 [(22, a0), (0, a1), (0, a2), (0, a3), (0, h (h a0 9) (q_add (q_mul (24 : Int) a1) a3)), (0, h (h a0 19) a3), x6] [r.1] r.2))) else none) else none) else none) else none) else (some ((0, a2), (sh, h))) :=
  (q_unL hL_X12_judge cu_X12_judge 400 111 _ _ _).trans rfl
set_option maxRecDepth 100000 in
theorem e_X12_judge_157 (a0 a1 a2 a3 a4 a5 b0 : Int) (x6 : q_V) (sh : Int × (Int → Nat × Int)) (h : Int → Int → Int) : q_L 218 157 [(22, a0), (0, a1), (0, a2), (0, a3), (0, a4), (0, a5), x6] [(0, b0)] (sh, h) = if b0 < 0 then (some ((0, (-1)), (sh, h))) else (if a4 < 0 then (q_L 218 212 [(22, a0), (0, a1), (0, a2), (0, a3), (0, a4), (0, a5), (0, b0)] [] (sh, h)) else (if 0 ≤ h a0 26 then (if 0 ≤ h a0 0 then (if 0 ≤ (q_add (424 : Int) a5) ∧ (q_add (424 : Int) a5) < (sh.2 (h a0 0)).2 then (if 0 ≤ h a0 0 then (if 0 ≤ (q_add (64 : Int) a4) ∧ (q_add (64 : Int) a4) < (sh.2 (h a0 0)).2 then (if 0 ≤ a4 ∧ a4 < (sh.2 (h a0 26)).2 ∧ 0 ≤ (h a0 26) then ((q_Cc 198 [(22, a0), (0, a5)] (sh, q_up h (h a0 26) a4 (q_add (q_add b0 (h (h a0 0) (q_add (424 : Int) a5))) (h (h a0 0) (q_add (64 : Int) a4))))).bind (fun r => q_L 218 210 [(22, a0), (0, a1), (0, a2), (0, a3), (0, a4), (0, a5), (0, b0)] [r.1, (0, a2)] r.2)) else none) else none) else none) else none) else none) else none)) :=
  (q_unL hL_X12_judge cu_X12_judge 400 157 _ _ _).trans rfl
set_option maxRecDepth 100000 in
theorem e_X12_judge_210 (a0 a1 a2 a3 a4 a5 a6 b0 b1 : Int) (sh : Int × (Int → Nat × Int)) (h : Int → Int → Int) : q_L 218 210 [(22, a0), (0, a1), (0, a2), (0, a3), (0, a4), (0, a5), (0, a6)] [(0, b1), (0, b0)] (sh, h) = q_L 218 212 [(22, a0), (0, a1), (0, q_add b0 b1), (0, a3), (0, a4), (0, a5), (0, a6)] [] (sh, h) :=
  (q_unL hL_X12_judge cu_X12_judge 400 210 _ _ _).trans rfl
set_option maxRecDepth 100000 in
theorem e_X12_judge_212 (a0 a1 a2 a3 a4 a5 a6 : Int) (sh : Int × (Int → Nat × Int)) (h : Int → Int → Int) : q_L 218 212 [(22, a0), (0, a1), (0, a2), (0, a3), (0, a4), (0, a5), (0, a6)] [] (sh, h) = q_L 218 111 [(22, a0), (0, a1), (0, a2), (0, q_w (a3 + 1)), (0, a4), (0, a5), (0, a6)] [] (sh, h) :=
  (q_unL hL_X12_judge cu_X12_judge 400 212 _ _ _).trans rfl
def cu_X12_hold : List Nat := [0, 4, 6, 81]
theorem hL_X12_hold : q_P 219 = q_find P_X12_hold := rfl
theorem c_X12_hold (a0 : Int) (s : q_M) : q_Cc 219 [(22, a0)] s = q_L 219 0 [(22, a0), (9, 0)] [] s := rfl
set_option maxRecDepth 100000 in
theorem e_X12_hold_0 (a0 : Int) (sh : Int × (Int → Nat × Int)) (h : Int → Int → Int) : q_L 219 0 [(22, a0), (9, 0)] [] (sh, h) = (q_Cc 208 [(22, a0)] (sh, h)).bind (fun r => q_L 219 4 [(22, a0), (9, 0)] [] r.2) :=
  (q_unL hL_X12_hold cu_X12_hold 400 0 _ _ _).trans rfl
set_option maxRecDepth 100000 in
theorem e_X12_hold_4 (a0 : Int) (sh : Int × (Int → Nat × Int)) (h : Int → Int → Int) : q_L 219 4 [(22, a0), (9, 0)] [] (sh, h) = q_L 219 6 [(22, a0), (0, 0)] [] (sh, h) :=
  (q_unL hL_X12_hold cu_X12_hold 400 4 _ _ _).trans rfl
set_option maxRecDepth 100000 in
theorem e_X12_hold_6 (a0 a1 : Int) (sh : Int × (Int → Nat × Int)) (h : Int → Int → Int) : q_L 219 6 [(22, a0), (0, a1)] [] (sh, h) = if a1 < (h a0 18) then (if 0 ≤ h a0 22 then (if 0 ≤ a1 ∧ a1 < (sh.2 (h a0 22)).2 then (if (h (h a0 22) a1) < 0 then (q_L 219 81 [(22, a0), (0, a1)] [] (sh, h)) else (if 0 ≤ h a0 0 then (if 0 ≤ h a0 19 then (if 0 ≤ a1 ∧ a1 < (sh.2 (h a0 19)).2 then (if 0 ≤ (q_add (480 : Int) (h (h a0 19) a1)) ∧ (q_add (480 : Int) (h (h a0 19) a1)) < (sh.2 (h a0 0)).2 ∧ 0 ≤ (h a0 0) then (if 0 ≤ (q_up h (h a0 0) (q_add (480 : Int) (h (h a0 19) a1)) (1 : Int)) a0 0 then (if 0 ≤ (q_up h (h a0 0) (q_add (480 : Int) (h (h a0 19) a1)) (1 : Int)) a0 19 then (if 0 ≤ a1 ∧ a1 < (sh.2 ((q_up h (h a0 0) (q_add (480 : Int) (h (h a0 19) a1)) (1 : Int)) a0 19)).2 then (if 0 ≤ (q_up h (h a0 0) (q_add (480 : Int) (h (h a0 19) a1)) (1 : Int)) a0 22 then (if 0 ≤ a1 ∧ a1 < (sh.2 ((q_up h (h a0 0) (q_add (480 : Int) (h (h a0 19) a1)) (1 : Int)) a0 22)).2 then (if 0 ≤ (q_add (494 : Int) ((q_up h (h a0 0) (q_add (480 : Int) (h (h a0 19) a1)) (1 : Int)) ((q_up h (h a0 0) (q_add (480 : Int) (h (h a0 19) a1)) (1 : Int)) a0 19) a1)) ∧ (q_add (494 : Int) ((q_up h (h a0 0) (q_add (480 : Int) (h (h a0 19) a1)) (1 : Int)) ((q_up h (h a0 0) (q_add (480 : Int) (h (h a0 19) a1)) (1 : Int)) a0 19) a1)) < (sh.2 ((q_up h (h a0 0) (q_add (480 : Int) (h (h a0 19) a1)) (1 : Int)) a0 0)).2 ∧ 0 ≤ ((q_up h (h a0 0) (q_add (480 : Int) (h (h a0 19) a1)) (1 : Int)) a0 0) then (if 0 ≤ (q_up (q_up h (h a0 0) (q_add (480 : Int) (h (h a0 19) a1)) (1 : Int)) ((q_up h (h a0 0) (q_add (480 : Int) (h (h a0 19) a1)) (1 : Int)) a0 0) (q_add (494 : Int) ((q_up h (h a0 0) (q_add (480 : Int) (h (h a0 19) a1)) (1 : Int)) ((q_up h (h a0 0) (q_add (480 : Int) (h (h a0 19) a1)) (1 : Int)) a0 19) a1)) ((q_up h (h a0 0) (q_add (480 : Int) (h (h a0 19) a1)) (1 : Int)) ((q_up h (h a0 0) (q_add (480 : Int) (h (h a0 19) a1)) (1 : Int)) a0 22) a1)) a0 0 then (if 0 ≤ (q_up (q_up h (h a0 0) (q_add (480 : Int) (h (h a0 19) a1)) (1 : Int)) ((q_up h (h a0 0) (q_add (480 : Int) (h (h a0 19) a1)) (1 : Int)) a0 0) (q_add (494 : Int) ((q_up h (h a0 0) (q_add (480 : Int) (h (h a0 19) a1)) (1 : Int)) ((q_up h (h a0 0) (q_add (480 : Int) (h (h a0 19) a1)) (1 : Int)) a0 19) a1)) ((q_up h (h a0 0) (q_add (480 : Int) (h (h a0 19) a1)) (1 : Int)) ((q_up h (h a0 0) (q_add (480 : Int) (h (h a0 19) a1)) (1 : Int)) a0 22) a1)) a0 19 then (if 0 ≤ a1 ∧ a1 < (sh.2 ((q_up (q_up h (h a0 0) (q_add (480 : Int) (h (h a0 19) a1)) (1 : Int)) ((q_up h (h a0 0) (q_add (480 : Int) (h (h a0 19) a1)) (1 : Int)) a0 0) (q_add (494 : Int) ((q_up h (h a0 0) (q_add (480 : Int) (h (h a0 19) a1)) (1 : Int)) ((q_up h (h a0 0) (q_add (480 : Int) (h (h a0 19) a1)) (1 : Int)) a0 19) a1)) ((q_up h (h a0 0) (q_add (480 : Int) (h (h a0 19) a1)) (1 : Int)) ((q_up h (h a0 0) (q_add (480 : Int) (h (h a0 19) a1)) (1 : Int)) a0 22) a1)) a0 19)).2 then (if 0 ≤ (q_up (q_up h (h a0 0) (q_add (480 : Int) (h (h a0 19) a1)) (1 : Int)) ((q_up h (h a0 0) (q_add (480 : Int) (h (h a0 19) a1)) (1 : Int)) a0 0) (q_add (494 : Int) ((q_up h (h a0 0) (q_add (480 : Int) (h (h a0 19) a1)) (1 : Int)) ((q_up h (h a0 0) (q_add (480 : Int) (h (h a0 19) a1)) (1 : Int)) a0 19) a1)) ((q_up h (h a0 0) (q_add (480 : Int) (h (h a0 19) a1)) (1 : Int)) ((q_up h (h a0 0) (q_add (480 : Int) (h (h a0 19) a1)) (1 : Int)) a0 22) a1)) a0 23 then (if 0 ≤ a1 ∧ a1 < (sh.2 ((q_up (q_up h (h a0 0) (q_add (480 : Int) (h (h a0 19) a1)) (1 : Int)) ((q_up h (h a0 0) (q_add (480 : Int) (h (h a0 19) a1)) (1 : Int)) a0 0) (q_add (494 : Int) ((q_up h (h a0 0) (q_add (480 : Int) (h (h a0 19) a1)) (1 : Int)) ((q_up h (h a0 0) (q_add (480 : Int) (h (h a0 19) a1)) (1 : Int)) a0 19) a1)) ((q_up h (h a0 0) (q_add (480 : Int) (h (h a0 19) a1)) (1 : Int)) ((q_up h (h a0 0) (q_add (480 : Int) (h (h a0 19) a1)) (1 : Int)) a0 22) a1)) a0 23)).2 then (if 0 ≤ (q_add (508 : Int) ((q_up (q_up h (h a0 0) (q_add (480 : Int) (h (h a0 19) a1)) (1 : Int)) ((q_up h (h a0 0) (q_add (480 : Int) (h (h a0 19) a1)) (1 : Int)) a0 0) (q_add (494 : Int) ((q_up h (h a0 0) (q_add (480 : Int) (h (h a0 19) a1)) (1 : Int)) ((q_up h (h a0 0) (q_add (480 : Int) (h (h a0 19) a1)) (1 : Int)) a0 19) a1)) ((q_up h (h a0 0) (q_add (480 : Int) (h (h a0 19) a1)) (1 : Int)) ((q_up h (h a0 0) (q_add (480 : Int) (h (h a0 19) a1)) (1 : Int)) a0 22) a1)) ((q_up (q_up h (h a0 0) (q_add (480 : Int) (h (h a0 19) a1)) (1 : Int)) ((q_up h (h a0 0) (q_add (480 : Int) (h (h a0 19) a1)) (1 : Int)) a0 0) (q_add (494 : Int) ((q_up h (h a0 0) (q_add (480 : Int) (h (h a0 19) a1)) (1 : Int)) ((q_up h (h a0 0) (q_add (480 : Int) (h (h a0 19) a1)) (1 : Int)) a0 19) a1)) ((q_up h (h a0 0) (q_add (480 : Int) (h (h a0 19) a1)) (1 : Int)) ((q_up h (h a0 0) (q_add (480 : Int) (h (h a0 19) a1)) (1 : Int)) a0 22) a1)) a0 19) a1)) ∧ (q_add (508 : Int) ((q_up (q_up h (h a0 0) (q_add (480 : Int) (h (h a0 19) a1)) (1 : Int)) ((q_up h (h a0 0) (q_add (480 : Int) (h (h a0 19) a1)) (1 : Int)) a0 0) (q_add (494 : Int) ((q_up h (h a0 0) (q_add (480 : Int) (h (h a0 19) a1)) (1 : Int)) ((q_up h (h a0 0) (q_add (480 : Int) (h (h a0 19) a1)) (1 : Int)) a0 19) a1)) ((q_up h (h a0 0) (q_add (480 : Int) (h (h a0 19) a1)) (1 : Int)) ((q_up h (h a0 0) (q_add (480 : Int) (h (h a0 19) a1)) (1 : Int)) a0 22) a1)) ((q_up (q_up h (h a0 0) (q_add (480 : Int) (h (h a0 19) a1)) (1 : Int)) ((q_up h (h a0 0) (q_add (480 : Int) (h (h a0 19) a1)) (1 : Int)) a0 0) (q_add (494 : Int) ((q_up h (h a0 0) (q_add (480 : Int) (h (h a0 19) a1)) (1 : Int)) ((q_up h (h a0 0) (q_add (480 : Int) (h (h a0 19) a1)) (1 : Int)) a0 19) a1)) ((q_up h (h a0 0) (q_add (480 : Int) (h (h a0 19) a1)) (1 : Int)) ((q_up h (h a0 0) (q_add (480 : Int) (h (h a0 19) a1)) (1 : Int)) a0 22) a1)) a0 19) a1)) < (sh.2 ((q_up (q_up h (h a0 0) (q_add (480 : Int) (h (h a0 19) a1)) (1 : Int)) ((q_up h (h a0 0) (q_add (480 : Int) (h (h a0 19) a1)) (1 : Int)) a0 0) (q_add (494 : Int) ((q_up h (h a0 0) (q_add (480 : Int) (h (h a0 19) a1)) (1 : Int)) ((q_up h (h a0 0) (q_add (480 : Int) (h (h a0 19) a1)) (1 : Int)) a0 19) a1)) ((q_up h (h a0 0) (q_add (480 : Int) (h (h a0 19) a1)) (1 : Int)) ((q_up h (h a0 0) (q_add (480 : Int) (h (h a0 19) a1)) (1 : Int)) a0 22) a1)) a0 0)).2 ∧ 0 ≤ ((q_up (q_up h (h a0 0) (q_add (480 : Int) (h (h a0 19) a1)) (1 : Int)) ((q_up h (h a0 0) (q_add (480 : Int) (h (h a0 19) a1)) (1 : Int)) a0 0) (q_add (494 : Int) ((q_up h (h a0 0) (q_add (480 : Int) (h (h a0 19) a1)) (1 : Int)) ((q_up h (h a0 0) (q_add (480 : Int) (h (h a0 19) a1)) (1 : Int)) a0 19) a1)) ((q_up h (h a0 0) (q_add (480 : Int) (h (h a0 19) a1)) (1 : Int)) ((q_up h (h a0 0) (q_add (480 : Int) (h (h a0 19) a1)) (1 : Int)) a0 22) a1)) a0 0) then (q_L 219 81 [(22, a0), (0, a1)] [] (sh, q_up (q_up (q_up h (h a0 0) (q_add (480 : Int) (h (h a0 19) a1)) (1 : Int)) ((q_up h (h a0 0) (q_add (480 : Int) (h (h a0 19) a1)) (1 : Int)) a0 0) (q_add (494 : Int) ((q_up h (h a0 0) (q_add (480 : Int) (h (h a0 19) a1)) (1 : Int)) ((q_up h (h a0 0) (q_add (480 : Int) (h (h a0 19) a1)) (1 : Int)) a0 19) a1)) ((q_up h (h a0 0) (q_add (480 : Int) (h (h a0 19) a1)) (1 : Int)) ((q_up h (h a0 0) (q_add (480 : Int) (h (h a0 19) a1)) (1 : Int)) a0 22) a1)) ((q_up (q_up h (h a0 0) (q_add (480 : Int) (h (h a0 19) a1)) (1 : Int)) ((q_up h (h a0 0) (q_add (480 : Int) (h (h a0 19) a1)) (1 : Int)) a0 0) (q_add (494 : Int) ((q_up h (h a0 0) (q_add (480 : Int) (h (h a0 19) a1)) (1 : Int)) ((q_up h (h a0 0) (q_add (480 : Int) (h (h a0 19) a1)) (1 : Int)) a0 19) a1)) ((q_up h (h a0 0) (q_add (480 : Int) (h (h a0 19) a1)) (1 : Int)) ((q_up h (h a0 0) (q_add (480 : Int) (h (h a0 19) a1)) (1 : Int)) a0 22) a1)) a0 0) (q_add (508 : Int) ((q_up (q_up h (h a0 0) (q_add (480 : Int) (h (h a0 19) a1)) (1 : Int)) ((q_up h (h a0 0) (q_add (480 : Int) (h (h a0 19) a1)) (1 : Int)) a0 0) (q_add (494 : Int) ((q_up h (h a0 0) (q_add (480 : Int) (h (h a0 19) a1)) (1 : Int)) ((q_up h (h a0 0) (q_add (480 : Int) (h (h a0 19) a1)) (1 : Int)) a0 19) a1)) ((q_up h (h a0 0) (q_add (480 : Int) (h (h a0 19) a1)) (1 : Int)) ((q_up h (h a0 0) (q_add (480 : Int) (h (h a0 19) a1)) (1 : Int)) a0 22) a1)) ((q_up (q_up h (h a0 0) (q_add (480 : Int) (h (h a0 19) a1)) (1 : Int)) ((q_up h (h a0 0) (q_add (480 : Int) (h (h a0 19) a1)) (1 : Int)) a0 0) (q_add (494 : Int) ((q_up h (h a0 0) (q_add (480 : Int) (h (h a0 19) a1)) (1 : Int)) ((q_up h (h a0 0) (q_add (480 : Int) (h (h a0 19) a1)) (1 : Int)) a0 19) a1)) ((q_up h (h a0 0) (q_add (480 : Int) (h (h a0 19) a1)) (1 : Int)) ((q_up h (h a0 0) (q_add (480 : Int) (h (h a0 19) a1)) (1 : Int)) a0 22) a1)) a0 19) a1)) ((q_up (q_up h (h a0 0) (q_add (480 : Int) (h (h a0 19) a1)) (1 : Int)) ((q_up h (h a0 0) (q_add (480 : Int) (h (h a0 19) a1)) (1 : Int)) a0 0) (q_add (494 : Int) ((q_up h (h a0 0) (q_add (480 : Int) (h (h a0 19) a1)) (1 : Int)) ((q_up h (h a0 0) (q_add (480 : Int) (h (h a0 19) a1)) (1 : Int)) a0 19) a1)) ((q_up h (h a0 0) (q_add (480 : Int) (h (h a0 19) a1)) (1 : Int)) ((q_up h (h a0 0) (q_add (480 : Int) (h (h a0 19) a1)) (1 : Int)) a0 22) a1)) ((q_up (q_up h (h a0 0) (q_add (480 : Int) (h (h a0 19) a1)) (1 : Int)) ((q_up h (h a0 0) (q_add (480 : Int) (h (h a0 19) a1)) (1 : Int)) a0 0) (q_add (494 : Int) ((q_up h (h a0 0) (q_add (480 : Int) (h (h a0 19) a1)) (1 : Int)) ((q_up h (h a0 0) (q_add (480 : Int) (h (h a0 19) a1)) (1 : Int)) a0 19) a1)) ((q_up h (h a0 0) (q_add (480 : Int) (h (h a0 19) a1)) (1 : Int)) ((q_up h (h a0 0) (q_add (480 : Int) (h (h a0 19) a1)) (1 : Int)) a0 22) a1)) a0 23) a1))) else none) else none) else none) else none) else none) else none) else none) else none) else none) else none) else none) else none) else none) else none) else none) else none)) else none) else none) else (some ((0, h a0 25), (sh, h))) :=
  (q_unL hL_X12_hold cu_X12_hold 400 6 _ _ _).trans rfl
set_option maxRecDepth 100000 in
theorem e_X12_hold_81 (a0 a1 : Int) (sh : Int × (Int → Nat × Int)) (h : Int → Int → Int) : q_L 219 81 [(22, a0), (0, a1)] [] (sh, h) = q_L 219 6 [(22, a0), (0, q_w (a1 + 1))] [] (sh, h) :=
  (q_unL hL_X12_hold cu_X12_hold 400 81 _ _ _).trans rfl
def cu_X12_drop : List Nat := [0, 5, 14, 35, 52]
theorem hL_X12_drop : q_P 220 = q_find P_X12_drop := rfl
theorem c_X12_drop (a0 a1 : Int) (s : q_M) : q_Cc 220 [(22, a0), (0, a1)] s = q_L 220 0 [(22, a0), (0, a1), (9, 0)] [] s := rfl
set_option maxRecDepth 100000 in
theorem e_X12_drop_0 (a0 a1 : Int) (sh : Int × (Int → Nat × Int)) (h : Int → Int → Int) : q_L 220 0 [(22, a0), (0, a1), (9, 0)] [] (sh, h) = (q_Cc 166 [(22, a0), (0, a1)] (sh, h)).bind (fun r => q_L 220 5 [(22, a0), (0, a1), (9, 0)] [r.1] r.2) :=
  (q_unL hL_X12_drop cu_X12_drop 400 0 _ _ _).trans rfl
set_option maxRecDepth 100000 in
theorem e_X12_drop_5 (a0 a1 b0 : Int) (sh : Int × (Int → Nat × Int)) (h : Int → Int → Int) : q_L 220 5 [(22, a0), (0, a1), (9, 0)] [(0, b0)] (sh, h) = if b0 = 0 then ((q_Cc 161 [(22, a0), (0, (-1000001))] (sh, h)).bind (fun r => q_L 220 14 [(22, a0), (0, a1), (9, 0)] [r.1] r.2)) else (if 0 ≤ h a0 0 then (if 0 ≤ (q_add (480 : Int) a1) ∧ (q_add (480 : Int) a1) < (sh.2 (h a0 0)).2 then (if (h (h a0 0) (q_add (480 : Int) a1)) = (1 : Int) then (if 0 ≤ h a0 0 then (if 0 ≤ (q_add (494 : Int) a1) ∧ (q_add (494 : Int) a1) < (sh.2 (h a0 0)).2 then ((q_Cc 201 [(22, a0), (0, a1)] (sh, h)).bind (fun r => q_L 220 52 [(22, a0), (0, a1), (0, h (h a0 0) (q_add (494 : Int) a1))] [] r.2)) else none) else none) else ((q_Cc 161 [(22, a0), (0, (-1000005))] (sh, h)).bind (fun r => q_L 220 35 [(22, a0), (0, a1), (9, 0)] [r.1] r.2))) else none) else none) :=
  (q_unL hL_X12_drop cu_X12_drop 400 5 _ _ _).trans rfl
set_option maxRecDepth 100000 in
theorem e_X12_drop_14 (a0 a1 b0 : Int) (sh : Int × (Int → Nat × Int)) (h : Int → Int → Int) : q_L 220 14 [(22, a0), (0, a1), (9, 0)] [(0, b0)] (sh, h) = some ((0, b0), (sh, h)) :=
  (q_unL hL_X12_drop cu_X12_drop 400 14 _ _ _).trans rfl
set_option maxRecDepth 100000 in
theorem e_X12_drop_35 (a0 a1 b0 : Int) (sh : Int × (Int → Nat × Int)) (h : Int → Int → Int) : q_L 220 35 [(22, a0), (0, a1), (9, 0)] [(0, b0)] (sh, h) = some ((0, b0), (sh, h)) :=
  (q_unL hL_X12_drop cu_X12_drop 400 35 _ _ _).trans rfl
set_option maxRecDepth 100000 in
theorem e_X12_drop_52 (a0 a1 a2 : Int) (sh : Int × (Int → Nat × Int)) (h : Int → Int → Int) : q_L 220 52 [(22, a0), (0, a1), (0, a2)] [] (sh, h) = some ((0, a2), (sh, h)) :=
  (q_unL hL_X12_drop cu_X12_drop 400 52 _ _ _).trans rfl
def cu_X12_sends : List Nat := [0, 12, 33, 96, 97, 107, 116, 171, 190, 196]
theorem hL_X12_sends : q_P 221 = q_find P_X12_sends := rfl
theorem c_X12_sends (a0 a1 a2 : Int) (s : q_M) : q_Cc 221 [(22, a0), (0, a1), (0, a2)] s = q_L 221 0 [(22, a0), (0, a1), (0, a2), (9, 0), (9, 0), (9, 0), (9, 0), (9, 0), (9, 0)] [] s := rfl
set_option maxRecDepth 100000 in
theorem e_X12_sends_0 (a0 a1 a2 : Int) (sh : Int × (Int → Nat × Int)) (h : Int → Int → Int) : q_L 221 0 [(22, a0), (0, a1), (0, a2), (9, 0), (9, 0), (9, 0), (9, 0), (9, 0), (9, 0)] [] (sh, h) = if 0 ≤ h a0 0 then (if 0 ≤ (0 : Int) ∧ (0 : Int) < (sh.2 (h a0 0)).2 then ((q_Cc 182 [(22, a0), (0, a1), (0, a2), (0, h (h a0 0) (0 : Int))] (sh, h)).bind (fun r => q_L 221 12 [(22, a0), (0, a1), (0, a2), (9, 0), (9, 0), (9, 0), (9, 0), (9, 0), (9, 0)] [r.1] r.2)) else none) else none :=
  (q_unL hL_X12_sends cu_X12_sends 400 0 _ _ _).trans rfl
set_option maxRecDepth 100000 in
theorem e_X12_sends_12 (a0 a1 a2 b0 : Int) (sh : Int × (Int → Nat × Int)) (h : Int → Int → Int) : q_L 221 12 [(22, a0), (0, a1), (0, a2), (9, 0), (9, 0), (9, 0), (9, 0), (9, 0), (9, 0)] [(0, b0)] (sh, h) = if (8 : Int) = 0 then none else if 0 ≤ h a0 0 then (if 0 ≤ (q_add (108 : Int) a1) ∧ (q_add (108 : Int) a1) < (sh.2 (h a0 0)).2 then (q_L 221 33 [(22, a0), (0, a1), (0, a2), (0, q_div b0 (8 : Int)), (0, h (h a0 0) (q_add (108 : Int) a1)), (0, 0), (0, 0), (9, 0), (9, 0)] [] (sh, h)) else none) else none :=
  (q_unL hL_X12_sends cu_X12_sends 400 12 _ _ _).trans rfl
set_option maxRecDepth 100000 in
theorem e_X12_sends_33 (a0 a1 a2 a3 a4 a5 a6 : Int) (x7 : q_V) (sh : Int × (Int → Nat × Int)) (h : Int → Int → Int) : q_L 221 33 [(22, a0), (0, a1), (0, a2), (0, a3), (0, a4), (0, a5), (0, a6), x7, (9, 0)] [] (sh, h) = if a6 < a4 then (if 0 ≤ h a0 0 then (if 0 ≤ (q_add (q_add (300 : Int) (q_mul (12 : Int) a1)) a6) ∧ (q_add (q_add (300 : Int) (q_mul (12 : Int) a1)) a6) < (sh.2 (h a0 0)).2 then (if 0 ≤ h a0 27 then (if (h (h a0 0) (q_add (q_add (300 : Int) (q_mul (12 : Int) a1)) a6)) < 0 then (q_L 221 96 [(22, a0), (0, a1), (0, a2), (0, a3), (0, a4), (0, a5), (0, a6), (0, h (h a0 0) (q_add (q_add (300 : Int) (q_mul (12 : Int) a1)) a6)), (9, 0)] [(0, a6), (31, h a0 27)] (sh, h)) else (if 0 ≤ h a0 0 then (if 0 ≤ (0 : Int) ∧ (0 : Int) < (sh.2 (h a0 0)).2 then (if 0 ≤ h a0 0 then (if 0 ≤ (q_add (84 : Int) a1) ∧ (q_add (84 : Int) a1) < (sh.2 (h a0 0)).2 then (if (q_sub (h (h a0 0) (0 : Int)) (q_mul (2 : Int) (h (h a0 0) (q_add (84 : Int) a1)))) < (h (h a0 0) (q_add (q_add (300 : Int) (q_mul (12 : Int) a1)) a6)) then (q_L 221 96 [(22, a0), (0, a1), (0, a2), (0, a3), (0, a4), (0, a5), (0, a6), (0, h (h a0 0) (q_add (q_add (300 : Int) (q_mul (12 : Int) a1)) a6)), (9, 0)] [(0, a6), (31, h a0 27)] (sh, h)) else (q_L 221 97 [(22, a0), (0, a1), (0, a2), (0, a3), (0, a4), (0, a5), (0, a6), (0, h (h a0 0) (q_add (q_add (300 : Int) (q_mul (12 : Int) a1)) a6)), (9, 0)] [(0, 1), (0, a6), (31, h a0 27)] (sh, h))) else none) else none) else none) else none)) else none) else none) else none) else (q_L 221 107 [(22, a0), (0, a1), (0, a2), (0, a3), (0, a4), (0, a5), (0, 0), x7, (9, 0)] [] (sh, h)) :=
  (q_unL hL_X12_sends cu_X12_sends 400 33 _ _ _).trans rfl
set_option maxRecDepth 100000 in
theorem e_X12_sends_96 (a0 a1 a2 a3 a4 a5 a6 a7 b0 b1 : Int) (sh : Int × (Int → Nat × Int)) (h : Int → Int → Int) : q_L 221 96 [(22, a0), (0, a1), (0, a2), (0, a3), (0, a4), (0, a5), (0, a6), (0, a7), (9, 0)] [(0, b1), (31, b0)] (sh, h) = q_L 221 97 [(22, a0), (0, a1), (0, a2), (0, a3), (0, a4), (0, a5), (0, a6), (0, a7), (9, 0)] [(0, 0), (0, b1), (31, b0)] (sh, h) :=
  (q_unL hL_X12_sends cu_X12_sends 400 96 _ _ _).trans rfl
set_option maxRecDepth 100000 in
theorem e_X12_sends_97 (a0 a1 a2 a3 a4 a5 a6 a7 b0 b1 b2 : Int) (sh : Int × (Int → Nat × Int)) (h : Int → Int → Int) : q_L 221 97 [(22, a0), (0, a1), (0, a2), (0, a3), (0, a4), (0, a5), (0, a6), (0, a7), (9, 0)] [(0, b2), (0, b1), (31, b0)] (sh, h) = if 0 ≤ b1 ∧ b1 < (sh.2 b0).2 ∧ (b2 = 0 ∨ b2 = 1) then (q_L 221 33 [(22, a0), (0, a1), (0, a2), (0, a3), (0, a4), (0, a5), (0, q_w (a6 + 1)), (0, a7), (9, 0)] [] (sh, q_up h b0 b1 b2)) else none :=
  (q_unL hL_X12_sends cu_X12_sends 400 97 _ _ _).trans rfl
set_option maxRecDepth 100000 in
theorem e_X12_sends_107 (a0 a1 a2 a3 a4 a5 a6 : Int) (x7 x8 : q_V) (sh : Int × (Int → Nat × Int)) (h : Int → Int → Int) : q_L 221 107 [(22, a0), (0, a1), (0, a2), (0, a3), (0, a4), (0, a5), (0, a6), x7, x8] [] (sh, h) = if a6 < (2 : Int) then (q_L 221 116 [(22, a0), (0, a1), (0, a2), (0, a3), (0, a4), (0, a5), (0, a6), (0, 0), x8] [] (sh, h)) else (some ((0, a5), (sh, h))) :=
  (q_unL hL_X12_sends cu_X12_sends 400 107 _ _ _).trans rfl
set_option maxRecDepth 100000 in
theorem e_X12_sends_116 (a0 a1 a2 a3 a4 a5 a6 a7 : Int) (x8 : q_V) (sh : Int × (Int → Nat × Int)) (h : Int → Int → Int) : q_L 221 116 [(22, a0), (0, a1), (0, a2), (0, a3), (0, a4), (0, a5), (0, a6), (0, a7), x8] [] (sh, h) = if a7 < a4 then (if 0 < a3 then (if a6 = 0 then (if 0 ≤ h a0 0 then (if 0 ≤ (q_add (q_add (300 : Int) (q_mul (12 : Int) a1)) a7) ∧ (q_add (q_add (300 : Int) (q_mul (12 : Int) a1)) a7) < (sh.2 (h a0 0)).2 then (if (h (h a0 0) (q_add (q_add (300 : Int) (q_mul (12 : Int) a1)) a7)) < 0 then (q_L 221 171 [(22, a0), (0, a1), (0, a2), (0, a3), (0, a4), (0, a5), (0, a6), (0, a7), (0, q_add (q_add (300 : Int) (q_mul (12 : Int) a1)) a7)] [] (sh, h)) else (q_L 221 190 [(22, a0), (0, a1), (0, a2), (0, a3), (0, a4), (0, a5), (0, a6), (0, a7), (0, q_add (q_add (300 : Int) (q_mul (12 : Int) a1)) a7)] [] (sh, h))) else none) else none) else (if 0 ≤ h a0 27 then (if 0 ≤ a7 ∧ a7 < (sh.2 (h a0 27)).2 then (if (h (h a0 27) a7) = 0 then (q_L 221 190 [(22, a0), (0, a1), (0, a2), (0, a3), (0, a4), (0, a5), (0, a6), (0, a7), (0, q_add (q_add (300 : Int) (q_mul (12 : Int) a1)) a7)] [] (sh, h)) else (q_L 221 171 [(22, a0), (0, a1), (0, a2), (0, a3), (0, a4), (0, a5), (0, a6), (0, a7), (0, q_add (q_add (300 : Int) (q_mul (12 : Int) a1)) a7)] [] (sh, h))) else none) else none)) else (q_L 221 196 [(22, a0), (0, a1), (0, a2), (0, a3), (0, a4), (0, a5), (0, a6), (0, a7), x8] [] (sh, h))) else (q_L 221 196 [(22, a0), (0, a1), (0, a2), (0, a3), (0, a4), (0, a5), (0, a6), (0, a7), x8] [] (sh, h)) :=
  (q_unL hL_X12_sends cu_X12_sends 400 116 _ _ _).trans rfl
set_option maxRecDepth 100000 in
theorem e_X12_sends_171 (a0 a1 a2 a3 a4 a5 a6 a7 a8 : Int) (sh : Int × (Int → Nat × Int)) (h : Int → Int → Int) : q_L 221 171 [(22, a0), (0, a1), (0, a2), (0, a3), (0, a4), (0, a5), (0, a6), (0, a7), (0, a8)] [] (sh, h) = if 0 ≤ h a0 0 then (if 0 ≤ h a0 0 then (if 0 ≤ (0 : Int) ∧ (0 : Int) < (sh.2 (h a0 0)).2 then (if 0 ≤ a8 ∧ a8 < (sh.2 (h a0 0)).2 ∧ 0 ≤ (h a0 0) then (q_L 221 190 [(22, a0), (0, a1), (0, a2), (0, q_w (a3 + (-1))), (0, a4), (0, q_w (a5 + 1)), (0, a6), (0, a7), (0, a8)] [] (sh, q_up h (h a0 0) a8 (h (h a0 0) (0 : Int)))) else none) else none) else none) else none :=
  (q_unL hL_X12_sends cu_X12_sends 400 171 _ _ _).trans rfl
set_option maxRecDepth 100000 in
theorem e_X12_sends_190 (a0 a1 a2 a3 a4 a5 a6 a7 a8 : Int) (sh : Int × (Int → Nat × Int)) (h : Int → Int → Int) : q_L 221 190 [(22, a0), (0, a1), (0, a2), (0, a3), (0, a4), (0, a5), (0, a6), (0, a7), (0, a8)] [] (sh, h) = q_L 221 116 [(22, a0), (0, a1), (0, a2), (0, a3), (0, a4), (0, a5), (0, a6), (0, q_w (a7 + 1)), (0, a8)] [] (sh, h) :=
  (q_unL hL_X12_sends cu_X12_sends 400 190 _ _ _).trans rfl
set_option maxRecDepth 100000 in
theorem e_X12_sends_196 (a0 a1 a2 a3 a4 a5 a6 a7 : Int) (x8 : q_V) (sh : Int × (Int → Nat × Int)) (h : Int → Int → Int) : q_L 221 196 [(22, a0), (0, a1), (0, a2), (0, a3), (0, a4), (0, a5), (0, a6), (0, a7), x8] [] (sh, h) = q_L 221 107 [(22, a0), (0, a1), (0, a2), (0, a3), (0, a4), (0, a5), (0, q_w (a6 + 1)), (0, a7), x8] [] (sh, h) :=
  (q_unL hL_X12_sends cu_X12_sends 400 196 _ _ _).trans rfl
def cu_X12_ordersGo : List Nat := [0, 2, 14, 85, 90, 130, 141, 148]
theorem hL_X12_ordersGo : q_P 222 = q_find P_X12_ordersGo := rfl
theorem c_X12_ordersGo (a0 a1 : Int) (s : q_M) : q_Cc 222 [(22, a0), (0, a1)] s = q_L 222 0 [(22, a0), (0, a1), (9, 0), (9, 0), (9, 0), (9, 0)] [] s := rfl
set_option maxRecDepth 100000 in
theorem e_X12_ordersGo_0 (a0 a1 : Int) (sh : Int × (Int → Nat × Int)) (h : Int → Int → Int) : q_L 222 0 [(22, a0), (0, a1), (9, 0), (9, 0), (9, 0), (9, 0)] [] (sh, h) = q_L 222 2 [(22, a0), (0, a1), (0, 0), (9, 0), (9, 0), (9, 0)] [] (sh, h) :=
  (q_unL hL_X12_ordersGo cu_X12_ordersGo 400 0 _ _ _).trans rfl
set_option maxRecDepth 100000 in
theorem e_X12_ordersGo_2 (a0 a1 a2 : Int) (x3 x4 x5 : q_V) (sh : Int × (Int → Nat × Int)) (h : Int → Int → Int) : q_L 222 2 [(22, a0), (0, a1), (0, a2), x3, x4, x5] [] (sh, h) = if 0 ≤ h a0 0 then (if 0 ≤ (2 : Int) ∧ (2 : Int) < (sh.2 (h a0 0)).2 then (if a2 < (h (h a0 0) (2 : Int)) then (q_L 222 14 [(22, a0), (0, a1), (0, a2), (0, 0), x4, x5] [] (sh, h)) else (some ((9, 0), (sh, h)))) else none) else none :=
  (q_unL hL_X12_ordersGo cu_X12_ordersGo 400 2 _ _ _).trans rfl
set_option maxRecDepth 100000 in
theorem e_X12_ordersGo_14 (a0 a1 a2 a3 : Int) (x4 x5 : q_V) (sh : Int × (Int → Nat × Int)) (h : Int → Int → Int) : q_L 222 14 [(22, a0), (0, a1), (0, a2), (0, a3), x4, x5] [] (sh, h) = if 0 ≤ h a0 0 then (if 0 ≤ (q_add (148 : Int) a2) ∧ (q_add (148 : Int) a2) < (sh.2 (h a0 0)).2 then (if a3 < (h (h a0 0) (q_add (148 : Int) a2)) then (if (q_and (q_shr a1 a2) (1 : Int)) = (1 : Int) then (if 0 ≤ h a0 0 then (if 0 ≤ (q_add (522 : Int) (q_add (q_mul (12 : Int) a2) a3)) ∧ (q_add (522 : Int) (q_add (q_mul (12 : Int) a2) a3)) < (sh.2 (h a0 0)).2 then (if 0 ≤ h a0 0 then (if 0 ≤ (0 : Int) ∧ (0 : Int) < (sh.2 (h a0 0)).2 then (if (h (h a0 0) (q_add (522 : Int) (q_add (q_mul (12 : Int) a2) a3))) = (h (h a0 0) (0 : Int)) then (q_L 222 85 [(22, a0), (0, a1), (0, a2), (0, a3), (0, q_add (q_mul (12 : Int) a2) a3), x5] [] (sh, h)) else (if 0 ≤ h a0 0 then (if 0 ≤ (q_add (618 : Int) (q_add (q_mul (12 : Int) a2) a3)) ∧ (q_add (618 : Int) (q_add (q_mul (12 : Int) a2) a3)) < (sh.2 (h a0 0)).2 then (if 0 ≤ h a0 0 then (if 0 ≤ (0 : Int) ∧ (0 : Int) < (sh.2 (h a0 0)).2 then (if (h (h a0 0) (q_add (618 : Int) (q_add (q_mul (12 : Int) a2) a3))) = (h (h a0 0) (0 : Int)) then (q_L 222 85 [(22, a0), (0, a1), (0, a2), (0, a3), (0, q_add (q_mul (12 : Int) a2) a3), x5] [] (sh, h)) else (q_L 222 90 [(22, a0), (0, a1), (0, a2), (0, a3), (0, q_add (q_mul (12 : Int) a2) a3), x5] [(0, 0)] (sh, h))) else none) else none) else none) else none)) else none) else none) else none) else none) else (q_L 222 148 [(22, a0), (0, a1), (0, a2), (0, a3), x4, x5] [] (sh, h))) else (q_L 222 148 [(22, a0), (0, a1), (0, a2), (0, a3), x4, x5] [] (sh, h))) else none) else none :=
  (q_unL hL_X12_ordersGo cu_X12_ordersGo 400 14 _ _ _).trans rfl
set_option maxRecDepth 100000 in
theorem e_X12_ordersGo_85 (a0 a1 a2 a3 a4 : Int) (x5 : q_V) (sh : Int × (Int → Nat × Int)) (h : Int → Int → Int) : q_L 222 85 [(22, a0), (0, a1), (0, a2), (0, a3), (0, a4), x5] [] (sh, h) = q_L 222 90 [(22, a0), (0, a1), (0, a2), (0, a3), (0, a4), x5] [(0, 1)] (sh, h) :=
  (q_unL hL_X12_ordersGo cu_X12_ordersGo 400 85 _ _ _).trans rfl
set_option maxRecDepth 100000 in
theorem e_X12_ordersGo_90 (a0 a1 a2 a3 a4 b0 : Int) (x5 : q_V) (sh : Int × (Int → Nat × Int)) (h : Int → Int → Int) : q_L 222 90 [(22, a0), (0, a1), (0, a2), (0, a3), (0, a4), x5] [(0, b0)] (sh, h) = if 0 ≤ h a0 0 then (if b0 = 0 then (q_L 222 130 [(22, a0), (0, a1), (0, a2), (0, a3), (0, a4), (0, b0)] [(0, q_add (1002 : Int) a4), (30, h a0 0)] (sh, h)) else (if 0 ≤ h a0 0 then (if 0 ≤ (q_add (1002 : Int) a4) ∧ (q_add (1002 : Int) a4) < (sh.2 (h a0 0)).2 then (if (h (h a0 0) (q_add (1002 : Int) a4)) < 0 then (if 0 ≤ h a0 0 then (if 0 ≤ (0 : Int) ∧ (0 : Int) < (sh.2 (h a0 0)).2 then (q_L 222 141 [(22, a0), (0, a1), (0, a2), (0, a3), (0, a4), (0, b0)] [(0, h (h a0 0) (0 : Int)), (0, q_add (1002 : Int) a4), (30, h a0 0)] (sh, h)) else none) else none) else (q_L 222 130 [(22, a0), (0, a1), (0, a2), (0, a3), (0, a4), (0, b0)] [(0, q_add (1002 : Int) a4), (30, h a0 0)] (sh, h))) else none) else none)) else none :=
  (q_unL hL_X12_ordersGo cu_X12_ordersGo 400 90 _ _ _).trans rfl
set_option maxRecDepth 100000 in
theorem e_X12_ordersGo_130 (a0 a1 a2 a3 a4 a5 b0 b1 : Int) (sh : Int × (Int → Nat × Int)) (h : Int → Int → Int) : q_L 222 130 [(22, a0), (0, a1), (0, a2), (0, a3), (0, a4), (0, a5)] [(0, b1), (30, b0)] (sh, h) = if 0 ≤ h a0 0 then (if 0 ≤ (q_add (1002 : Int) a4) ∧ (q_add (1002 : Int) a4) < (sh.2 (h a0 0)).2 then (q_L 222 141 [(22, a0), (0, a1), (0, a2), (0, a3), (0, a4), (0, a5)] [(0, h (h a0 0) (q_add (1002 : Int) a4)), (0, b1), (30, b0)] (sh, h)) else none) else none :=
  (q_unL hL_X12_ordersGo cu_X12_ordersGo 400 130 _ _ _).trans rfl
set_option maxRecDepth 100000 in
theorem e_X12_ordersGo_141 (a0 a1 a2 a3 a4 a5 b0 b1 b2 : Int) (sh : Int × (Int → Nat × Int)) (h : Int → Int → Int) : q_L 222 141 [(22, a0), (0, a1), (0, a2), (0, a3), (0, a4), (0, a5)] [(0, b2), (0, b1), (30, b0)] (sh, h) = if 0 ≤ b1 ∧ b1 < (sh.2 b0).2 ∧ 0 ≤ b0 then (q_L 222 14 [(22, a0), (0, a1), (0, a2), (0, q_w (a3 + 1)), (0, a4), (0, a5)] [] (sh, q_up h b0 b1 b2)) else none :=
  (q_unL hL_X12_ordersGo cu_X12_ordersGo 400 141 _ _ _).trans rfl
set_option maxRecDepth 100000 in
theorem e_X12_ordersGo_148 (a0 a1 a2 a3 : Int) (x4 x5 : q_V) (sh : Int × (Int → Nat × Int)) (h : Int → Int → Int) : q_L 222 148 [(22, a0), (0, a1), (0, a2), (0, a3), x4, x5] [] (sh, h) = q_L 222 2 [(22, a0), (0, a1), (0, q_w (a2 + 1)), (0, a3), x4, x5] [] (sh, h) :=
  (q_unL hL_X12_ordersGo cu_X12_ordersGo 400 148 _ _ _).trans rfl
def cu_X12_ordersEnd : List Nat := [0, 2, 16, 100, 101, 144, 176, 198, 199]
theorem hL_X12_ordersEnd : q_P 223 = q_find P_X12_ordersEnd := rfl
theorem c_X12_ordersEnd (a0 : Int) (s : q_M) : q_Cc 223 [(22, a0)] s = q_L 223 0 [(22, a0), (9, 0), (9, 0), (9, 0), (9, 0), (9, 0)] [] s := rfl
set_option maxRecDepth 100000 in
theorem e_X12_ordersEnd_0 (a0 : Int) (sh : Int × (Int → Nat × Int)) (h : Int → Int → Int) : q_L 223 0 [(22, a0), (9, 0), (9, 0), (9, 0), (9, 0), (9, 0)] [] (sh, h) = q_L 223 2 [(22, a0), (0, 0), (9, 0), (9, 0), (9, 0), (9, 0)] [] (sh, h) :=
  (q_unL hL_X12_ordersEnd cu_X12_ordersEnd 400 0 _ _ _).trans rfl
set_option maxRecDepth 100000 in
theorem e_X12_ordersEnd_2 (a0 a1 : Int) (x2 x3 x4 x5 : q_V) (sh : Int × (Int → Nat × Int)) (h : Int → Int → Int) : q_L 223 2 [(22, a0), (0, a1), x2, x3, x4, x5] [] (sh, h) = if 0 ≤ h a0 0 then (if 0 ≤ (2 : Int) ∧ (2 : Int) < (sh.2 (h a0 0)).2 then (if a1 < (h (h a0 0) (2 : Int)) then (q_L 223 16 [(22, a0), (0, a1), (0, 1), (0, 0), x4, x5] [] (sh, h)) else (some ((9, 0), (sh, h)))) else none) else none :=
  (q_unL hL_X12_ordersEnd cu_X12_ordersEnd 400 2 _ _ _).trans rfl
set_option maxRecDepth 100000 in
theorem e_X12_ordersEnd_16 (a0 a1 a2 a3 : Int) (x4 x5 : q_V) (sh : Int × (Int → Nat × Int)) (h : Int → Int → Int) : q_L 223 16 [(22, a0), (0, a1), (0, a2), (0, a3), x4, x5] [] (sh, h) = if 0 ≤ h a0 0 then (if 0 ≤ (q_add (148 : Int) a1) ∧ (q_add (148 : Int) a1) < (sh.2 (h a0 0)).2 then (if a3 < (h (h a0 0) (q_add (148 : Int) a1)) then (if 0 ≤ h a0 0 then (if 0 ≤ (q_add (810 : Int) (q_add (q_mul (12 : Int) a1) a3)) ∧ (q_add (810 : Int) (q_add (q_mul (12 : Int) a1) a3)) < (sh.2 (h a0 0)).2 then (if (h (h a0 0) (q_add (810 : Int) (q_add (q_mul (12 : Int) a1) a3))) = 0 then (if 0 ≤ h a0 0 then (if 0 ≤ (q_add (1002 : Int) (q_add (q_mul (12 : Int) a1) a3)) ∧ (q_add (1002 : Int) (q_add (q_mul (12 : Int) a1) a3)) < (sh.2 (h a0 0)).2 then (if (h (h a0 0) (q_add (1002 : Int) (q_add (q_mul (12 : Int) a1) a3))) < 0 then (q_L 223 100 [(22, a0), (0, a1), (0, a2), (0, a3), (0, q_add (q_mul (12 : Int) a1) a3), x5] [] (sh, h)) else (if 0 ≤ h a0 0 then (if 0 ≤ (q_add (1002 : Int) (q_add (q_mul (12 : Int) a1) a3)) ∧ (q_add (1002 : Int) (q_add (q_mul (12 : Int) a1) a3)) < (sh.2 (h a0 0)).2 then (if 0 ≤ h a0 0 then (if 0 ≤ (q_add (84 : Int) a1) ∧ (q_add (84 : Int) a1) < (sh.2 (h a0 0)).2 then (if 0 ≤ h a0 0 then (if 0 ≤ (0 : Int) ∧ (0 : Int) < (sh.2 (h a0 0)).2 then (if (h (h a0 0) (0 : Int)) < (q_add (h (h a0 0) (q_add (1002 : Int) (q_add (q_mul (12 : Int) a1) a3))) (h (h a0 0) (q_add (84 : Int) a1))) then (q_L 223 100 [(22, a0), (0, a1), (0, a2), (0, a3), (0, q_add (q_mul (12 : Int) a1) a3), x5] [] (sh, h)) else (q_L 223 101 [(22, a0), (0, a1), (0, a2), (0, a3), (0, q_add (q_mul (12 : Int) a1) a3), x5] [(0, 1)] (sh, h))) else none) else none) else none) else none) else none) else none)) else none) else none) else (q_L 223 176 [(22, a0), (0, a1), (0, a2), (0, a3), (0, q_add (q_mul (12 : Int) a1) a3), x5] [] (sh, h))) else none) else none) else (q_L 223 2 [(22, a0), (0, q_w (a1 + 1)), (0, a2), (0, a3), x4, x5] [] (sh, h))) else none) else none :=
  (q_unL hL_X12_ordersEnd cu_X12_ordersEnd 400 16 _ _ _).trans rfl
set_option maxRecDepth 100000 in
theorem e_X12_ordersEnd_100 (a0 a1 a2 a3 a4 : Int) (x5 : q_V) (sh : Int × (Int → Nat × Int)) (h : Int → Int → Int) : q_L 223 100 [(22, a0), (0, a1), (0, a2), (0, a3), (0, a4), x5] [] (sh, h) = q_L 223 101 [(22, a0), (0, a1), (0, a2), (0, a3), (0, a4), x5] [(0, 0)] (sh, h) :=
  (q_unL hL_X12_ordersEnd cu_X12_ordersEnd 400 100 _ _ _).trans rfl
set_option maxRecDepth 100000 in
theorem e_X12_ordersEnd_101 (a0 a1 a2 a3 a4 b0 : Int) (x5 : q_V) (sh : Int × (Int → Nat × Int)) (h : Int → Int → Int) : q_L 223 101 [(22, a0), (0, a1), (0, a2), (0, a3), (0, a4), x5] [(0, b0)] (sh, h) = if b0 = 0 then (q_L 223 144 [(22, a0), (0, a1), (0, a2), (0, a3), (0, a4), (0, b0)] [] (sh, h)) else (if a2 = 0 then (q_L 223 144 [(22, a0), (0, a1), (0, a2), (0, a3), (0, a4), (0, b0)] [] (sh, h)) else (if 0 ≤ h a0 0 then (if 0 ≤ (q_add (810 : Int) a4) ∧ (q_add (810 : Int) a4) < (sh.2 (h a0 0)).2 ∧ 0 ≤ (h a0 0) then (if 0 ≤ (q_up h (h a0 0) (q_add (810 : Int) a4) (1 : Int)) a0 0 then (if 0 ≤ (q_up h (h a0 0) (q_add (810 : Int) a4) (1 : Int)) a0 0 then (if 0 ≤ (0 : Int) ∧ (0 : Int) < (sh.2 ((q_up h (h a0 0) (q_add (810 : Int) a4) (1 : Int)) a0 0)).2 then (if 0 ≤ (q_add (906 : Int) a4) ∧ (q_add (906 : Int) a4) < (sh.2 ((q_up h (h a0 0) (q_add (810 : Int) a4) (1 : Int)) a0 0)).2 ∧ 0 ≤ ((q_up h (h a0 0) (q_add (810 : Int) a4) (1 : Int)) a0 0) then (q_L 223 176 [(22, a0), (0, a1), (0, a2), (0, a3), (0, a4), (0, b0)] [] (sh, q_up (q_up h (h a0 0) (q_add (810 : Int) a4) (1 : Int)) ((q_up h (h a0 0) (q_add (810 : Int) a4) (1 : Int)) a0 0) (q_add (906 : Int) a4) ((q_up h (h a0 0) (q_add (810 : Int) a4) (1 : Int)) ((q_up h (h a0 0) (q_add (810 : Int) a4) (1 : Int)) a0 0) (0 : Int)))) else none) else none) else none) else none) else none) else none)) :=
  (q_unL hL_X12_ordersEnd cu_X12_ordersEnd 400 101 _ _ _).trans rfl
set_option maxRecDepth 100000 in
theorem e_X12_ordersEnd_144 (a0 a1 a2 a3 a4 a5 : Int) (sh : Int × (Int → Nat × Int)) (h : Int → Int → Int) : q_L 223 144 [(22, a0), (0, a1), (0, a2), (0, a3), (0, a4), (0, a5)] [] (sh, h) = if 0 ≤ h a0 0 then (if 0 ≤ (q_add (714 : Int) a4) ∧ (q_add (714 : Int) a4) < (sh.2 (h a0 0)).2 then (if 0 ≤ h a0 0 then (if 0 ≤ (0 : Int) ∧ (0 : Int) < (sh.2 (h a0 0)).2 then (if (h (h a0 0) (0 : Int)) < (h (h a0 0) (q_add (714 : Int) a4)) then (q_L 223 176 [(22, a0), (0, a1), (0, a2), (0, a3), (0, a4), (0, a5)] [] (sh, h)) else (if 0 ≤ h a0 0 then (if 0 ≤ (q_add (810 : Int) a4) ∧ (q_add (810 : Int) a4) < (sh.2 (h a0 0)).2 ∧ 0 ≤ (h a0 0) then (q_L 223 176 [(22, a0), (0, a1), (0, a2), (0, a3), (0, a4), (0, a5)] [] (sh, q_up h (h a0 0) (q_add (810 : Int) a4) (2 : Int))) else none) else none)) else none) else none) else none) else none :=
  (q_unL hL_X12_ordersEnd cu_X12_ordersEnd 400 144 _ _ _).trans rfl
set_option maxRecDepth 100000 in
theorem e_X12_ordersEnd_176 (a0 a1 a2 a3 a4 : Int) (x5 : q_V) (sh : Int × (Int → Nat × Int)) (h : Int → Int → Int) : q_L 223 176 [(22, a0), (0, a1), (0, a2), (0, a3), (0, a4), x5] [] (sh, h) = if a2 = 0 then (q_L 223 198 [(22, a0), (0, a1), (0, a2), (0, a3), (0, a4), x5] [] (sh, h)) else (if 0 ≤ h a0 0 then (if 0 ≤ (q_add (810 : Int) a4) ∧ (q_add (810 : Int) a4) < (sh.2 (h a0 0)).2 then (if (h (h a0 0) (q_add (810 : Int) a4)) = 0 then (q_L 223 198 [(22, a0), (0, a1), (0, a2), (0, a3), (0, a4), x5] [] (sh, h)) else (q_L 223 199 [(22, a0), (0, a1), (0, a2), (0, a3), (0, a4), x5] [(0, 1)] (sh, h))) else none) else none) :=
  (q_unL hL_X12_ordersEnd cu_X12_ordersEnd 400 176 _ _ _).trans rfl
set_option maxRecDepth 100000 in
theorem e_X12_ordersEnd_198 (a0 a1 a2 a3 a4 : Int) (x5 : q_V) (sh : Int × (Int → Nat × Int)) (h : Int → Int → Int) : q_L 223 198 [(22, a0), (0, a1), (0, a2), (0, a3), (0, a4), x5] [] (sh, h) = q_L 223 199 [(22, a0), (0, a1), (0, a2), (0, a3), (0, a4), x5] [(0, 0)] (sh, h) :=
  (q_unL hL_X12_ordersEnd cu_X12_ordersEnd 400 198 _ _ _).trans rfl
set_option maxRecDepth 100000 in
theorem e_X12_ordersEnd_199 (a0 a1 a2 a3 a4 b0 : Int) (x5 : q_V) (sh : Int × (Int → Nat × Int)) (h : Int → Int → Int) : q_L 223 199 [(22, a0), (0, a1), (0, a2), (0, a3), (0, a4), x5] [(0, b0)] (sh, h) = q_L 223 16 [(22, a0), (0, a1), (0, b0), (0, q_w (a3 + 1)), (0, a4), x5] [] (sh, h) :=
  (q_unL hL_X12_ordersEnd cu_X12_ordersEnd 400 199 _ _ _).trans rfl
