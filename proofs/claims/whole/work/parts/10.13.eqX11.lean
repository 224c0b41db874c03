def cu_X11_stop : List Nat := [0, 7, 16, 28, 39, 43]
theorem hL_X11_stop : q_P 143 = q_find P_X11_stop := rfl
theorem c_X11_stop (a0 a1 : Int) (s : q_M) : q_Cc 143 [(21, a0), (0, a1)] s = q_L 143 0 [(21, a0), (0, a1), (9, 0)] [] s := rfl
set_option maxRecDepth 100000 in
theorem e_X11_stop_0 (a0 a1 : Int) (sh : Int × (Int → Nat × Int)) (h : Int → Int → Int) : q_L 143 0 [(21, a0), (0, a1), (9, 0)] [] (sh, h) = (q_Cc 153 [(0, a1), (0, 1), (0, 100)] (sh, h)).bind (fun r => q_L 143 7 [(21, a0), (0, a1), (9, 0)] [r.1] r.2) :=
  (q_unL hL_X11_stop cu_X11_stop 400 0 _ _ _).trans rfl
set_option maxRecDepth 100000 in
theorem e_X11_stop_7 (a0 a1 b0 : Int) (sh : Int × (Int → Nat × Int)) (h : Int → Int → Int) : q_L 143 7 [(21, a0), (0, a1), (9, 0)] [(0, b0)] (sh, h) = if b0 = 0 then (if 0 ≤ h a0 0 then (if 0 ≤ h (h a0 0) 8 then ((q_Cc 60 [(16, h (h a0 0) 8), (0, a1)] (sh, h)).bind (fun r => q_L 143 28 [(21, a0), (0, a1), (9, 0)] [r.1] r.2)) else none) else none) else ((q_Cc 159 [(21, a0), (0, (-1000001))] (sh, h)).bind (fun r => q_L 143 16 [(21, a0), (0, a1), (9, 0)] [r.1] r.2)) :=
  (q_unL hL_X11_stop cu_X11_stop 400 7 _ _ _).trans rfl
set_option maxRecDepth 100000 in
theorem e_X11_stop_16 (a0 a1 b0 : Int) (sh : Int × (Int → Nat × Int)) (h : Int → Int → Int) : q_L 143 16 [(21, a0), (0, a1), (9, 0)] [(0, b0)] (sh, h) = some ((0, b0), (sh, h)) :=
  (q_unL hL_X11_stop cu_X11_stop 400 16 _ _ _).trans rfl
set_option maxRecDepth 100000 in
theorem e_X11_stop_28 (a0 a1 b0 : Int) (sh : Int × (Int → Nat × Int)) (h : Int → Int → Int) : q_L 143 28 [(21, a0), (0, a1), (9, 0)] [(0, b0)] (sh, h) = if b0 < 0 then ((q_Cc 159 [(21, a0), (0, (-1000004))] (sh, h)).bind (fun r => q_L 143 39 [(21, a0), (0, a1), (0, b0)] [r.1] r.2)) else (q_L 143 43 [(21, a0), (0, a1), (0, b0)] [(0, b0)] (sh, h)) :=
  (q_unL hL_X11_stop cu_X11_stop 400 28 _ _ _).trans rfl
set_option maxRecDepth 100000 in
theorem e_X11_stop_39 (a0 a1 a2 b0 : Int) (sh : Int × (Int → Nat × Int)) (h : Int → Int → Int) : q_L 143 39 [(21, a0), (0, a1), (0, a2)] [(0, b0)] (sh, h) = q_L 143 43 [(21, a0), (0, a1), (0, a2)] [(0, b0)] (sh, h) :=
  (q_unL hL_X11_stop cu_X11_stop 400 39 _ _ _).trans rfl
set_option maxRecDepth 100000 in
theorem e_X11_stop_43 (a0 a1 a2 b0 : Int) (sh : Int × (Int → Nat × Int)) (h : Int → Int → Int) : q_L 143 43 [(21, a0), (0, a1), (0, a2)] [(0, b0)] (sh, h) = some ((0, b0), (sh, h)) :=
  (q_unL hL_X11_stop cu_X11_stop 400 43 _ _ _).trans rfl
def cu_X11_check : List Nat := [0, 4, 13, 25, 35, 47, 49, 64]
theorem hL_X11_check : q_P 144 = q_find P_X11_check := rfl
theorem c_X11_check (a0 a1 : Int) (s : q_M) : q_Cc 144 [(21, a0), (0, a1)] s = q_L 144 0 [(21, a0), (0, a1), (9, 0), (9, 0)] [] s := rfl
set_option maxRecDepth 100000 in
theorem e_X11_check_0 (a0 a1 : Int) (sh : Int × (Int → Nat × Int)) (h : Int → Int → Int) : q_L 144 0 [(21, a0), (0, a1), (9, 0), (9, 0)] [] (sh, h) = (q_Cc 158 [(0, a1)] (sh, h)).bind (fun r => q_L 144 4 [(21, a0), (0, a1), (9, 0), (9, 0)] [r.1] r.2) :=
  (q_unL hL_X11_check cu_X11_check 400 0 _ _ _).trans rfl
set_option maxRecDepth 100000 in
theorem e_X11_check_4 (a0 a1 b0 : Int) (sh : Int × (Int → Nat × Int)) (h : Int → Int → Int) : q_L 144 4 [(21, a0), (0, a1), (9, 0), (9, 0)] [(0, b0)] (sh, h) = if b0 = 0 then (if 0 ≤ h a0 5 then (if 0 ≤ a1 ∧ a1 < (sh.2 (h a0 5)).2 ∧ 0 ≤ h (h a0 5) a1 then ((q_Cc 65 [(17, h (h a0 5) a1)] (sh, h)).bind (fun r => q_L 144 25 [(21, a0), (0, a1), (17, h (h a0 5) a1), (9, 0)] [r.1] r.2)) else none) else none) else ((q_Cc 159 [(21, a0), (0, (-1000001))] (sh, h)).bind (fun r => q_L 144 13 [(21, a0), (0, a1), (9, 0), (9, 0)] [r.1] r.2)) :=
  (q_unL hL_X11_check cu_X11_check 400 4 _ _ _).trans rfl
set_option maxRecDepth 100000 in
theorem e_X11_check_13 (a0 a1 b0 : Int) (sh : Int × (Int → Nat × Int)) (h : Int → Int → Int) : q_L 144 13 [(21, a0), (0, a1), (9, 0), (9, 0)] [(0, b0)] (sh, h) = some ((0, b0), (sh, h)) :=
  (q_unL hL_X11_check cu_X11_check 400 13 _ _ _).trans rfl
set_option maxRecDepth 100000 in
theorem e_X11_check_25 (a0 a1 a2 b0 : Int) (sh : Int × (Int → Nat × Int)) (h : Int → Int → Int) : q_L 144 25 [(21, a0), (0, a1), (17, a2), (9, 0)] [(0, b0)] (sh, h) = if b0 = 0 then (if 0 ≤ h a0 2 then (if 0 ≤ h a0 0 then ((q_Cc 90 [(20, h a0 2), (20, h a0 0)] (sh, h)).bind (fun r => q_L 144 47 [(21, a0), (0, a1), (17, a2), (9, 0)] [] r.2)) else none) else none) else ((q_Cc 159 [(21, a0), (0, (-1000006))] (sh, h)).bind (fun r => q_L 144 35 [(21, a0), (0, a1), (17, a2), (9, 0)] [r.1] r.2)) :=
  (q_unL hL_X11_check cu_X11_check 400 25 _ _ _).trans rfl
set_option maxRecDepth 100000 in
theorem e_X11_check_35 (a0 a1 a2 b0 : Int) (sh : Int × (Int → Nat × Int)) (h : Int → Int → Int) : q_L 144 35 [(21, a0), (0, a1), (17, a2), (9, 0)] [(0, b0)] (sh, h) = some ((0, b0), (sh, h)) :=
  (q_unL hL_X11_check cu_X11_check 400 35 _ _ _).trans rfl
set_option maxRecDepth 100000 in
theorem e_X11_check_47 (a0 a1 a2 : Int) (sh : Int × (Int → Nat × Int)) (h : Int → Int → Int) : q_L 144 47 [(21, a0), (0, a1), (17, a2), (9, 0)] [] (sh, h) = q_L 144 49 [(21, a0), (0, a1), (17, a2), (0, 0)] [] (sh, h) :=
  (q_unL hL_X11_check cu_X11_check 400 47 _ _ _).trans rfl
set_option maxRecDepth 100000 in
theorem e_X11_check_49 (a0 a1 a2 a3 : Int) (sh : Int × (Int → Nat × Int)) (h : Int → Int → Int) : q_L 144 49 [(21, a0), (0, a1), (17, a2), (0, a3)] [] (sh, h) = if a3 < (h a2 1) then (if 0 ≤ h a0 2 then ((q_Cc 98 [(20, h a0 2)] (sh, h)).bind (fun r => q_L 144 64 [(21, a0), (0, a1), (17, a2), (0, a3)] [r.1] r.2)) else none) else (some ((0, h a2 1), (sh, h))) :=
  (q_unL hL_X11_check cu_X11_check 400 49 _ _ _).trans rfl
set_option maxRecDepth 100000 in
theorem e_X11_check_64 (a0 a1 a2 a3 b0 : Int) (sh : Int × (Int → Nat × Int)) (h : Int → Int → Int) : q_L 144 64 [(21, a0), (0, a1), (17, a2), (0, a3)] [(0, b0)] (sh, h) = if 0 ≤ h a2 2 then (if 0 ≤ a3 ∧ a3 < (sh.2 (h a2 2)).2 then (if b0 = (h (h a2 2) a3) then (q_L 144 49 [(21, a0), (0, a1), (17, a2), (0, q_w (a3 + 1))] [] (sh, h)) else (some ((0, a3), (sh, h)))) else none) else none :=
  (q_unL hL_X11_check cu_X11_check 400 64 _ _ _).trans rfl
def cu_X11_sheet : List Nat := [0, 4, 29, 35, 36, 47, 60, 72]
theorem hL_X11_sheet : q_P 145 = q_find P_X11_sheet := rfl
theorem c_X11_sheet (a0 a1 a2 a3 : Int) (s : q_M) : q_Cc 145 [(21, a0), (0, a1), (0, a2), (0, a3)] s = q_L 145 0 [(21, a0), (0, a1), (0, a2), (0, a3)] [] s := rfl
set_option maxRecDepth 100000 in
theorem e_X11_sheet_0 (a0 a1 a2 a3 : Int) (sh : Int × (Int → Nat × Int)) (h : Int → Int → Int) : q_L 145 0 [(21, a0), (0, a1), (0, a2), (0, a3)] [] (sh, h) = (q_Cc 158 [(0, a1)] (sh, h)).bind (fun r => q_L 145 4 [(21, a0), (0, a1), (0, a2), (0, a3)] [r.1] r.2) :=
  (q_unL hL_X11_sheet cu_X11_sheet 400 0 _ _ _).trans rfl
set_option maxRecDepth 100000 in
theorem e_X11_sheet_4 (a0 a1 a2 a3 b0 : Int) (sh : Int × (Int → Nat × Int)) (h : Int → Int → Int) : q_L 145 4 [(21, a0), (0, a1), (0, a2), (0, a3)] [(0, b0)] (sh, h) = if b0 = 0 then (if a2 = 0 then (q_L 145 36 [(21, a0), (0, a1), (0, a2), (0, a3)] [] (sh, h)) else (if a2 = (8 : Int) then (q_L 145 36 [(21, a0), (0, a1), (0, a2), (0, a3)] [] (sh, h)) else (if a2 = (16 : Int) then (q_L 145 36 [(21, a0), (0, a1), (0, a2), (0, a3)] [] (sh, h)) else (if a2 = (32 : Int) then (q_L 145 36 [(21, a0), (0, a1), (0, a2), (0, a3)] [] (sh, h)) else (q_L 145 29 [(21, a0), (0, a1), (0, a2), (0, a3)] [] (sh, h)))))) else (q_L 145 29 [(21, a0), (0, a1), (0, a2), (0, a3)] [] (sh, h)) :=
  (q_unL hL_X11_sheet cu_X11_sheet 400 4 _ _ _).trans rfl
set_option maxRecDepth 100000 in
theorem e_X11_sheet_29 (a0 a1 a2 a3 : Int) (sh : Int × (Int → Nat × Int)) (h : Int → Int → Int) : q_L 145 29 [(21, a0), (0, a1), (0, a2), (0, a3)] [] (sh, h) = (q_Cc 159 [(21, a0), (0, (-1000001))] (sh, h)).bind (fun r => q_L 145 35 [(21, a0), (0, a1), (0, a2), (0, a3)] [r.1] r.2) :=
  (q_unL hL_X11_sheet cu_X11_sheet 400 29 _ _ _).trans rfl
set_option maxRecDepth 100000 in
theorem e_X11_sheet_35 (a0 a1 a2 a3 b0 : Int) (sh : Int × (Int → Nat × Int)) (h : Int → Int → Int) : q_L 145 35 [(21, a0), (0, a1), (0, a2), (0, a3)] [(0, b0)] (sh, h) = some ((0, b0), (sh, h)) :=
  (q_unL hL_X11_sheet cu_X11_sheet 400 35 _ _ _).trans rfl
set_option maxRecDepth 100000 in
theorem e_X11_sheet_36 (a0 a1 a2 a3 : Int) (sh : Int × (Int → Nat × Int)) (h : Int → Int → Int) : q_L 145 36 [(21, a0), (0, a1), (0, a2), (0, a3)] [] (sh, h) = if a3 < 0 then ((q_Cc 159 [(21, a0), (0, (-1000007))] (sh, h)).bind (fun r => q_L 145 47 [(21, a0), (0, a1), (0, a2), (0, a3)] [r.1] r.2)) else (if (24 : Int) < a3 then ((q_Cc 159 [(21, a0), (0, (-1000001))] (sh, h)).bind (fun r => q_L 145 60 [(21, a0), (0, a1), (0, a2), (0, a3)] [r.1] r.2)) else (if 0 ≤ h a0 5 then (if 0 ≤ a1 ∧ a1 < (sh.2 (h a0 5)).2 ∧ 0 ≤ h (h a0 5) a1 then ((q_Cc 66 [(17, h (h a0 5) a1), (0, a2), (0, a3)] (sh, h)).bind (fun r => q_L 145 72 [(21, a0), (0, a1), (0, a2), (0, a3)] [r.1] r.2)) else none) else none)) :=
  (q_unL hL_X11_sheet cu_X11_sheet 400 36 _ _ _).trans rfl
set_option maxRecDepth 100000 in
theorem e_X11_sheet_47 (a0 a1 a2 a3 b0 : Int) (sh : Int × (Int → Nat × Int)) (h : Int → Int → Int) : q_L 145 47 [(21, a0), (0, a1), (0, a2), (0, a3)] [(0, b0)] (sh, h) = some ((0, b0), (sh, h)) :=
  (q_unL hL_X11_sheet cu_X11_sheet 400 47 _ _ _).trans rfl
set_option maxRecDepth 100000 in
theorem e_X11_sheet_60 (a0 a1 a2 a3 b0 : Int) (sh : Int × (Int → Nat × Int)) (h : Int → Int → Int) : q_L 145 60 [(21, a0), (0, a1), (0, a2), (0, a3)] [(0, b0)] (sh, h) = some ((0, b0), (sh, h)) :=
  (q_unL hL_X11_sheet cu_X11_sheet 400 60 _ _ _).trans rfl
set_option maxRecDepth 100000 in
theorem e_X11_sheet_72 (a0 a1 a2 a3 b0 : Int) (sh : Int × (Int → Nat × Int)) (h : Int → Int → Int) : q_L 145 72 [(21, a0), (0, a1), (0, a2), (0, a3)] [(0, b0)] (sh, h) = some ((0, b0), (sh, h)) :=
  (q_unL hL_X11_sheet cu_X11_sheet 400 72 _ _ _).trans rfl
def cu_X11_write : List Nat := [0, 4, 13, 27, 37, 50, 59, 67]
theorem hL_X11_write : q_P 146 = q_find P_X11_write := rfl
theorem c_X11_write (a0 a1 a2 a3 : Int) (s : q_M) : q_Cc 146 [(21, a0), (0, a1), (0, a2), (0, a3)] s = q_L 146 0 [(21, a0), (0, a1), (0, a2), (0, a3), (9, 0)] [] s := rfl
set_option maxRecDepth 100000 in
theorem e_X11_write_0 (a0 a1 a2 a3 : Int) (sh : Int × (Int → Nat × Int)) (h : Int → Int → Int) : q_L 146 0 [(21, a0), (0, a1), (0, a2), (0, a3), (9, 0)] [] (sh, h) = (q_Cc 158 [(0, a1)] (sh, h)).bind (fun r => q_L 146 4 [(21, a0), (0, a1), (0, a2), (0, a3), (9, 0)] [r.1] r.2) :=
  (q_unL hL_X11_write cu_X11_write 400 0 _ _ _).trans rfl
set_option maxRecDepth 100000 in
theorem e_X11_write_4 (a0 a1 a2 a3 b0 : Int) (sh : Int × (Int → Nat × Int)) (h : Int → Int → Int) : q_L 146 4 [(21, a0), (0, a1), (0, a2), (0, a3), (9, 0)] [(0, b0)] (sh, h) = if b0 = 0 then (if 0 ≤ h a0 5 then (if 0 ≤ a1 ∧ a1 < (sh.2 (h a0 5)).2 ∧ 0 ≤ h (h a0 5) a1 then ((q_Cc 65 [(17, h (h a0 5) a1)] (sh, h)).bind (fun r => q_L 146 27 [(21, a0), (0, a1), (0, a2), (0, a3), (17, h (h a0 5) a1)] [r.1] r.2)) else none) else none) else ((q_Cc 159 [(21, a0), (0, (-1000001))] (sh, h)).bind (fun r => q_L 146 13 [(21, a0), (0, a1), (0, a2), (0, a3), (9, 0)] [r.1] r.2)) :=
  (q_unL hL_X11_write cu_X11_write 400 4 _ _ _).trans rfl
set_option maxRecDepth 100000 in
theorem e_X11_write_13 (a0 a1 a2 a3 b0 : Int) (sh : Int × (Int → Nat × Int)) (h : Int → Int → Int) : q_L 146 13 [(21, a0), (0, a1), (0, a2), (0, a3), (9, 0)] [(0, b0)] (sh, h) = some ((0, b0), (sh, h)) :=
  (q_unL hL_X11_write cu_X11_write 400 13 _ _ _).trans rfl
set_option maxRecDepth 100000 in
theorem e_X11_write_27 (a0 a1 a2 a3 a4 b0 : Int) (sh : Int × (Int → Nat × Int)) (h : Int → Int → Int) : q_L 146 27 [(21, a0), (0, a1), (0, a2), (0, a3), (17, a4)] [(0, b0)] (sh, h) = if b0 = 0 then ((q_Cc 153 [(0, a2), (0, 0), (0, q_sub (h a4 1) (1 : Int))] (sh, h)).bind (fun r => q_L 146 50 [(21, a0), (0, a1), (0, a2), (0, a3), (17, a4)] [r.1] r.2)) else ((q_Cc 159 [(21, a0), (0, (-1000006))] (sh, h)).bind (fun r => q_L 146 37 [(21, a0), (0, a1), (0, a2), (0, a3), (17, a4)] [r.1] r.2)) :=
  (q_unL hL_X11_write cu_X11_write 400 27 _ _ _).trans rfl
set_option maxRecDepth 100000 in
theorem e_X11_write_37 (a0 a1 a2 a3 a4 b0 : Int) (sh : Int × (Int → Nat × Int)) (h : Int → Int → Int) : q_L 146 37 [(21, a0), (0, a1), (0, a2), (0, a3), (17, a4)] [(0, b0)] (sh, h) = some ((0, b0), (sh, h)) :=
  (q_unL hL_X11_write cu_X11_write 400 37 _ _ _).trans rfl
set_option maxRecDepth 100000 in
theorem e_X11_write_50 (a0 a1 a2 a3 a4 b0 : Int) (sh : Int × (Int → Nat × Int)) (h : Int → Int → Int) : q_L 146 50 [(21, a0), (0, a1), (0, a2), (0, a3), (17, a4)] [(0, b0)] (sh, h) = if b0 = 0 then ((q_Cc 67 [(17, a4), (0, a2), (0, a3)] (sh, h)).bind (fun r => q_L 146 67 [(21, a0), (0, a1), (0, a2), (0, a3), (17, a4)] [] r.2)) else ((q_Cc 159 [(21, a0), (0, (-1000001))] (sh, h)).bind (fun r => q_L 146 59 [(21, a0), (0, a1), (0, a2), (0, a3), (17, a4)] [r.1] r.2)) :=
  (q_unL hL_X11_write cu_X11_write 400 50 _ _ _).trans rfl
set_option maxRecDepth 100000 in
theorem e_X11_write_59 (a0 a1 a2 a3 a4 b0 : Int) (sh : Int × (Int → Nat × Int)) (h : Int → Int → Int) : q_L 146 59 [(21, a0), (0, a1), (0, a2), (0, a3), (17, a4)] [(0, b0)] (sh, h) = some ((0, b0), (sh, h)) :=
  (q_unL hL_X11_write cu_X11_write 400 59 _ _ _).trans rfl
set_option maxRecDepth 100000 in
theorem e_X11_write_67 (a0 a1 a2 a3 a4 : Int) (sh : Int × (Int → Nat × Int)) (h : Int → Int → Int) : q_L 146 67 [(21, a0), (0, a1), (0, a2), (0, a3), (17, a4)] [] (sh, h) = some ((0, 1), (sh, h)) :=
  (q_unL hL_X11_write cu_X11_write 400 67 _ _ _).trans rfl
def cu_X11_copy : List Nat := [0, 4, 11, 14, 20, 42, 50, 53, 60, 80, 89, 101, 104, 110, 129]
theorem hL_X11_copy : q_P 147 = q_find P_X11_copy := rfl
theorem c_X11_copy (a0 a1 a2 a3 a4 a5 : Int) (s : q_M) : q_Cc 147 [(21, a0), (0, a1), (0, a2), (0, a3), (0, a4), (0, a5)] s = q_L 147 0 [(21, a0), (0, a1), (0, a2), (0, a3), (0, a4), (0, a5), (9, 0), (9, 0)] [] s := rfl
set_option maxRecDepth 100000 in
theorem e_X11_copy_0 (a0 a1 a2 a3 a4 a5 : Int) (sh : Int × (Int → Nat × Int)) (h : Int → Int → Int) : q_L 147 0 [(21, a0), (0, a1), (0, a2), (0, a3), (0, a4), (0, a5), (9, 0), (9, 0)] [] (sh, h) = (q_Cc 158 [(0, a1)] (sh, h)).bind (fun r => q_L 147 4 [(21, a0), (0, a1), (0, a2), (0, a3), (0, a4), (0, a5), (9, 0), (9, 0)] [r.1] r.2) :=
  (q_unL hL_X11_copy cu_X11_copy 400 0 _ _ _).trans rfl
set_option maxRecDepth 100000 in
theorem e_X11_copy_4 (a0 a1 a2 a3 a4 a5 b0 : Int) (sh : Int × (Int → Nat × Int)) (h : Int → Int → Int) : q_L 147 4 [(21, a0), (0, a1), (0, a2), (0, a3), (0, a4), (0, a5), (9, 0), (9, 0)] [(0, b0)] (sh, h) = if b0 = 0 then ((q_Cc 158 [(0, a3)] (sh, h)).bind (fun r => q_L 147 11 [(21, a0), (0, a1), (0, a2), (0, a3), (0, a4), (0, a5), (9, 0), (9, 0)] [r.1] r.2)) else (q_L 147 14 [(21, a0), (0, a1), (0, a2), (0, a3), (0, a4), (0, a5), (9, 0), (9, 0)] [] (sh, h)) :=
  (q_unL hL_X11_copy cu_X11_copy 400 4 _ _ _).trans rfl
set_option maxRecDepth 100000 in
theorem e_X11_copy_11 (a0 a1 a2 a3 a4 a5 b0 : Int) (sh : Int × (Int → Nat × Int)) (h : Int → Int → Int) : q_L 147 11 [(21, a0), (0, a1), (0, a2), (0, a3), (0, a4), (0, a5), (9, 0), (9, 0)] [(0, b0)] (sh, h) = if b0 = 0 then (if 0 ≤ h a0 5 then (if 0 ≤ a1 ∧ a1 < (sh.2 (h a0 5)).2 ∧ 0 ≤ h (h a0 5) a1 then (if 0 ≤ h a0 5 then (if 0 ≤ a3 ∧ a3 < (sh.2 (h a0 5)).2 ∧ 0 ≤ h (h a0 5) a3 then ((q_Cc 65 [(17, h (h a0 5) a1)] (sh, h)).bind (fun r => q_L 147 42 [(21, a0), (0, a1), (0, a2), (0, a3), (0, a4), (0, a5), (17, h (h a0 5) a1), (17, h (h a0 5) a3)] [r.1] r.2)) else none) else none) else none) else none) else (q_L 147 14 [(21, a0), (0, a1), (0, a2), (0, a3), (0, a4), (0, a5), (9, 0), (9, 0)] [] (sh, h)) :=
  (q_unL hL_X11_copy cu_X11_copy 400 11 _ _ _).trans rfl
set_option maxRecDepth 100000 in
theorem e_X11_copy_14 (a0 a1 a2 a3 a4 a5 : Int) (sh : Int × (Int → Nat × Int)) (h : Int → Int → Int) : q_L 147 14 [(21, a0), (0, a1), (0, a2), (0, a3), (0, a4), (0, a5), (9, 0), (9, 0)] [] (sh, h) = (q_Cc 159 [(21, a0), (0, (-1000001))] (sh, h)).bind (fun r => q_L 147 20 [(21, a0), (0, a1), (0, a2), (0, a3), (0, a4), (0, a5), (9, 0), (9, 0)] [r.1] r.2) :=
  (q_unL hL_X11_copy cu_X11_copy 400 14 _ _ _).trans rfl
set_option maxRecDepth 100000 in
theorem e_X11_copy_20 (a0 a1 a2 a3 a4 a5 b0 : Int) (sh : Int × (Int → Nat × Int)) (h : Int → Int → Int) : q_L 147 20 [(21, a0), (0, a1), (0, a2), (0, a3), (0, a4), (0, a5), (9, 0), (9, 0)] [(0, b0)] (sh, h) = some ((0, b0), (sh, h)) :=
  (q_unL hL_X11_copy cu_X11_copy 400 20 _ _ _).trans rfl
set_option maxRecDepth 100000 in
theorem e_X11_copy_42 (a0 a1 a2 a3 a4 a5 a6 a7 b0 : Int) (sh : Int × (Int → Nat × Int)) (h : Int → Int → Int) : q_L 147 42 [(21, a0), (0, a1), (0, a2), (0, a3), (0, a4), (0, a5), (17, a6), (17, a7)] [(0, b0)] (sh, h) = if b0 = 0 then ((q_Cc 65 [(17, a7)] (sh, h)).bind (fun r => q_L 147 50 [(21, a0), (0, a1), (0, a2), (0, a3), (0, a4), (0, a5), (17, a6), (17, a7)] [r.1] r.2)) else (q_L 147 53 [(21, a0), (0, a1), (0, a2), (0, a3), (0, a4), (0, a5), (17, a6), (17, a7)] [] (sh, h)) :=
  (q_unL hL_X11_copy cu_X11_copy 400 42 _ _ _).trans rfl
set_option maxRecDepth 100000 in
theorem e_X11_copy_50 (a0 a1 a2 a3 a4 a5 a6 a7 b0 : Int) (sh : Int × (Int → Nat × Int)) (h : Int → Int → Int) : q_L 147 50 [(21, a0), (0, a1), (0, a2), (0, a3), (0, a4), (0, a5), (17, a6), (17, a7)] [(0, b0)] (sh, h) = if b0 = 0 then (if (h a6 0) = (h a7 0) then ((q_Cc 68 [(17, a6), (0, a2), (0, a5)] (sh, h)).bind (fun r => q_L 147 89 [(21, a0), (0, a1), (0, a2), (0, a3), (0, a4), (0, a5), (17, a6), (17, a7)] [r.1] r.2)) else ((q_Cc 159 [(21, a0), (0, (-1000003))] (sh, h)).bind (fun r => q_L 147 80 [(21, a0), (0, a1), (0, a2), (0, a3), (0, a4), (0, a5), (17, a6), (17, a7)] [r.1] r.2))) else (q_L 147 53 [(21, a0), (0, a1), (0, a2), (0, a3), (0, a4), (0, a5), (17, a6), (17, a7)] [] (sh, h)) :=
  (q_unL hL_X11_copy cu_X11_copy 400 50 _ _ _).trans rfl
set_option maxRecDepth 100000 in
theorem e_X11_copy_53 (a0 a1 a2 a3 a4 a5 a6 a7 : Int) (sh : Int × (Int → Nat × Int)) (h : Int → Int → Int) : q_L 147 53 [(21, a0), (0, a1), (0, a2), (0, a3), (0, a4), (0, a5), (17, a6), (17, a7)] [] (sh, h) = (q_Cc 159 [(21, a0), (0, (-1000006))] (sh, h)).bind (fun r => q_L 147 60 [(21, a0), (0, a1), (0, a2), (0, a3), (0, a4), (0, a5), (17, a6), (17, a7)] [r.1] r.2) :=
  (q_unL hL_X11_copy cu_X11_copy 400 53 _ _ _).trans rfl
set_option maxRecDepth 100000 in
theorem e_X11_copy_60 (a0 a1 a2 a3 a4 a5 a6 a7 b0 : Int) (sh : Int × (Int → Nat × Int)) (h : Int → Int → Int) : q_L 147 60 [(21, a0), (0, a1), (0, a2), (0, a3), (0, a4), (0, a5), (17, a6), (17, a7)] [(0, b0)] (sh, h) = some ((0, b0), (sh, h)) :=
  (q_unL hL_X11_copy cu_X11_copy 400 60 _ _ _).trans rfl
set_option maxRecDepth 100000 in
theorem e_X11_copy_80 (a0 a1 a2 a3 a4 a5 a6 a7 b0 : Int) (sh : Int × (Int → Nat × Int)) (h : Int → Int → Int) : q_L 147 80 [(21, a0), (0, a1), (0, a2), (0, a3), (0, a4), (0, a5), (17, a6), (17, a7)] [(0, b0)] (sh, h) = some ((0, b0), (sh, h)) :=
  (q_unL hL_X11_copy cu_X11_copy 400 80 _ _ _).trans rfl
set_option maxRecDepth 100000 in
theorem e_X11_copy_89 (a0 a1 a2 a3 a4 a5 a6 a7 b0 : Int) (sh : Int × (Int → Nat × Int)) (h : Int → Int → Int) : q_L 147 89 [(21, a0), (0, a1), (0, a2), (0, a3), (0, a4), (0, a5), (17, a6), (17, a7)] [(0, b0)] (sh, h) = if b0 = 0 then (q_L 147 104 [(21, a0), (0, a1), (0, a2), (0, a3), (0, a4), (0, a5), (17, a6), (17, a7)] [] (sh, h)) else ((q_Cc 68 [(17, a7), (0, a4), (0, a5)] (sh, h)).bind (fun r => q_L 147 101 [(21, a0), (0, a1), (0, a2), (0, a3), (0, a4), (0, a5), (17, a6), (17, a7)] [r.1] r.2)) :=
  (q_unL hL_X11_copy cu_X11_copy 400 89 _ _ _).trans rfl
set_option maxRecDepth 100000 in
theorem e_X11_copy_101 (a0 a1 a2 a3 a4 a5 a6 a7 b0 : Int) (sh : Int × (Int → Nat × Int)) (h : Int → Int → Int) : q_L 147 101 [(21, a0), (0, a1), (0, a2), (0, a3), (0, a4), (0, a5), (17, a6), (17, a7)] [(0, b0)] (sh, h) = if b0 = 0 then (q_L 147 104 [(21, a0), (0, a1), (0, a2), (0, a3), (0, a4), (0, a5), (17, a6), (17, a7)] [] (sh, h)) else (if 0 ≤ h a6 2 then (if 0 ≤ h a7 2 then (if 0 ≤ a2 ∧ 0 ≤ a4 ∧ 0 ≤ a5 ∧ a2 + a5 ≤ (sh.2 (h a6 2)).2 ∧ a4 + a5 ≤ (sh.2 (h a7 2)).2 ∧ 0 ≤ (h a6 2) ∧ 0 ≤ (h a7 2) then (q_L 147 129 [(21, a0), (0, a1), (0, a2), (0, a3), (0, a4), (0, a5), (17, a6), (17, a7)] [] (sh, q_cp h (h a6 2) a2 (h a7 2) a4 a5)) else none) else none) else none) :=
  (q_unL hL_X11_copy cu_X11_copy 400 101 _ _ _).trans rfl
set_option maxRecDepth 100000 in
theorem e_X11_copy_104 (a0 a1 a2 a3 a4 a5 a6 a7 : Int) (sh : Int × (Int → Nat × Int)) (h : Int → Int → Int) : q_L 147 104 [(21, a0), (0, a1), (0, a2), (0, a3), (0, a4), (0, a5), (17, a6), (17, a7)] [] (sh, h) = (q_Cc 159 [(21, a0), (0, (-1000001))] (sh, h)).bind (fun r => q_L 147 110 [(21, a0), (0, a1), (0, a2), (0, a3), (0, a4), (0, a5), (17, a6), (17, a7)] [r.1] r.2) :=
  (q_unL hL_X11_copy cu_X11_copy 400 104 _ _ _).trans rfl
set_option maxRecDepth 100000 in
theorem e_X11_copy_110 (a0 a1 a2 a3 a4 a5 a6 a7 b0 : Int) (sh : Int × (Int → Nat × Int)) (h : Int → Int → Int) : q_L 147 110 [(21, a0), (0, a1), (0, a2), (0, a3), (0, a4), (0, a5), (17, a6), (17, a7)] [(0, b0)] (sh, h) = some ((0, b0), (sh, h)) :=
  (q_unL hL_X11_copy cu_X11_copy 400 110 _ _ _).trans rfl
set_option maxRecDepth 100000 in
theorem e_X11_copy_129 (a0 a1 a2 a3 a4 a5 a6 a7 : Int) (sh : Int × (Int → Nat × Int)) (h : Int → Int → Int) : q_L 147 129 [(21, a0), (0, a1), (0, a2), (0, a3), (0, a4), (0, a5), (17, a6), (17, a7)] [] (sh, h) = some ((0, a5), (sh, h)) :=
  (q_unL hL_X11_copy cu_X11_copy 400 129 _ _ _).trans rfl
def cu_X11_image : List Nat := [0, 11]
theorem hL_X11_image : q_P 148 = q_find P_X11_image := rfl
theorem c_X11_image (a0 : Int) (s : q_M) : q_Cc 148 [(21, a0)] s = q_L 148 0 [(21, a0)] [] s := rfl
set_option maxRecDepth 100000 in
theorem e_X11_image_0 (a0 : Int) (sh : Int × (Int → Nat × Int)) (h : Int → Int → Int) : q_L 148 0 [(21, a0)] [] (sh, h) = if 0 ≤ h a0 1 then (if 0 ≤ h a0 0 then ((q_Cc 90 [(20, h a0 1), (20, h a0 0)] (sh, h)).bind (fun r => q_L 148 11 [(21, a0)] [] r.2)) else none) else none :=
  (q_unL hL_X11_image cu_X11_image 400 0 _ _ _).trans rfl
set_option maxRecDepth 100000 in
theorem e_X11_image_11 (a0 : Int) (sh : Int × (Int → Nat × Int)) (h : Int → Int → Int) : q_L 148 11 [(21, a0)] [] (sh, h) = if (1 : Int) = 0 ∨ (1 : Int) = 1 then (some ((0, 1), (sh, q_up h a0 7 (1 : Int)))) else none :=
  (q_unL hL_X11_image cu_X11_image 400 11 _ _ _).trans rfl
def cu_X11_undo : List Nat := [0, 13, 25]
theorem hL_X11_undo : q_P 149 = q_find P_X11_undo := rfl
theorem c_X11_undo (a0 : Int) (s : q_M) : q_Cc 149 [(21, a0)] s = q_L 149 0 [(21, a0)] [] s := rfl
set_option maxRecDepth 100000 in
theorem e_X11_undo_0 (a0 : Int) (sh : Int × (Int → Nat × Int)) (h : Int → Int → Int) : q_L 149 0 [(21, a0)] [] (sh, h) = if (h a0 7) = 0 then ((q_Cc 159 [(21, a0), (0, (-1000004))] (sh, h)).bind (fun r => q_L 149 13 [(21, a0)] [r.1] r.2)) else (if 0 ≤ h a0 0 then (if 0 ≤ h a0 1 then ((q_Cc 90 [(20, h a0 0), (20, h a0 1)] (sh, h)).bind (fun r => q_L 149 25 [(21, a0)] [] r.2)) else none) else none) :=
  (q_unL hL_X11_undo cu_X11_undo 400 0 _ _ _).trans rfl
set_option maxRecDepth 100000 in
theorem e_X11_undo_13 (a0 b0 : Int) (sh : Int × (Int → Nat × Int)) (h : Int → Int → Int) : q_L 149 13 [(21, a0)] [(0, b0)] (sh, h) = some ((0, b0), (sh, h)) :=
  (q_unL hL_X11_undo cu_X11_undo 400 13 _ _ _).trans rfl
set_option maxRecDepth 100000 in
theorem e_X11_undo_25 (a0 : Int) (sh : Int × (Int → Nat × Int)) (h : Int → Int → Int) : q_L 149 25 [(21, a0)] [] (sh, h) = if 0 ≤ h a0 0 then (some ((0, h (h a0 0) 0), (sh, h))) else none :=
  (q_unL hL_X11_undo cu_X11_undo 400 25 _ _ _).trans rfl
def cu_X11_tear : List Nat := [0, 12]
theorem hL_X11_tear : q_P 150 = q_find P_X11_tear := rfl
theorem c_X11_tear (a0 : Int) (s : q_M) : q_Cc 150 [(21, a0)] s = q_L 150 0 [(21, a0), (9, 0)] [] s := rfl
set_option maxRecDepth 100000 in
theorem e_X11_tear_0 (a0 : Int) (sh : Int × (Int → Nat × Int)) (h : Int → Int → Int) : q_L 150 0 [(21, a0), (9, 0)] [] (sh, h) = if (h a0 7) = 0 then (q_L 150 12 [(21, a0), (9, 0)] [(0, 0)] (sh, h)) else (q_L 150 12 [(21, a0), (9, 0)] [(0, 1)] (sh, h)) :=
  (q_unL hL_X11_tear cu_X11_tear 400 0 _ _ _).trans rfl
set_option maxRecDepth 100000 in
theorem e_X11_tear_12 (a0 b0 : Int) (sh : Int × (Int → Nat × Int)) (h : Int → Int → Int) : q_L 150 12 [(21, a0), (9, 0)] [(0, b0)] (sh, h) = if (0 : Int) = 0 ∨ (0 : Int) = 1 then (some ((0, b0), (sh, q_up h a0 7 (0 : Int)))) else none :=
  (q_unL hL_X11_tear cu_X11_tear 400 12 _ _ _).trans rfl
def cu_X11_count : List Nat := [0, 83, 108, 117, 126, 135, 144, 168, 179, 186]
theorem hL_X11_count : q_P 151 = q_find P_X11_count := rfl
theorem c_X11_count (a0 a1 : Int) (s : q_M) : q_Cc 151 [(21, a0), (0, a1)] s = q_L 151 0 [(21, a0), (0, a1)] [] s := rfl
set_option maxRecDepth 100000 in
theorem e_X11_count_0 (a0 a1 : Int) (sh : Int × (Int → Nat × Int)) (h : Int → Int → Int) : q_L 151 0 [(21, a0), (0, a1)] [] (sh, h) = if a1 = 0 then (if 0 ≤ h a0 0 then (some ((0, h (h a0 0) 1), (sh, h))) else none) else (if a1 = 1 then (if 0 ≤ h a0 0 then ((q_Cc 103 [(20, h a0 0)] (sh, h)).bind (fun r => q_L 151 83 [(21, a0), (0, a1)] [r.1] r.2)) else none) else (if a1 = 2 then (if 0 ≤ h a0 0 then (some ((0, h (h a0 0) 2), (sh, h))) else none) else (if a1 = 3 then (if 0 ≤ h a0 0 then (some ((0, h (h a0 0) 3), (sh, h))) else none) else (if a1 = 4 then (if 0 ≤ h a0 0 then ((q_Cc 104 [(20, h a0 0), (0, 0)] (sh, h)).bind (fun r => q_L 151 108 [(21, a0), (0, a1)] [r.1] r.2)) else none) else (if a1 = 5 then (if 0 ≤ h a0 0 then ((q_Cc 104 [(20, h a0 0), (0, 1)] (sh, h)).bind (fun r => q_L 151 117 [(21, a0), (0, a1)] [r.1] r.2)) else none) else (if a1 = 6 then (if 0 ≤ h a0 0 then ((q_Cc 104 [(20, h a0 0), (0, 2)] (sh, h)).bind (fun r => q_L 151 126 [(21, a0), (0, a1)] [r.1] r.2)) else none) else (if a1 = 7 then (if 0 ≤ h a0 0 then ((q_Cc 104 [(20, h a0 0), (0, 3)] (sh, h)).bind (fun r => q_L 151 135 [(21, a0), (0, a1)] [r.1] r.2)) else none) else (if a1 = 8 then (if 0 ≤ h a0 0 then ((q_Cc 104 [(20, h a0 0), (0, 4)] (sh, h)).bind (fun r => q_L 151 144 [(21, a0), (0, a1)] [r.1] r.2)) else none) else (if a1 = 9 then (if 0 ≤ h a0 0 then (some ((0, h (h a0 0) 0), (sh, h))) else none) else (if a1 = 10 then (if 0 ≤ h a0 4 then (some ((0, h (h a0 4) 1), (sh, h))) else none) else (if a1 = 11 then (if 0 ≤ h a0 0 then ((q_Cc 105 [(20, h a0 0)] (sh, h)).bind (fun r => q_L 151 168 [(21, a0), (0, a1)] [r.1] r.2)) else none) else (if a1 = 12 then (if 0 ≤ h a0 0 then (if 0 ≤ h (h a0 0) 8 then ((q_Cc 59 [(16, h (h a0 0) 8)] (sh, h)).bind (fun r => q_L 151 179 [(21, a0), (0, a1)] [r.1] r.2)) else none) else none) else ((q_Cc 159 [(21, a0), (0, (-1000001))] (sh, h)).bind (fun r => q_L 151 186 [(21, a0), (0, a1)] [r.1] r.2)))))))))))))) :=
  (q_unL hL_X11_count cu_X11_count 400 0 _ _ _).trans rfl
set_option maxRecDepth 100000 in
theorem e_X11_count_83 (a0 a1 b0 : Int) (sh : Int × (Int → Nat × Int)) (h : Int → Int → Int) : q_L 151 83 [(21, a0), (0, a1)] [(0, b0)] (sh, h) = some ((0, b0), (sh, h)) :=
  (q_unL hL_X11_count cu_X11_count 400 83 _ _ _).trans rfl
set_option maxRecDepth 100000 in
theorem e_X11_count_108 (a0 a1 b0 : Int) (sh : Int × (Int → Nat × Int)) (h : Int → Int → Int) : q_L 151 108 [(21, a0), (0, a1)] [(0, b0)] (sh, h) = some ((0, b0), (sh, h)) :=
  (q_unL hL_X11_count cu_X11_count 400 108 _ _ _).trans rfl
set_option maxRecDepth 100000 in
theorem e_X11_count_117 (a0 a1 b0 : Int) (sh : Int × (Int → Nat × Int)) (h : Int → Int → Int) : q_L 151 117 [(21, a0), (0, a1)] [(0, b0)] (sh, h) = some ((0, b0), (sh, h)) :=
  (q_unL hL_X11_count cu_X11_count 400 117 _ _ _).trans rfl
set_option maxRecDepth 100000 in
theorem e_X11_count_126 (a0 a1 b0 : Int) (sh : Int × (Int → Nat × Int)) (h : Int → Int → Int) : q_L 151 126 [(21, a0), (0, a1)] [(0, b0)] (sh, h) = some ((0, b0), (sh, h)) :=
  (q_unL hL_X11_count cu_X11_count 400 126 _ _ _).trans rfl
set_option maxRecDepth 100000 in
theorem e_X11_count_135 (a0 a1 b0 : Int) (sh : Int × (Int → Nat × Int)) (h : Int → Int → Int) : q_L 151 135 [(21, a0), (0, a1)] [(0, b0)] (sh, h) = some ((0, b0), (sh, h)) :=
  (q_unL hL_X11_count cu_X11_count 400 135 _ _ _).trans rfl
set_option maxRecDepth 100000 in
theorem e_X11_count_144 (a0 a1 b0 : Int) (sh : Int × (Int → Nat × Int)) (h : Int → Int → Int) : q_L 151 144 [(21, a0), (0, a1)] [(0, b0)] (sh, h) = some ((0, b0), (sh, h)) :=
  (q_unL hL_X11_count cu_X11_count 400 144 _ _ _).trans rfl
set_option maxRecDepth 100000 in
theorem e_X11_count_168 (a0 a1 b0 : Int) (sh : Int × (Int → Nat × Int)) (h : Int → Int → Int) : q_L 151 168 [(21, a0), (0, a1)] [(0, b0)] (sh, h) = some ((0, b0), (sh, h)) :=
  (q_unL hL_X11_count cu_X11_count 400 168 _ _ _).trans rfl
set_option maxRecDepth 100000 in
theorem e_X11_count_179 (a0 a1 b0 : Int) (sh : Int × (Int → Nat × Int)) (h : Int → Int → Int) : q_L 151 179 [(21, a0), (0, a1)] [(0, b0)] (sh, h) = some ((0, b0), (sh, h)) :=
  (q_unL hL_X11_count cu_X11_count 400 179 _ _ _).trans rfl
set_option maxRecDepth 100000 in
theorem e_X11_count_186 (a0 a1 b0 : Int) (sh : Int × (Int → Nat × Int)) (h : Int → Int → Int) : q_L 151 186 [(21, a0), (0, a1)] [(0, b0)] (sh, h) = some ((0, b0), (sh, h)) :=
  (q_unL hL_X11_count cu_X11_count 400 186 _ _ _).trans rfl
def cu_X11_status : List Nat := [0, 7, 16, 32]
theorem hL_X11_status : q_P 152 = q_find P_X11_status := rfl
theorem c_X11_status (a0 a1 : Int) (s : q_M) : q_Cc 152 [(21, a0), (0, a1)] s = q_L 152 0 [(21, a0), (0, a1), (9, 0), (9, 0)] [] s := rfl
set_option maxRecDepth 100000 in
theorem e_X11_status_0 (a0 a1 : Int) (sh : Int × (Int → Nat × Int)) (h : Int → Int → Int) : q_L 152 0 [(21, a0), (0, a1), (9, 0), (9, 0)] [] (sh, h) = (q_Cc 153 [(0, a1), (0, (-1)), (0, 6)] (sh, h)).bind (fun r => q_L 152 7 [(21, a0), (0, a1), (9, 0), (9, 0)] [r.1] r.2) :=
  (q_unL hL_X11_status cu_X11_status 400 0 _ _ _).trans rfl
set_option maxRecDepth 100000 in
theorem e_X11_status_7 (a0 a1 b0 : Int) (sh : Int × (Int → Nat × Int)) (h : Int → Int → Int) : q_L 152 7 [(21, a0), (0, a1), (9, 0), (9, 0)] [(0, b0)] (sh, h) = if b0 = 0 then (if a1 < 0 then (q_L 152 32 [(21, a0), (0, a1), (0, 0), (0, 0)] [] (sh, h)) else (if 0 ≤ h a0 6 then (if 0 ≤ a1 ∧ a1 < (sh.2 (h a0 6)).2 then (some ((0, h (h a0 6) a1), (sh, h))) else none) else none)) else ((q_Cc 159 [(21, a0), (0, (-1000001))] (sh, h)).bind (fun r => q_L 152 16 [(21, a0), (0, a1), (9, 0), (9, 0)] [r.1] r.2)) :=
  (q_unL hL_X11_status cu_X11_status 400 7 _ _ _).trans rfl
set_option maxRecDepth 100000 in
theorem e_X11_status_16 (a0 a1 b0 : Int) (sh : Int × (Int → Nat × Int)) (h : Int → Int → Int) : q_L 152 16 [(21, a0), (0, a1), (9, 0), (9, 0)] [(0, b0)] (sh, h) = some ((0, b0), (sh, h)) :=
  (q_unL hL_X11_status cu_X11_status 400 16 _ _ _).trans rfl
set_option maxRecDepth 100000 in
theorem e_X11_status_32 (a0 a1 a2 a3 : Int) (sh : Int × (Int → Nat × Int)) (h : Int → Int → Int) : q_L 152 32 [(21, a0), (0, a1), (0, a2), (0, a3)] [] (sh, h) = if a3 < (7 : Int) then (if 0 ≤ h a0 6 then (if 0 ≤ a3 ∧ a3 < (sh.2 (h a0 6)).2 then (q_L 152 32 [(21, a0), (0, a1), (0, q_add a2 (h (h a0 6) a3)), (0, q_w (a3 + 1))] [] (sh, h)) else none) else none) else (some ((0, a2), (sh, h))) :=
  (q_unL hL_X11_status cu_X11_status 400 32 _ _ _).trans rfl
def cu_X11_outside : List Nat := [0, 10, 15]
theorem hL_X11_outside : q_P 153 = q_find P_X11_outside := rfl
theorem c_X11_outside (a0 a1 a2 : Int) (s : q_M) : q_Cc 153 [(0, a0), (0, a1), (0, a2)] s = q_L 153 0 [(0, a0), (0, a1), (0, a2)] [] s := rfl
set_option maxRecDepth 100000 in
theorem e_X11_outside_0 (a0 a1 a2 : Int) (sh : Int × (Int → Nat × Int)) (h : Int → Int → Int) : q_L 153 0 [(0, a0), (0, a1), (0, a2)] [] (sh, h) = if a0 < a1 then (q_L 153 10 [(0, a0), (0, a1), (0, a2)] [] (sh, h)) else (if a2 < a0 then (q_L 153 10 [(0, a0), (0, a1), (0, a2)] [] (sh, h)) else (q_L 153 15 [(0, a0), (0, a1), (0, a2)] [(0, 0)] (sh, h))) :=
  (q_unL hL_X11_outside cu_X11_outside 400 0 _ _ _).trans rfl
set_option maxRecDepth 100000 in
theorem e_X11_outside_10 (a0 a1 a2 : Int) (sh : Int × (Int → Nat × Int)) (h : Int → Int → Int) : q_L 153 10 [(0, a0), (0, a1), (0, a2)] [] (sh, h) = q_L 153 15 [(0, a0), (0, a1), (0, a2)] [(0, 1)] (sh, h) :=
  (q_unL hL_X11_outside cu_X11_outside 400 10 _ _ _).trans rfl
set_option maxRecDepth 100000 in
theorem e_X11_outside_15 (a0 a1 a2 b0 : Int) (sh : Int × (Int → Nat × Int)) (h : Int → Int → Int) : q_L 153 15 [(0, a0), (0, a1), (0, a2)] [(0, b0)] (sh, h) = if b0 = 0 ∨ b0 = 1 then some ((0, b0), (sh, h)) else none :=
  (q_unL hL_X11_outside cu_X11_outside 400 15 _ _ _).trans rfl
def cu_X11_noDish : List Nat := [0, 14]
theorem hL_X11_noDish : q_P 154 = q_find P_X11_noDish := rfl
theorem c_X11_noDish (a0 a1 : Int) (s : q_M) : q_Cc 154 [(21, a0), (0, a1)] s = q_L 154 0 [(21, a0), (0, a1)] [] s := rfl
set_option maxRecDepth 100000 in
theorem e_X11_noDish_0 (a0 a1 : Int) (sh : Int × (Int → Nat × Int)) (h : Int → Int → Int) : q_L 154 0 [(21, a0), (0, a1)] [] (sh, h) = if 0 ≤ h a0 0 then ((q_Cc 153 [(0, a1), (0, 0), (0, q_sub (h (h a0 0) 1) (1 : Int))] (sh, h)).bind (fun r => q_L 154 14 [(21, a0), (0, a1)] [r.1] r.2)) else none :=
  (q_unL hL_X11_noDish cu_X11_noDish 400 0 _ _ _).trans rfl
set_option maxRecDepth 100000 in
theorem e_X11_noDish_14 (a0 a1 b0 : Int) (sh : Int × (Int → Nat × Int)) (h : Int → Int → Int) : q_L 154 14 [(21, a0), (0, a1)] [(0, b0)] (sh, h) = if b0 = 0 ∨ b0 = 1 then some ((0, b0), (sh, h)) else none :=
  (q_unL hL_X11_noDish cu_X11_noDish 400 14 _ _ _).trans rfl
def cu_X11_noCraft : List Nat := [0, 14]
theorem hL_X11_noCraft : q_P 155 = q_find P_X11_noCraft := rfl
theorem c_X11_noCraft (a0 a1 : Int) (s : q_M) : q_Cc 155 [(21, a0), (0, a1)] s = q_L 155 0 [(21, a0), (0, a1)] [] s := rfl
set_option maxRecDepth 100000 in
theorem e_X11_noCraft_0 (a0 a1 : Int) (sh : Int × (Int → Nat × Int)) (h : Int → Int → Int) : q_L 155 0 [(21, a0), (0, a1)] [] (sh, h) = if 0 ≤ h a0 0 then ((q_Cc 153 [(0, a1), (0, 0), (0, q_sub (h (h a0 0) 2) (1 : Int))] (sh, h)).bind (fun r => q_L 155 14 [(21, a0), (0, a1)] [r.1] r.2)) else none :=
  (q_unL hL_X11_noCraft cu_X11_noCraft 400 0 _ _ _).trans rfl
set_option maxRecDepth 100000 in
theorem e_X11_noCraft_14 (a0 a1 b0 : Int) (sh : Int × (Int → Nat × Int)) (h : Int → Int → Int) : q_L 155 14 [(21, a0), (0, a1)] [(0, b0)] (sh, h) = if b0 = 0 ∨ b0 = 1 then some ((0, b0), (sh, h)) else none :=
  (q_unL hL_X11_noCraft cu_X11_noCraft 400 14 _ _ _).trans rfl
def cu_X11_noAsking : List Nat := [0, 14]
theorem hL_X11_noAsking : q_P 156 = q_find P_X11_noAsking := rfl
theorem c_X11_noAsking (a0 a1 : Int) (s : q_M) : q_Cc 156 [(21, a0), (0, a1)] s = q_L 156 0 [(21, a0), (0, a1)] [] s := rfl
set_option maxRecDepth 100000 in
theorem e_X11_noAsking_0 (a0 a1 : Int) (sh : Int × (Int → Nat × Int)) (h : Int → Int → Int) : q_L 156 0 [(21, a0), (0, a1)] [] (sh, h) = if 0 ≤ h a0 0 then ((q_Cc 153 [(0, a1), (0, 0), (0, q_sub (h (h a0 0) 3) (1 : Int))] (sh, h)).bind (fun r => q_L 156 14 [(21, a0), (0, a1)] [r.1] r.2)) else none :=
  (q_unL hL_X11_noAsking cu_X11_noAsking 400 0 _ _ _).trans rfl
set_option maxRecDepth 100000 in
theorem e_X11_noAsking_14 (a0 a1 b0 : Int) (sh : Int × (Int → Nat × Int)) (h : Int → Int → Int) : q_L 156 14 [(21, a0), (0, a1)] [(0, b0)] (sh, h) = if b0 = 0 ∨ b0 = 1 then some ((0, b0), (sh, h)) else none :=
  (q_unL hL_X11_noAsking cu_X11_noAsking 400 14 _ _ _).trans rfl
def cu_X11_noOrder : List Nat := [0, 5, 30, 33, 38]
theorem hL_X11_noOrder : q_P 157 = q_find P_X11_noOrder := rfl
theorem c_X11_noOrder (a0 a1 a2 : Int) (s : q_M) : q_Cc 157 [(21, a0), (0, a1), (0, a2)] s = q_L 157 0 [(21, a0), (0, a1), (0, a2)] [] s := rfl
set_option maxRecDepth 100000 in
theorem e_X11_noOrder_0 (a0 a1 a2 : Int) (sh : Int × (Int → Nat × Int)) (h : Int → Int → Int) : q_L 157 0 [(21, a0), (0, a1), (0, a2)] [] (sh, h) = (q_Cc 155 [(21, a0), (0, a1)] (sh, h)).bind (fun r => q_L 157 5 [(21, a0), (0, a1), (0, a2)] [r.1] r.2) :=
  (q_unL hL_X11_noOrder cu_X11_noOrder 400 0 _ _ _).trans rfl
set_option maxRecDepth 100000 in
theorem e_X11_noOrder_5 (a0 a1 a2 b0 : Int) (sh : Int × (Int → Nat × Int)) (h : Int → Int → Int) : q_L 157 5 [(21, a0), (0, a1), (0, a2)] [(0, b0)] (sh, h) = if b0 = 0 then (if 0 ≤ h a0 0 then (if 0 ≤ h (h a0 0) 6 then (if 0 ≤ a1 ∧ a1 < (sh.2 (h (h a0 0) 6)).2 ∧ 0 ≤ h (h (h a0 0) 6) a1 then (if 0 ≤ h (h (h (h a0 0) 6) a1) 6 then ((q_Cc 153 [(0, a2), (0, 0), (0, q_sub (h (h (h (h (h a0 0) 6) a1) 6) 0) (1 : Int))] (sh, h)).bind (fun r => q_L 157 30 [(21, a0), (0, a1), (0, a2)] [r.1] r.2)) else none) else none) else none) else none) else (q_L 157 33 [(21, a0), (0, a1), (0, a2)] [] (sh, h)) :=
  (q_unL hL_X11_noOrder cu_X11_noOrder 400 5 _ _ _).trans rfl
set_option maxRecDepth 100000 in
theorem e_X11_noOrder_30 (a0 a1 a2 b0 : Int) (sh : Int × (Int → Nat × Int)) (h : Int → Int → Int) : q_L 157 30 [(21, a0), (0, a1), (0, a2)] [(0, b0)] (sh, h) = if b0 = 0 then (q_L 157 38 [(21, a0), (0, a1), (0, a2)] [(0, 0)] (sh, h)) else (q_L 157 33 [(21, a0), (0, a1), (0, a2)] [] (sh, h)) :=
  (q_unL hL_X11_noOrder cu_X11_noOrder 400 30 _ _ _).trans rfl
set_option maxRecDepth 100000 in
theorem e_X11_noOrder_33 (a0 a1 a2 : Int) (sh : Int × (Int → Nat × Int)) (h : Int → Int → Int) : q_L 157 33 [(21, a0), (0, a1), (0, a2)] [] (sh, h) = q_L 157 38 [(21, a0), (0, a1), (0, a2)] [(0, 1)] (sh, h) :=
  (q_unL hL_X11_noOrder cu_X11_noOrder 400 33 _ _ _).trans rfl
set_option maxRecDepth 100000 in
theorem e_X11_noOrder_38 (a0 a1 a2 b0 : Int) (sh : Int × (Int → Nat × Int)) (h : Int → Int → Int) : q_L 157 38 [(21, a0), (0, a1), (0, a2)] [(0, b0)] (sh, h) = if b0 = 0 ∨ b0 = 1 then some ((0, b0), (sh, h)) else none :=
  (q_unL hL_X11_noOrder cu_X11_noOrder 400 38 _ _ _).trans rfl
def cu_X11_noSheet : List Nat := [0, 6]
theorem hL_X11_noSheet : q_P 158 = q_find P_X11_noSheet := rfl
theorem c_X11_noSheet (a0 : Int) (s : q_M) : q_Cc 158 [(0, a0)] s = q_L 158 0 [(0, a0)] [] s := rfl
set_option maxRecDepth 100000 in
theorem e_X11_noSheet_0 (a0 : Int) (sh : Int × (Int → Nat × Int)) (h : Int → Int → Int) : q_L 158 0 [(0, a0)] [] (sh, h) = (q_Cc 153 [(0, a0), (0, 0), (0, 3)] (sh, h)).bind (fun r => q_L 158 6 [(0, a0)] [r.1] r.2) :=
  (q_unL hL_X11_noSheet cu_X11_noSheet 400 0 _ _ _).trans rfl
set_option maxRecDepth 100000 in
theorem e_X11_noSheet_6 (a0 b0 : Int) (sh : Int × (Int → Nat × Int)) (h : Int → Int → Int) : q_L 158 6 [(0, a0)] [(0, b0)] (sh, h) = if b0 = 0 ∨ b0 = 1 then some ((0, b0), (sh, h)) else none :=
  (q_unL hL_X11_noSheet cu_X11_noSheet 400 6 _ _ _).trans rfl
def cu_X11_finding : List Nat := [0, 25]
theorem hL_X11_finding : q_P 159 = q_find P_X11_finding := rfl
theorem c_X11_finding (a0 a1 : Int) (s : q_M) : q_Cc 159 [(21, a0), (0, a1)] s = q_L 159 0 [(21, a0), (0, a1), (9, 0)] [] s := rfl
set_option maxRecDepth 100000 in
theorem e_X11_finding_0 (a0 a1 : Int) (sh : Int × (Int → Nat × Int)) (h : Int → Int → Int) : q_L 159 0 [(21, a0), (0, a1), (9, 0)] [] (sh, h) = if (q_sub (-1000001 : Int) a1) < 0 then (q_L 159 25 [(21, a0), (0, a1), (0, q_sub (-1000001 : Int) a1)] [] (sh, h)) else (if (q_sub (-1000001 : Int) a1) < (7 : Int) then (if 0 ≤ h a0 6 then (if 0 ≤ (q_sub (-1000001 : Int) a1) ∧ (q_sub (-1000001 : Int) a1) < (sh.2 (h a0 6)).2 then (if 0 ≤ (q_sub (-1000001 : Int) a1) ∧ (q_sub (-1000001 : Int) a1) < (sh.2 (h a0 6)).2 ∧ 0 ≤ (h a0 6) then (q_L 159 25 [(21, a0), (0, a1), (0, q_sub (-1000001 : Int) a1)] [] (sh, q_up h (h a0 6) (q_sub (-1000001 : Int) a1) (q_add (h (h a0 6) (q_sub (-1000001 : Int) a1)) (1 : Int)))) else none) else none) else none) else (q_L 159 25 [(21, a0), (0, a1), (0, q_sub (-1000001 : Int) a1)] [] (sh, h))) :=
  (q_unL hL_X11_finding cu_X11_finding 400 0 _ _ _).trans rfl
set_option maxRecDepth 100000 in
theorem e_X11_finding_25 (a0 a1 a2 : Int) (sh : Int × (Int → Nat × Int)) (h : Int → Int → Int) : q_L 159 25 [(21, a0), (0, a1), (0, a2)] [] (sh, h) = some ((0, a1), (sh, h)) :=
  (q_unL hL_X11_finding cu_X11_finding 400 25 _ _ _).trans rfl
