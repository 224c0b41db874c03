def cu_X9_init : List Nat := [0, 9, 20]
theorem hL_X9_init : q_P 75 = q_find P_X9_init := rfl
theorem c_X9_init (a0 : Int) (s : q_M) : q_Cc 75 [(19, a0)] s = q_L 75 0 [(19, a0)] [] s := rfl
set_option maxRecDepth 100000 in
theorem e_X9_init_0 (a0 : Int) (sh : Int × (Int → Nat × Int)) (h : Int → Int → Int) : q_L 75 0 [(19, a0)] [] (sh, h) = if 0 ≤ (110 : Int) ∧ (110 : Int) ≤ 10000 then (q_L 75 9 [(19, a0)] [(30, sh.1), (19, a0)] ((q_ms sh 30 (110 : Int)), (q_mh sh h (fun _ => 0)))) else none :=
  (q_unL hL_X9_init cu_X9_init 400 0 _ _ _).trans rfl
set_option maxRecDepth 100000 in
theorem e_X9_init_9 (a0 b0 b1 : Int) (sh : Int × (Int → Nat × Int)) (h : Int → Int → Int) : q_L 75 9 [(19, a0)] [(30, b1), (19, b0)] (sh, h) = if 0 ≤ b1 then (if 0 ≤ (4 : Int) ∧ (4 : Int) ≤ 100 ∧ 0 ≤ (6 : Int) ∧ (6 : Int) ≤ 100 then (q_L 75 20 [(19, a0)] [(32, sh.1), (19, a0)] ((q_mk2 (sh, q_up h b0 0 b1) (4 : Int) (6 : Int)).1, (q_mk2 (sh, q_up h b0 0 b1) (4 : Int) (6 : Int)).2)) else none) else none :=
  (q_unL hL_X9_init cu_X9_init 400 9 _ _ _).trans rfl
set_option maxRecDepth 100000 in
theorem e_X9_init_20 (a0 b0 b1 : Int) (sh : Int × (Int → Nat × Int)) (h : Int → Int → Int) : q_L 75 20 [(19, a0)] [(32, b1), (19, b0)] (sh, h) = if 0 ≤ b1 then (some ((9, 0), (sh, q_up h b0 2 b1))) else none :=
  (q_unL hL_X9_init cu_X9_init 400 20 _ _ _).trans rfl
def cu_X9_append : List Nat := [0, 4]
theorem hL_X9_append : q_P 76 = q_find P_X9_append := rfl
theorem c_X9_append (a0 a1 a2 : Int) (s : q_M) : q_Cc 76 [(19, a0), (0, a1), (0, a2)] s = q_L 76 0 [(19, a0), (0, a1), (0, a2), (9, 0)] [] s := rfl
set_option maxRecDepth 100000 in
theorem e_X9_append_0 (a0 a1 a2 : Int) (sh : Int × (Int → Nat × Int)) (h : Int → Int → Int) : q_L 76 0 [(19, a0), (0, a1), (0, a2), (9, 0)] [] (sh, h) = q_L 76 4 [(19, a0), (0, a1), (0, a2), (0, q_sub a2 (1 : Int))] [] (sh, h) :=
  (q_unL hL_X9_append cu_X9_append 400 0 _ _ _).trans rfl
set_option maxRecDepth 100000 in
theorem e_X9_append_4 (a0 a1 a2 a3 : Int) (sh : Int × (Int → Nat × Int)) (h : Int → Int → Int) : q_L 76 4 [(19, a0), (0, a1), (0, a2), (0, a3)] [] (sh, h) = if a3 < 0 then (some ((0, h a0 1), (sh, h))) else (if 0 ≤ h a0 0 then (if 0 ≤ (h a0 1) ∧ (h a0 1) < (sh.2 (h a0 0)).2 ∧ 0 ≤ (h a0 0) then (q_L 76 4 [(19, a0), (0, a1), (0, a2), (0, q_w (a3 + (-1)))] [] (sh, q_up (q_up h (h a0 0) (h a0 1) (q_and (q_shr a1 (q_mul (8 : Int) a3)) (255 : Int))) a0 1 (q_add ((q_up h (h a0 0) (h a0 1) (q_and (q_shr a1 (q_mul (8 : Int) a3)) (255 : Int))) a0 1) (1 : Int)))) else none) else none) :=
  (q_unL hL_X9_append cu_X9_append 400 4 _ _ _).trans rfl
def cu_X9_clear : List Nat := [0]
theorem hL_X9_clear : q_P 77 = q_find P_X9_clear := rfl
theorem c_X9_clear (a0 : Int) (s : q_M) : q_Cc 77 [(19, a0)] s = q_L 77 0 [(19, a0), (9, 0)] [] s := rfl
set_option maxRecDepth 100000 in
theorem e_X9_clear_0 (a0 : Int) (sh : Int × (Int → Nat × Int)) (h : Int → Int → Int) : q_L 77 0 [(19, a0), (9, 0)] [] (sh, h) = some ((0, h a0 1), (sh, q_up h a0 1 (0 : Int))) :=
  (q_unL hL_X9_clear cu_X9_clear 400 0 _ _ _).trans rfl
def cu_X9_readAll : List Nat := [0, 12, 28]
theorem hL_X9_readAll : q_P 78 = q_find P_X9_readAll := rfl
theorem c_X9_readAll (a0 a1 : Int) (s : q_M) : q_Cc 78 [(19, a0), (0, a1)] s = q_L 78 0 [(19, a0), (0, a1), (9, 0)] [] s := rfl
set_option maxRecDepth 100000 in
theorem e_X9_readAll_0 (a0 a1 : Int) (sh : Int × (Int → Nat × Int)) (h : Int → Int → Int) : q_L 78 0 [(19, a0), (0, a1), (9, 0)] [] (sh, h) = q_L 78 12 [(19, a0), (0, a1), (0, 0)] [] (sh, q_up (q_up h a0 4 (0 : Int)) a0 3 (0 : Int)) :=
  (q_unL hL_X9_readAll cu_X9_readAll 400 0 _ _ _).trans rfl
set_option maxRecDepth 100000 in
theorem e_X9_readAll_12 (a0 a1 a2 : Int) (sh : Int × (Int → Nat × Int)) (h : Int → Int → Int) : q_L 78 12 [(19, a0), (0, a1), (0, a2)] [] (sh, h) = if a2 < (4 : Int) then (if 0 ≤ h a0 2 then (if 0 ≤ a2 ∧ a2 < (sh.2 (h a0 2)).2 ∧ 0 ≤ h (h a0 2) a2 then ((q_Cc 79 [(19, a0), (30, h (h a0 2) a2), (0, a1)] (sh, h)).bind (fun r => q_L 78 28 [(19, a0), (0, a1), (0, a2)] [r.1] r.2)) else none) else none) else (some ((0, h a0 5), (sh, h))) :=
  (q_unL hL_X9_readAll cu_X9_readAll 400 12 _ _ _).trans rfl
set_option maxRecDepth 100000 in
theorem e_X9_readAll_28 (a0 a1 a2 b0 : Int) (sh : Int × (Int → Nat × Int)) (h : Int → Int → Int) : q_L 78 28 [(19, a0), (0, a1), (0, a2)] [(0, b0)] (sh, h) = if b0 = 0 then (some ((0, h a0 5), (sh, h))) else (if ((q_up h a0 3 (q_add (h a0 3) (1 : Int))) a0 6) = 0 then (some ((0, (-1)), (sh, q_up h a0 3 (q_add (h a0 3) (1 : Int))))) else (if ((q_up h a0 3 (q_add (h a0 3) (1 : Int))) a0 6) = (3 : Int) then (q_L 78 12 [(19, a0), (0, a1), (0, q_w (a2 + 1))] [] (sh, q_up h a0 3 (q_add (h a0 3) (1 : Int)))) else (some ((0, (q_up h a0 3 (q_add (h a0 3) (1 : Int))) a0 5), (sh, q_up h a0 3 (q_add (h a0 3) (1 : Int))))))) :=
  (q_unL hL_X9_readAll cu_X9_readAll 400 28 _ _ _).trans rfl
def cu_X9_readOne : List Nat := [0, 4, 21, 44, 65, 87, 115, 131, 153, 156, 161]
theorem hL_X9_readOne : q_P 79 = q_find P_X9_readOne := rfl
theorem c_X9_readOne (a0 a1 a2 : Int) (s : q_M) : q_Cc 79 [(19, a0), (30, a1), (0, a2)] s = q_L 79 0 [(19, a0), (30, a1), (0, a2)] [] s := rfl
set_option maxRecDepth 100000 in
theorem e_X9_readOne_0 (a0 a1 a2 : Int) (sh : Int × (Int → Nat × Int)) (h : Int → Int → Int) : q_L 79 0 [(19, a0), (30, a1), (0, a2)] [] (sh, h) = (q_Cc 83 [(19, a0)] (sh, h)).bind (fun r => q_L 79 4 [(19, a0), (30, a1), (0, a2)] [] r.2) :=
  (q_unL hL_X9_readOne cu_X9_readOne 400 0 _ _ _).trans rfl
set_option maxRecDepth 100000 in
theorem e_X9_readOne_4 (a0 a1 a2 : Int) (sh : Int × (Int → Nat × Int)) (h : Int → Int → Int) : q_L 79 4 [(19, a0), (30, a1), (0, a2)] [] (sh, h) = if (h a0 6) = (1 : Int) then (if (6 : Int) < (h a0 7) then (q_L 79 21 [(19, a0), (30, a1), (0, a2)] [] (sh, h)) else (if 0 ≤ (0 : Int) ∧ (0 : Int) < (sh.2 a1).2 ∧ 0 ≤ a1 then (if 0 ≤ (5 : Int) ∧ (5 : Int) < (sh.2 a1).2 ∧ 0 ≤ a1 then ((q_Cc 81 [(19, a0), (0, 7), (0, 0), (0, q_sub a2 (1 : Int))] (sh, q_up (q_up h a1 (0 : Int) (h a0 7)) a1 (5 : Int) (1 : Int))).bind (fun r => q_L 79 44 [(19, a0), (30, a1), (0, a2)] [r.1] r.2)) else none) else none)) else (q_L 79 21 [(19, a0), (30, a1), (0, a2)] [] (sh, h)) :=
  (q_unL hL_X9_readOne cu_X9_readOne 400 4 _ _ _).trans rfl
set_option maxRecDepth 100000 in
theorem e_X9_readOne_21 (a0 a1 a2 : Int) (sh : Int × (Int → Nat × Int)) (h : Int → Int → Int) : q_L 79 21 [(19, a0), (30, a1), (0, a2)] [] (sh, h) = some ((0, 0), (sh, h)) :=
  (q_unL hL_X9_readOne cu_X9_readOne 400 21 _ _ _).trans rfl
set_option maxRecDepth 100000 in
theorem e_X9_readOne_44 (a0 a1 a2 b0 : Int) (sh : Int × (Int → Nat × Int)) (h : Int → Int → Int) : q_L 79 44 [(19, a0), (30, a1), (0, a2)] [(0, b0)] (sh, h) = if b0 = 0 then (some ((0, 0), (sh, h))) else (if 0 ≤ (1 : Int) ∧ (1 : Int) < (sh.2 a1).2 ∧ 0 ≤ a1 then ((q_Cc 81 [(19, a0), (0, 8), (0, 1), (0, 9)] (sh, q_up h a1 (1 : Int) (h a0 7))).bind (fun r => q_L 79 65 [(19, a0), (30, a1), (0, a2)] [r.1] r.2)) else none) :=
  (q_unL hL_X9_readOne cu_X9_readOne 400 44 _ _ _).trans rfl
set_option maxRecDepth 100000 in
theorem e_X9_readOne_65 (a0 a1 a2 b0 : Int) (sh : Int × (Int → Nat × Int)) (h : Int → Int → Int) : q_L 79 65 [(19, a0), (30, a1), (0, a2)] [(0, b0)] (sh, h) = if b0 = 0 then (some ((0, 0), (sh, h))) else (if 0 ≤ (2 : Int) ∧ (2 : Int) < (sh.2 a1).2 ∧ 0 ≤ a1 then ((q_Cc 81 [(19, a0), (0, 9), (0, 0), (0, 9999)] (sh, q_up h a1 (2 : Int) (h a0 7))).bind (fun r => q_L 79 87 [(19, a0), (30, a1), (0, a2)] [r.1] r.2)) else none) :=
  (q_unL hL_X9_readOne cu_X9_readOne 400 65 _ _ _).trans rfl
set_option maxRecDepth 100000 in
theorem e_X9_readOne_87 (a0 a1 a2 b0 : Int) (sh : Int × (Int → Nat × Int)) (h : Int → Int → Int) : q_L 79 87 [(19, a0), (30, a1), (0, a2)] [(0, b0)] (sh, h) = if b0 = 0 then (some ((0, 0), (sh, h))) else (if 0 ≤ (3 : Int) ∧ (3 : Int) < (sh.2 a1).2 ∧ 0 ≤ a1 then (if 0 ≤ (3 : Int) ∧ (3 : Int) < (sh.2 a1).2 then (if 0 ≤ (2 : Int) ∧ (2 : Int) < (sh.2 a1).2 then ((q_Cc 81 [(19, a0), (0, 10), (0, q_add ((q_up h a1 (3 : Int) (h a0 7)) a1 (3 : Int)) ((q_up h a1 (3 : Int) (h a0 7)) a1 (2 : Int))), (0, 9999)] (sh, q_up h a1 (3 : Int) (h a0 7))).bind (fun r => q_L 79 115 [(19, a0), (30, a1), (0, a2)] [r.1] r.2)) else none) else none) else none) :=
  (q_unL hL_X9_readOne cu_X9_readOne 400 87 _ _ _).trans rfl
set_option maxRecDepth 100000 in
theorem e_X9_readOne_115 (a0 a1 a2 b0 : Int) (sh : Int × (Int → Nat × Int)) (h : Int → Int → Int) : q_L 79 115 [(19, a0), (30, a1), (0, a2)] [(0, b0)] (sh, h) = if b0 = 0 then (some ((0, 0), (sh, h))) else (if 0 ≤ (4 : Int) ∧ (4 : Int) < (sh.2 a1).2 ∧ 0 ≤ a1 then ((q_Cc 83 [(19, a0)] (sh, q_up h a1 (4 : Int) (h a0 7))).bind (fun r => q_L 79 131 [(19, a0), (30, a1), (0, a2)] [] r.2)) else none) :=
  (q_unL hL_X9_readOne cu_X9_readOne 400 115 _ _ _).trans rfl
set_option maxRecDepth 100000 in
theorem e_X9_readOne_131 (a0 a1 a2 : Int) (sh : Int × (Int → Nat × Int)) (h : Int → Int → Int) : q_L 79 131 [(19, a0), (30, a1), (0, a2)] [] (sh, h) = if (h a0 6) = (1 : Int) then (if (h a0 7) = (11 : Int) then ((q_Cc 80 [(19, a0), (30, a1)] (sh, h)).bind (fun r => q_L 79 153 [(19, a0), (30, a1), (0, a2)] [r.1] r.2)) else (q_L 79 156 [(19, a0), (30, a1), (0, a2)] [] (sh, h))) else (q_L 79 156 [(19, a0), (30, a1), (0, a2)] [] (sh, h)) :=
  (q_unL hL_X9_readOne cu_X9_readOne 400 131 _ _ _).trans rfl
set_option maxRecDepth 100000 in
theorem e_X9_readOne_153 (a0 a1 a2 b0 : Int) (sh : Int × (Int → Nat × Int)) (h : Int → Int → Int) : q_L 79 153 [(19, a0), (30, a1), (0, a2)] [(0, b0)] (sh, h) = if b0 = 0 then (q_L 79 161 [(19, a0), (30, a1), (0, a2)] [(0, 0)] (sh, h)) else (q_L 79 156 [(19, a0), (30, a1), (0, a2)] [] (sh, h)) :=
  (q_unL hL_X9_readOne cu_X9_readOne 400 153 _ _ _).trans rfl
set_option maxRecDepth 100000 in
theorem e_X9_readOne_156 (a0 a1 a2 : Int) (sh : Int × (Int → Nat × Int)) (h : Int → Int → Int) : q_L 79 156 [(19, a0), (30, a1), (0, a2)] [] (sh, h) = q_L 79 161 [(19, a0), (30, a1), (0, a2)] [(0, 1)] (sh, h) :=
  (q_unL hL_X9_readOne cu_X9_readOne 400 156 _ _ _).trans rfl
set_option maxRecDepth 100000 in
theorem e_X9_readOne_161 (a0 a1 a2 b0 : Int) (sh : Int × (Int → Nat × Int)) (h : Int → Int → Int) : q_L 79 161 [(19, a0), (30, a1), (0, a2)] [(0, b0)] (sh, h) = if b0 = 0 ∨ b0 = 1 then some ((0, b0), (sh, h)) else none :=
  (q_unL hL_X9_readOne cu_X9_readOne 400 161 _ _ _).trans rfl
def cu_X9_readWorth : List Nat := [0, 8, 24]
theorem hL_X9_readWorth : q_P 80 = q_find P_X9_readWorth := rfl
theorem c_X9_readWorth (a0 a1 : Int) (s : q_M) : q_Cc 80 [(19, a0), (30, a1)] s = q_L 80 0 [(19, a0), (30, a1)] [] s := rfl
set_option maxRecDepth 100000 in
theorem e_X9_readWorth_0 (a0 a1 : Int) (sh : Int × (Int → Nat × Int)) (h : Int → Int → Int) : q_L 80 0 [(19, a0), (30, a1)] [] (sh, h) = (q_Cc 82 [(19, a0), (0, 0), (0, 999)] (sh, h)).bind (fun r => q_L 80 8 [(19, a0), (30, a1)] [r.1] r.2) :=
  (q_unL hL_X9_readWorth cu_X9_readWorth 400 0 _ _ _).trans rfl
set_option maxRecDepth 100000 in
theorem e_X9_readWorth_8 (a0 a1 b0 : Int) (sh : Int × (Int → Nat × Int)) (h : Int → Int → Int) : q_L 80 8 [(19, a0), (30, a1)] [(0, b0)] (sh, h) = if b0 = 0 then (some ((0, 0), (sh, h))) else (if 0 ≤ (5 : Int) ∧ (5 : Int) < (sh.2 a1).2 ∧ 0 ≤ a1 then ((q_Cc 83 [(19, a0)] (sh, q_up h a1 (5 : Int) (h a0 7))).bind (fun r => q_L 80 24 [(19, a0), (30, a1)] [] r.2)) else none) :=
  (q_unL hL_X9_readWorth cu_X9_readWorth 400 8 _ _ _).trans rfl
set_option maxRecDepth 100000 in
theorem e_X9_readWorth_24 (a0 a1 : Int) (sh : Int × (Int → Nat × Int)) (h : Int → Int → Int) : q_L 80 24 [(19, a0), (30, a1)] [] (sh, h) = some ((0, 1), (sh, h)) :=
  (q_unL hL_X9_readWorth cu_X9_readWorth 400 24 _ _ _).trans rfl
def cu_X9_readPair : List Nat := [0, 4, 26, 33, 34]
theorem hL_X9_readPair : q_P 81 = q_find P_X9_readPair := rfl
theorem c_X9_readPair (a0 a1 a2 a3 : Int) (s : q_M) : q_Cc 81 [(19, a0), (0, a1), (0, a2), (0, a3)] s = q_L 81 0 [(19, a0), (0, a1), (0, a2), (0, a3)] [] s := rfl
set_option maxRecDepth 100000 in
theorem e_X9_readPair_0 (a0 a1 a2 a3 : Int) (sh : Int × (Int → Nat × Int)) (h : Int → Int → Int) : q_L 81 0 [(19, a0), (0, a1), (0, a2), (0, a3)] [] (sh, h) = (q_Cc 83 [(19, a0)] (sh, h)).bind (fun r => q_L 81 4 [(19, a0), (0, a1), (0, a2), (0, a3)] [] r.2) :=
  (q_unL hL_X9_readPair cu_X9_readPair 400 0 _ _ _).trans rfl
set_option maxRecDepth 100000 in
theorem e_X9_readPair_4 (a0 a1 a2 a3 : Int) (sh : Int × (Int → Nat × Int)) (h : Int → Int → Int) : q_L 81 4 [(19, a0), (0, a1), (0, a2), (0, a3)] [] (sh, h) = if (h a0 6) = (1 : Int) then (if (h a0 7) = a1 then ((q_Cc 82 [(19, a0), (0, a2), (0, a3)] (sh, h)).bind (fun r => q_L 81 26 [(19, a0), (0, a1), (0, a2), (0, a3)] [r.1] r.2)) else (q_L 81 33 [(19, a0), (0, a1), (0, a2), (0, a3)] [] (sh, h))) else (q_L 81 33 [(19, a0), (0, a1), (0, a2), (0, a3)] [] (sh, h)) :=
  (q_unL hL_X9_readPair cu_X9_readPair 400 4 _ _ _).trans rfl
set_option maxRecDepth 100000 in
theorem e_X9_readPair_26 (a0 a1 a2 a3 b0 : Int) (sh : Int × (Int → Nat × Int)) (h : Int → Int → Int) : q_L 81 26 [(19, a0), (0, a1), (0, a2), (0, a3)] [(0, b0)] (sh, h) = if b0 = 0 then (q_L 81 33 [(19, a0), (0, a1), (0, a2), (0, a3)] [] (sh, h)) else (q_L 81 34 [(19, a0), (0, a1), (0, a2), (0, a3)] [(0, 1)] (sh, h)) :=
  (q_unL hL_X9_readPair cu_X9_readPair 400 26 _ _ _).trans rfl
set_option maxRecDepth 100000 in
theorem e_X9_readPair_33 (a0 a1 a2 a3 : Int) (sh : Int × (Int → Nat × Int)) (h : Int → Int → Int) : q_L 81 33 [(19, a0), (0, a1), (0, a2), (0, a3)] [] (sh, h) = q_L 81 34 [(19, a0), (0, a1), (0, a2), (0, a3)] [(0, 0)] (sh, h) :=
  (q_unL hL_X9_readPair cu_X9_readPair 400 33 _ _ _).trans rfl
set_option maxRecDepth 100000 in
theorem e_X9_readPair_34 (a0 a1 a2 a3 b0 : Int) (sh : Int × (Int → Nat × Int)) (h : Int → Int → Int) : q_L 81 34 [(19, a0), (0, a1), (0, a2), (0, a3)] [(0, b0)] (sh, h) = if b0 = 0 ∨ b0 = 1 then some ((0, b0), (sh, h)) else none :=
  (q_unL hL_X9_readPair cu_X9_readPair 400 34 _ _ _).trans rfl
def cu_X9_readNumber : List Nat := [0, 4, 32, 33]
theorem hL_X9_readNumber : q_P 82 = q_find P_X9_readNumber := rfl
theorem c_X9_readNumber (a0 a1 a2 : Int) (s : q_M) : q_Cc 82 [(19, a0), (0, a1), (0, a2)] s = q_L 82 0 [(19, a0), (0, a1), (0, a2)] [] s := rfl
set_option maxRecDepth 100000 in
theorem e_X9_readNumber_0 (a0 a1 a2 : Int) (sh : Int × (Int → Nat × Int)) (h : Int → Int → Int) : q_L 82 0 [(19, a0), (0, a1), (0, a2)] [] (sh, h) = (q_Cc 83 [(19, a0)] (sh, h)).bind (fun r => q_L 82 4 [(19, a0), (0, a1), (0, a2)] [] r.2) :=
  (q_unL hL_X9_readNumber cu_X9_readNumber 400 0 _ _ _).trans rfl
set_option maxRecDepth 100000 in
theorem e_X9_readNumber_4 (a0 a1 a2 : Int) (sh : Int × (Int → Nat × Int)) (h : Int → Int → Int) : q_L 82 4 [(19, a0), (0, a1), (0, a2)] [] (sh, h) = if (h a0 6) = (2 : Int) then (if (h a0 7) < a1 then (q_L 82 32 [(19, a0), (0, a1), (0, a2)] [] (sh, h)) else (if a2 < (h a0 7) then (q_L 82 32 [(19, a0), (0, a1), (0, a2)] [] (sh, h)) else (q_L 82 33 [(19, a0), (0, a1), (0, a2)] [(0, 1)] (sh, h)))) else (q_L 82 32 [(19, a0), (0, a1), (0, a2)] [] (sh, h)) :=
  (q_unL hL_X9_readNumber cu_X9_readNumber 400 4 _ _ _).trans rfl
set_option maxRecDepth 100000 in
theorem e_X9_readNumber_32 (a0 a1 a2 : Int) (sh : Int × (Int → Nat × Int)) (h : Int → Int → Int) : q_L 82 32 [(19, a0), (0, a1), (0, a2)] [] (sh, h) = q_L 82 33 [(19, a0), (0, a1), (0, a2)] [(0, 0)] (sh, h) :=
  (q_unL hL_X9_readNumber cu_X9_readNumber 400 32 _ _ _).trans rfl
set_option maxRecDepth 100000 in
theorem e_X9_readNumber_33 (a0 a1 a2 b0 : Int) (sh : Int × (Int → Nat × Int)) (h : Int → Int → Int) : q_L 82 33 [(19, a0), (0, a1), (0, a2)] [(0, b0)] (sh, h) = if b0 = 0 ∨ b0 = 1 then some ((0, b0), (sh, h)) else none :=
  (q_unL hL_X9_readNumber cu_X9_readNumber 400 33 _ _ _).trans rfl
def cu_X9_next : List Nat := [0, 38, 73, 80, 91, 98, 121, 134]
theorem hL_X9_next : q_P 83 = q_find P_X9_next := rfl
theorem c_X9_next (a0 : Int) (s : q_M) : q_Cc 83 [(19, a0)] s = q_L 83 0 [(19, a0)] [] s := rfl
set_option maxRecDepth 100000 in
theorem e_X9_next_0 (a0 : Int) (sh : Int × (Int → Nat × Int)) (h : Int → Int → Int) : q_L 83 0 [(19, a0)] [] (sh, h) = if (h a0 4) < (h a0 1) then (if 0 ≤ h a0 0 then (if 0 ≤ (h a0 4) ∧ (h a0 4) < (sh.2 (h a0 0)).2 then (if (h (h a0 0) (h a0 4)) = (32 : Int) then (q_L 83 0 [(19, a0)] [] (sh, q_up h a0 4 (q_add (h a0 4) (1 : Int)))) else (q_L 83 38 [(19, a0)] [] (sh, h))) else none) else none) else (q_L 83 38 [(19, a0)] [] (sh, h)) :=
  (q_unL hL_X9_next cu_X9_next 400 0 _ _ _).trans rfl
set_option maxRecDepth 100000 in
theorem e_X9_next_38 (a0 : Int) (sh : Int × (Int → Nat × Int)) (h : Int → Int → Int) : q_L 83 38 [(19, a0)] [] (sh, h) = if ((q_up h a0 5 (h a0 4)) a0 4) < ((q_up h a0 5 (h a0 4)) a0 1) then ((q_Cc 87 [(19, a0), (0, (q_up h a0 5 (h a0 4)) a0 4)] (sh, q_up h a0 5 (h a0 4))).bind (fun r => q_L 83 73 [(19, a0)] [r.1] r.2)) else (q_L 83 134 [(19, a0)] [] (sh, q_up (q_up h a0 5 (h a0 4)) a0 6 (0 : Int))) :=
  (q_unL hL_X9_next cu_X9_next 400 38 _ _ _).trans rfl
set_option maxRecDepth 100000 in
theorem e_X9_next_73 (a0 b0 : Int) (sh : Int × (Int → Nat × Int)) (h : Int → Int → Int) : q_L 83 73 [(19, a0)] [(0, b0)] (sh, h) = if b0 = 0 then ((q_Cc 88 [(19, a0), (0, h a0 4)] (sh, h)).bind (fun r => q_L 83 91 [(19, a0)] [r.1] r.2)) else ((q_Cc 84 [(19, a0)] (sh, h)).bind (fun r => q_L 83 80 [(19, a0)] [] r.2)) :=
  (q_unL hL_X9_next cu_X9_next 400 73 _ _ _).trans rfl
set_option maxRecDepth 100000 in
theorem e_X9_next_80 (a0 : Int) (sh : Int × (Int → Nat × Int)) (h : Int → Int → Int) : q_L 83 80 [(19, a0)] [] (sh, h) = q_L 83 134 [(19, a0)] [] (sh, h) :=
  (q_unL hL_X9_next cu_X9_next 400 80 _ _ _).trans rfl
set_option maxRecDepth 100000 in
theorem e_X9_next_91 (a0 b0 : Int) (sh : Int × (Int → Nat × Int)) (h : Int → Int → Int) : q_L 83 91 [(19, a0)] [(0, b0)] (sh, h) = if b0 = 0 then (if 0 ≤ h a0 0 then (if 0 ≤ (h a0 4) ∧ (h a0 4) < (sh.2 (h a0 0)).2 then (if (h (h a0 0) (h a0 4)) = (59 : Int) then (q_L 83 121 [(19, a0)] [(0, 3), (19, a0)] (sh, h)) else (q_L 83 121 [(19, a0)] [(0, 4), (19, a0)] (sh, h))) else none) else none) else ((q_Cc 85 [(19, a0)] (sh, h)).bind (fun r => q_L 83 98 [(19, a0)] [] r.2)) :=
  (q_unL hL_X9_next cu_X9_next 400 91 _ _ _).trans rfl
set_option maxRecDepth 100000 in
theorem e_X9_next_98 (a0 : Int) (sh : Int × (Int → Nat × Int)) (h : Int → Int → Int) : q_L 83 98 [(19, a0)] [] (sh, h) = q_L 83 134 [(19, a0)] [] (sh, h) :=
  (q_unL hL_X9_next cu_X9_next 400 98 _ _ _).trans rfl
set_option maxRecDepth 100000 in
theorem e_X9_next_121 (a0 b0 b1 : Int) (sh : Int × (Int → Nat × Int)) (h : Int → Int → Int) : q_L 83 121 [(19, a0)] [(0, b1), (19, b0)] (sh, h) = q_L 83 134 [(19, a0)] [] (sh, q_up (q_up h b0 6 b1) a0 4 (q_add ((q_up h b0 6 b1) a0 4) (1 : Int))) :=
  (q_unL hL_X9_next cu_X9_next 400 121 _ _ _).trans rfl
set_option maxRecDepth 100000 in
theorem e_X9_next_134 (a0 : Int) (sh : Int × (Int → Nat × Int)) (h : Int → Int → Int) : q_L 83 134 [(19, a0)] [] (sh, h) = some ((9, 0), (sh, h)) :=
  (q_unL hL_X9_next cu_X9_next 400 134 _ _ _).trans rfl
def cu_X9_nextWord : List Nat := [0, 19, 35, 48, 64]
theorem hL_X9_nextWord : q_P 84 = q_find P_X9_nextWord := rfl
theorem c_X9_nextWord (a0 : Int) (s : q_M) : q_Cc 84 [(19, a0)] s = q_L 84 0 [(19, a0)] [] s := rfl
set_option maxRecDepth 100000 in
theorem e_X9_nextWord_0 (a0 : Int) (sh : Int × (Int → Nat × Int)) (h : Int → Int → Int) : q_L 84 0 [(19, a0)] [] (sh, h) = if (h a0 4) < (h a0 1) then ((q_Cc 87 [(19, a0), (0, h a0 4)] (sh, h)).bind (fun r => q_L 84 19 [(19, a0)] [r.1] r.2)) else (q_L 84 35 [(19, a0)] [] (sh, h)) :=
  (q_unL hL_X9_nextWord cu_X9_nextWord 400 0 _ _ _).trans rfl
set_option maxRecDepth 100000 in
theorem e_X9_nextWord_19 (a0 b0 : Int) (sh : Int × (Int → Nat × Int)) (h : Int → Int → Int) : q_L 84 19 [(19, a0)] [(0, b0)] (sh, h) = if b0 = 0 then (q_L 84 35 [(19, a0)] [] (sh, h)) else (q_L 84 0 [(19, a0)] [] (sh, q_up h a0 4 (q_add (h a0 4) (1 : Int)))) :=
  (q_unL hL_X9_nextWord cu_X9_nextWord 400 19 _ _ _).trans rfl
set_option maxRecDepth 100000 in
theorem e_X9_nextWord_35 (a0 : Int) (sh : Int × (Int → Nat × Int)) (h : Int → Int → Int) : q_L 84 35 [(19, a0)] [] (sh, h) = (q_Cc 86 [(19, a0), (0, h a0 5), (0, h a0 4)] (sh, h)).bind (fun r => q_L 84 48 [(19, a0)] [r.1, (19, a0)] r.2) :=
  (q_unL hL_X9_nextWord cu_X9_nextWord 400 35 _ _ _).trans rfl
set_option maxRecDepth 100000 in
theorem e_X9_nextWord_48 (a0 b0 b1 : Int) (sh : Int × (Int → Nat × Int)) (h : Int → Int → Int) : q_L 84 48 [(19, a0)] [(0, b1), (19, b0)] (sh, h) = if ((q_up h b0 7 b1) a0 7) < 0 then (q_L 84 64 [(19, a0)] [(0, 4), (19, a0)] (sh, q_up h b0 7 b1)) else (q_L 84 64 [(19, a0)] [(0, 1), (19, a0)] (sh, q_up h b0 7 b1)) :=
  (q_unL hL_X9_nextWord cu_X9_nextWord 400 48 _ _ _).trans rfl
set_option maxRecDepth 100000 in
theorem e_X9_nextWord_64 (a0 b0 b1 : Int) (sh : Int × (Int → Nat × Int)) (h : Int → Int → Int) : q_L 84 64 [(19, a0)] [(0, b1), (19, b0)] (sh, h) = some ((9, 0), (sh, q_up h b0 6 b1)) :=
  (q_unL hL_X9_nextWord cu_X9_nextWord 400 64 _ _ _).trans rfl
def cu_X9_nextNumber : List Nat := [0, 5, 24, 69, 88]
theorem hL_X9_nextNumber : q_P 85 = q_find P_X9_nextNumber := rfl
theorem c_X9_nextNumber (a0 : Int) (s : q_M) : q_Cc 85 [(19, a0)] s = q_L 85 0 [(19, a0)] [] s := rfl
set_option maxRecDepth 100000 in
theorem e_X9_nextNumber_0 (a0 : Int) (sh : Int × (Int → Nat × Int)) (h : Int → Int → Int) : q_L 85 0 [(19, a0)] [] (sh, h) = q_L 85 5 [(19, a0)] [] (sh, q_up h a0 7 (0 : Int)) :=
  (q_unL hL_X9_nextNumber cu_X9_nextNumber 400 0 _ _ _).trans rfl
set_option maxRecDepth 100000 in
theorem e_X9_nextNumber_5 (a0 : Int) (sh : Int × (Int → Nat × Int)) (h : Int → Int → Int) : q_L 85 5 [(19, a0)] [] (sh, h) = if (h a0 4) < (h a0 1) then ((q_Cc 88 [(19, a0), (0, h a0 4)] (sh, h)).bind (fun r => q_L 85 24 [(19, a0)] [r.1] r.2)) else (q_L 85 69 [(19, a0)] [] (sh, h)) :=
  (q_unL hL_X9_nextNumber cu_X9_nextNumber 400 5 _ _ _).trans rfl
set_option maxRecDepth 100000 in
theorem e_X9_nextNumber_24 (a0 b0 : Int) (sh : Int × (Int → Nat × Int)) (h : Int → Int → Int) : q_L 85 24 [(19, a0)] [(0, b0)] (sh, h) = if b0 = 0 then (q_L 85 69 [(19, a0)] [] (sh, h)) else (if 0 ≤ h a0 0 then (if 0 ≤ (h a0 4) ∧ (h a0 4) < (sh.2 (h a0 0)).2 then (q_L 85 5 [(19, a0)] [] (sh, q_up (q_up h a0 7 (if (99999 : Int) < (q_sub (q_add (q_mul (h a0 7) (10 : Int)) (h (h a0 0) (h a0 4))) (48 : Int)) then (99999 : Int) else (q_sub (q_add (q_mul (h a0 7) (10 : Int)) (h (h a0 0) (h a0 4))) (48 : Int)))) a0 4 (q_add ((q_up h a0 7 (if (99999 : Int) < (q_sub (q_add (q_mul (h a0 7) (10 : Int)) (h (h a0 0) (h a0 4))) (48 : Int)) then (99999 : Int) else (q_sub (q_add (q_mul (h a0 7) (10 : Int)) (h (h a0 0) (h a0 4))) (48 : Int)))) a0 4) (1 : Int)))) else none) else none) :=
  (q_unL hL_X9_nextNumber cu_X9_nextNumber 400 24 _ _ _).trans rfl
set_option maxRecDepth 100000 in
theorem e_X9_nextNumber_69 (a0 : Int) (sh : Int × (Int → Nat × Int)) (h : Int → Int → Int) : q_L 85 69 [(19, a0)] [] (sh, h) = if (4 : Int) < (q_sub (h a0 4) (h a0 5)) then (q_L 85 88 [(19, a0)] [(0, 4), (19, a0)] (sh, h)) else (q_L 85 88 [(19, a0)] [(0, 2), (19, a0)] (sh, h)) :=
  (q_unL hL_X9_nextNumber cu_X9_nextNumber 400 69 _ _ _).trans rfl
set_option maxRecDepth 100000 in
theorem e_X9_nextNumber_88 (a0 b0 b1 : Int) (sh : Int × (Int → Nat × Int)) (h : Int → Int → Int) : q_L 85 88 [(19, a0)] [(0, b1), (19, b0)] (sh, h) = some ((9, 0), (sh, q_up h b0 6 b1)) :=
  (q_unL hL_X9_nextNumber cu_X9_nextNumber 400 88 _ _ _).trans rfl
def cu_X9_wordBetween : List Nat := [0, 11, 64, 65, 86, 95]
theorem hL_X9_wordBetween : q_P 86 = q_find P_X9_wordBetween := rfl
theorem c_X9_wordBetween (a0 a1 a2 : Int) (s : q_M) : q_Cc 86 [(19, a0), (0, a1), (0, a2)] s = q_L 86 0 [(19, a0), (0, a1), (0, a2), (9, 0), (9, 0), (9, 0), (9, 0), (9, 0)] [] s := rfl
set_option maxRecDepth 100000 in
theorem e_X9_wordBetween_0 (a0 a1 a2 : Int) (sh : Int × (Int → Nat × Int)) (h : Int → Int → Int) : q_L 86 0 [(19, a0), (0, a1), (0, a2), (9, 0), (9, 0), (9, 0), (9, 0), (9, 0)] [] (sh, h) = q_L 86 11 [(19, a0), (0, a1), (0, a2), (0, 0), (0, a1), (0, 1), (0, 0), (9, 0)] [] (sh, h) :=
  (q_unL hL_X9_wordBetween cu_X9_wordBetween 400 0 _ _ _).trans rfl
set_option maxRecDepth 100000 in
theorem e_X9_wordBetween_11 (a0 a1 a2 a3 a4 a5 a6 : Int) (x7 : q_V) (sh : Int × (Int → Nat × Int)) (h : Int → Int → Int) : q_L 86 11 [(19, a0), (0, a1), (0, a2), (0, a3), (0, a4), (0, a5), (0, a6), x7] [] (sh, h) = if a6 < (56 : Int) then (if 0 ≤ a6 ∧ a6 < 56 then (if (q_tc a6) = (44 : Int) then (if a5 = 0 then (q_L 86 86 [(19, a0), (0, a1), (0, a2), (0, a3), (0, a4), (0, a5), (0, a6), (0, q_tc a6)] [] (sh, h)) else (if a4 = a2 then (some ((0, a3), (sh, h))) else (q_L 86 86 [(19, a0), (0, a1), (0, a2), (0, a3), (0, a4), (0, a5), (0, a6), (0, q_tc a6)] [] (sh, h)))) else (if a5 = 0 then (q_L 86 64 [(19, a0), (0, a1), (0, a2), (0, a3), (0, a4), (0, a5), (0, a6), (0, q_tc a6)] [] (sh, h)) else (if a4 < a2 then (if 0 ≤ h a0 0 then (if 0 ≤ a4 ∧ a4 < (sh.2 (h a0 0)).2 then (if (h (h a0 0) a4) = (q_tc a6) then (q_L 86 65 [(19, a0), (0, a1), (0, a2), (0, a3), (0, a4), (0, a5), (0, a6), (0, q_tc a6)] [(0, 1)] (sh, h)) else (q_L 86 64 [(19, a0), (0, a1), (0, a2), (0, a3), (0, a4), (0, a5), (0, a6), (0, q_tc a6)] [] (sh, h))) else none) else none) else (q_L 86 64 [(19, a0), (0, a1), (0, a2), (0, a3), (0, a4), (0, a5), (0, a6), (0, q_tc a6)] [] (sh, h))))) else none) else (some ((0, (-1)), (sh, h))) :=
  (q_unL hL_X9_wordBetween cu_X9_wordBetween 400 11 _ _ _).trans rfl
set_option maxRecDepth 100000 in
theorem e_X9_wordBetween_64 (a0 a1 a2 a3 a4 a5 a6 a7 : Int) (sh : Int × (Int → Nat × Int)) (h : Int → Int → Int) : q_L 86 64 [(19, a0), (0, a1), (0, a2), (0, a3), (0, a4), (0, a5), (0, a6), (0, a7)] [] (sh, h) = q_L 86 65 [(19, a0), (0, a1), (0, a2), (0, a3), (0, a4), (0, a5), (0, a6), (0, a7)] [(0, 0)] (sh, h) :=
  (q_unL hL_X9_wordBetween cu_X9_wordBetween 400 64 _ _ _).trans rfl
set_option maxRecDepth 100000 in
theorem e_X9_wordBetween_65 (a0 a1 a2 a3 a4 a5 a6 a7 b0 : Int) (sh : Int × (Int → Nat × Int)) (h : Int → Int → Int) : q_L 86 65 [(19, a0), (0, a1), (0, a2), (0, a3), (0, a4), (0, a5), (0, a6), (0, a7)] [(0, b0)] (sh, h) = q_L 86 95 [(19, a0), (0, a1), (0, a2), (0, a3), (0, q_w (a4 + 1)), (0, b0), (0, a6), (0, a7)] [] (sh, h) :=
  (q_unL hL_X9_wordBetween cu_X9_wordBetween 400 65 _ _ _).trans rfl
set_option maxRecDepth 100000 in
theorem e_X9_wordBetween_86 (a0 a1 a2 a3 a4 a5 a6 a7 : Int) (sh : Int × (Int → Nat × Int)) (h : Int → Int → Int) : q_L 86 86 [(19, a0), (0, a1), (0, a2), (0, a3), (0, a4), (0, a5), (0, a6), (0, a7)] [] (sh, h) = q_L 86 95 [(19, a0), (0, a1), (0, a2), (0, q_w (a3 + 1)), (0, a1), (0, 1), (0, a6), (0, a7)] [] (sh, h) :=
  (q_unL hL_X9_wordBetween cu_X9_wordBetween 400 86 _ _ _).trans rfl
set_option maxRecDepth 100000 in
theorem e_X9_wordBetween_95 (a0 a1 a2 a3 a4 a5 a6 a7 : Int) (sh : Int × (Int → Nat × Int)) (h : Int → Int → Int) : q_L 86 95 [(19, a0), (0, a1), (0, a2), (0, a3), (0, a4), (0, a5), (0, a6), (0, a7)] [] (sh, h) = q_L 86 11 [(19, a0), (0, a1), (0, a2), (0, a3), (0, a4), (0, a5), (0, q_w (a6 + 1)), (0, a7)] [] (sh, h) :=
  (q_unL hL_X9_wordBetween cu_X9_wordBetween 400 95 _ _ _).trans rfl
def cu_X9_isLetter : List Nat := [0, 26, 27]
theorem hL_X9_isLetter : q_P 87 = q_find P_X9_isLetter := rfl
theorem c_X9_isLetter (a0 a1 : Int) (s : q_M) : q_Cc 87 [(19, a0), (0, a1)] s = q_L 87 0 [(19, a0), (0, a1)] [] s := rfl
set_option maxRecDepth 100000 in
theorem e_X9_isLetter_0 (a0 a1 : Int) (sh : Int × (Int → Nat × Int)) (h : Int → Int → Int) : q_L 87 0 [(19, a0), (0, a1)] [] (sh, h) = if 0 ≤ h a0 0 then (if 0 ≤ a1 ∧ a1 < (sh.2 (h a0 0)).2 then (if (h (h a0 0) a1) < (97 : Int) then (q_L 87 26 [(19, a0), (0, a1)] [] (sh, h)) else (if 0 ≤ h a0 0 then (if 0 ≤ a1 ∧ a1 < (sh.2 (h a0 0)).2 then (if (122 : Int) < (h (h a0 0) a1) then (q_L 87 26 [(19, a0), (0, a1)] [] (sh, h)) else (q_L 87 27 [(19, a0), (0, a1)] [(0, 1)] (sh, h))) else none) else none)) else none) else none :=
  (q_unL hL_X9_isLetter cu_X9_isLetter 400 0 _ _ _).trans rfl
set_option maxRecDepth 100000 in
theorem e_X9_isLetter_26 (a0 a1 : Int) (sh : Int × (Int → Nat × Int)) (h : Int → Int → Int) : q_L 87 26 [(19, a0), (0, a1)] [] (sh, h) = q_L 87 27 [(19, a0), (0, a1)] [(0, 0)] (sh, h) :=
  (q_unL hL_X9_isLetter cu_X9_isLetter 400 26 _ _ _).trans rfl
set_option maxRecDepth 100000 in
theorem e_X9_isLetter_27 (a0 a1 b0 : Int) (sh : Int × (Int → Nat × Int)) (h : Int → Int → Int) : q_L 87 27 [(19, a0), (0, a1)] [(0, b0)] (sh, h) = if b0 = 0 ∨ b0 = 1 then some ((0, b0), (sh, h)) else none :=
  (q_unL hL_X9_isLetter cu_X9_isLetter 400 27 _ _ _).trans rfl
def cu_X9_isDigit : List Nat := [0, 26, 27]
theorem hL_X9_isDigit : q_P 88 = q_find P_X9_isDigit := rfl
theorem c_X9_isDigit (a0 a1 : Int) (s : q_M) : q_Cc 88 [(19, a0), (0, a1)] s = q_L 88 0 [(19, a0), (0, a1)] [] s := rfl
set_option maxRecDepth 100000 in
theorem e_X9_isDigit_0 (a0 a1 : Int) (sh : Int × (Int → Nat × Int)) (h : Int → Int → Int) : q_L 88 0 [(19, a0), (0, a1)] [] (sh, h) = if 0 ≤ h a0 0 then (if 0 ≤ a1 ∧ a1 < (sh.2 (h a0 0)).2 then (if (h (h a0 0) a1) < (48 : Int) then (q_L 88 26 [(19, a0), (0, a1)] [] (sh, h)) else (if 0 ≤ h a0 0 then (if 0 ≤ a1 ∧ a1 < (sh.2 (h a0 0)).2 then (if (57 : Int) < (h (h a0 0) a1) then (q_L 88 26 [(19, a0), (0, a1)] [] (sh, h)) else (q_L 88 27 [(19, a0), (0, a1)] [(0, 1)] (sh, h))) else none) else none)) else none) else none :=
  (q_unL hL_X9_isDigit cu_X9_isDigit 400 0 _ _ _).trans rfl
set_option maxRecDepth 100000 in
theorem e_X9_isDigit_26 (a0 a1 : Int) (sh : Int × (Int → Nat × Int)) (h : Int → Int → Int) : q_L 88 26 [(19, a0), (0, a1)] [] (sh, h) = q_L 88 27 [(19, a0), (0, a1)] [(0, 0)] (sh, h) :=
  (q_unL hL_X9_isDigit cu_X9_isDigit 400 26 _ _ _).trans rfl
set_option maxRecDepth 100000 in
theorem e_X9_isDigit_27 (a0 a1 b0 : Int) (sh : Int × (Int → Nat × Int)) (h : Int → Int → Int) : q_L 88 27 [(19, a0), (0, a1)] [(0, b0)] (sh, h) = if b0 = 0 ∨ b0 = 1 then some ((0, b0), (sh, h)) else none :=
  (q_unL hL_X9_isDigit cu_X9_isDigit 400 27 _ _ _).trans rfl
