def cu_X6_init : List Nat := [0, 9]
theorem hL_X6_init : q_P 55 = q_find P_X6_init := rfl
theorem c_X6_init (a0 : Int) (s : q_M) : q_Cc 55 [(16, a0)] s = q_L 55 0 [(16, a0)] [] s := rfl
set_option maxRecDepth 100000 in
theorem e_X6_init_0 (a0 : Int) (sh : Int × (Int → Nat × Int)) (h : Int → Int → Int) : q_L 55 0 [(16, a0)] [] (sh, h) = if 0 ≤ (64 : Int) ∧ (64 : Int) ≤ 10000 then (q_L 55 9 [(16, a0)] [(30, sh.1), (16, a0)] ((q_ms sh 30 (64 : Int)), (q_mh sh h (fun _ => 0)))) else none :=
  (q_unL hL_X6_init cu_X6_init 400 0 _ _ _).trans rfl
set_option maxRecDepth 100000 in
theorem e_X6_init_9 (a0 b0 b1 : Int) (sh : Int × (Int → Nat × Int)) (h : Int → Int → Int) : q_L 55 9 [(16, a0)] [(30, b1), (16, b0)] (sh, h) = if 0 ≤ b1 then (some ((9, 0), (sh, q_up h b0 0 b1))) else none :=
  (q_unL hL_X6_init cu_X6_init 400 9 _ _ _).trans rfl
def cu_X6_become : List Nat := [0, 23]
theorem hL_X6_become : q_P 56 = q_find P_X6_become := rfl
theorem c_X6_become (a0 a1 : Int) (s : q_M) : q_Cc 56 [(16, a0), (16, a1)] s = q_L 56 0 [(16, a0), (16, a1)] [] s := rfl
set_option maxRecDepth 100000 in
theorem e_X6_become_0 (a0 a1 : Int) (sh : Int × (Int → Nat × Int)) (h : Int → Int → Int) : q_L 56 0 [(16, a0), (16, a1)] [] (sh, h) = if 0 ≤ (q_up h a0 1 (h a1 1)) a1 0 then (if 0 ≤ (q_up h a0 1 (h a1 1)) a0 0 then (if 0 ≤ (0 : Int) ∧ 0 ≤ (0 : Int) ∧ 0 ≤ (64 : Int) ∧ (0 : Int) + (64 : Int) ≤ (sh.2 ((q_up h a0 1 (h a1 1)) a1 0)).2 ∧ (0 : Int) + (64 : Int) ≤ (sh.2 ((q_up h a0 1 (h a1 1)) a0 0)).2 ∧ 0 ≤ ((q_up h a0 1 (h a1 1)) a1 0) ∧ 0 ≤ ((q_up h a0 1 (h a1 1)) a0 0) then (q_L 56 23 [(16, a0), (16, a1)] [] (sh, q_cp (q_up h a0 1 (h a1 1)) ((q_up h a0 1 (h a1 1)) a1 0) (0 : Int) ((q_up h a0 1 (h a1 1)) a0 0) (0 : Int) (64 : Int))) else none) else none) else none :=
  (q_unL hL_X6_become cu_X6_become 400 0 _ _ _).trans rfl
set_option maxRecDepth 100000 in
theorem e_X6_become_23 (a0 a1 : Int) (sh : Int × (Int → Nat × Int)) (h : Int → Int → Int) : q_L 56 23 [(16, a0), (16, a1)] [] (sh, h) = some ((9, 0), (sh, h)) :=
  (q_unL hL_X6_become cu_X6_become 400 23 _ _ _).trans rfl
def cu_X6_setOdds : List Nat := [0]
theorem hL_X6_setOdds : q_P 57 = q_find P_X6_setOdds := rfl
theorem c_X6_setOdds (a0 a1 a2 : Int) (s : q_M) : q_Cc 57 [(16, a0), (0, a1), (0, a2)] s = q_L 57 0 [(16, a0), (0, a1), (0, a2), (9, 0)] [] s := rfl
set_option maxRecDepth 100000 in
theorem e_X6_setOdds_0 (a0 a1 a2 : Int) (sh : Int × (Int → Nat × Int)) (h : Int → Int → Int) : q_L 57 0 [(16, a0), (0, a1), (0, a2), (9, 0)] [] (sh, h) = if 0 ≤ h a0 0 then (if 0 ≤ a1 ∧ a1 < (sh.2 (h a0 0)).2 then (if 0 ≤ h a0 0 then (if 0 ≤ a1 ∧ a1 < (sh.2 (h a0 0)).2 ∧ 0 ≤ (h a0 0) then (some ((0, h (h a0 0) a1), (sh, q_up (q_up h (h a0 0) a1 a2) a0 1 (q_land ((q_up h (h a0 0) a1 a2) a0 1) (q_lxor (q_lshl (1 : Int) a1) (-1 : Int)))))) else none) else none) else none) else none :=
  (q_unL hL_X6_setOdds cu_X6_setOdds 400 0 _ _ _).trans rfl
def cu_X6_lookNext : List Nat := [0, 8, 25]
theorem hL_X6_lookNext : q_P 58 = q_find P_X6_lookNext := rfl
theorem c_X6_lookNext (a0 : Int) (s : q_M) : q_Cc 58 [(16, a0)] s = q_L 58 0 [(16, a0), (9, 0)] [] s := rfl
set_option maxRecDepth 100000 in
theorem e_X6_lookNext_0 (a0 : Int) (sh : Int × (Int → Nat × Int)) (h : Int → Int → Int) : q_L 58 0 [(16, a0), (9, 0)] [] (sh, h) = (q_Cc 62 [(16, a0), (3, h a0 1)] (sh, h)).bind (fun r => q_L 58 8 [(16, a0), (9, 0)] [r.1] r.2) :=
  (q_unL hL_X6_lookNext cu_X6_lookNext 400 0 _ _ _).trans rfl
set_option maxRecDepth 100000 in
theorem e_X6_lookNext_8 (a0 b0 : Int) (sh : Int × (Int → Nat × Int)) (h : Int → Int → Int) : q_L 58 8 [(16, a0), (9, 0)] [(0, b0)] (sh, h) = if b0 < 0 then (q_L 58 25 [(16, a0), (0, b0)] [] (sh, h)) else (q_L 58 25 [(16, a0), (0, b0)] [] (sh, q_up h a0 1 (q_lor (h a0 1) (q_lshl (1 : Int) b0)))) :=
  (q_unL hL_X6_lookNext cu_X6_lookNext 400 8 _ _ _).trans rfl
set_option maxRecDepth 100000 in
theorem e_X6_lookNext_25 (a0 a1 : Int) (sh : Int × (Int → Nat × Int)) (h : Int → Int → Int) : q_L 58 25 [(16, a0), (0, a1)] [] (sh, h) = some ((0, a1), (sh, h)) :=
  (q_unL hL_X6_lookNext cu_X6_lookNext 400 25 _ _ _).trans rfl
def cu_X6_left : List Nat := [0, 4, 18, 33]
theorem hL_X6_left : q_P 59 = q_find P_X6_left := rfl
theorem c_X6_left (a0 : Int) (s : q_M) : q_Cc 59 [(16, a0)] s = q_L 59 0 [(16, a0), (9, 0), (9, 0)] [] s := rfl
set_option maxRecDepth 100000 in
theorem e_X6_left_0 (a0 : Int) (sh : Int × (Int → Nat × Int)) (h : Int → Int → Int) : q_L 59 0 [(16, a0), (9, 0), (9, 0)] [] (sh, h) = q_L 59 4 [(16, a0), (0, 0), (0, 0)] [] (sh, h) :=
  (q_unL hL_X6_left cu_X6_left 400 0 _ _ _).trans rfl
set_option maxRecDepth 100000 in
theorem e_X6_left_4 (a0 a1 a2 : Int) (sh : Int × (Int → Nat × Int)) (h : Int → Int → Int) : q_L 59 4 [(16, a0), (0, a1), (0, a2)] [] (sh, h) = if a2 < (64 : Int) then ((q_Cc 63 [(0, a2), (3, h a0 1)] (sh, h)).bind (fun r => q_L 59 18 [(16, a0), (0, a1), (0, a2)] [r.1] r.2)) else (some ((0, a1), (sh, h))) :=
  (q_unL hL_X6_left cu_X6_left 400 4 _ _ _).trans rfl
set_option maxRecDepth 100000 in
theorem e_X6_left_18 (a0 a1 a2 b0 : Int) (sh : Int × (Int → Nat × Int)) (h : Int → Int → Int) : q_L 59 18 [(16, a0), (0, a1), (0, a2)] [(0, b0)] (sh, h) = if b0 = 0 then (q_L 59 33 [(16, a0), (0, a1), (0, a2)] [] (sh, h)) else (if 0 ≤ h a0 0 then (if 0 ≤ a2 ∧ a2 < (sh.2 (h a0 0)).2 then (if 0 < (h (h a0 0) a2) then (q_L 59 33 [(16, a0), (0, q_w (a1 + 1)), (0, a2)] [] (sh, h)) else (q_L 59 33 [(16, a0), (0, a1), (0, a2)] [] (sh, h))) else none) else none) :=
  (q_unL hL_X6_left cu_X6_left 400 18 _ _ _).trans rfl
set_option maxRecDepth 100000 in
theorem e_X6_left_33 (a0 a1 a2 : Int) (sh : Int × (Int → Nat × Int)) (h : Int → Int → Int) : q_L 59 33 [(16, a0), (0, a1), (0, a2)] [] (sh, h) = q_L 59 4 [(16, a0), (0, a1), (0, q_w (a2 + 1))] [] (sh, h) :=
  (q_unL hL_X6_left cu_X6_left 400 33 _ _ _).trans rfl
def cu_X6_looksFor : List Nat := [0, 4, 16, 29]
theorem hL_X6_looksFor : q_P 60 = q_find P_X6_looksFor := rfl
theorem c_X6_looksFor (a0 a1 : Int) (s : q_M) : q_Cc 60 [(16, a0), (0, a1)] s = q_L 60 0 [(16, a0), (0, a1), (9, 0), (9, 0), (9, 0), (9, 0), (9, 0), (9, 0)] [] s := rfl
set_option maxRecDepth 100000 in
theorem e_X6_looksFor_0 (a0 a1 : Int) (sh : Int × (Int → Nat × Int)) (h : Int → Int → Int) : q_L 60 0 [(16, a0), (0, a1), (9, 0), (9, 0), (9, 0), (9, 0), (9, 0), (9, 0)] [] (sh, h) = (q_Cc 61 [(16, a0)] (sh, h)).bind (fun r => q_L 60 4 [(16, a0), (0, a1), (9, 0), (9, 0), (9, 0), (9, 0), (9, 0), (9, 0)] [r.1] r.2) :=
  (q_unL hL_X6_looksFor cu_X6_looksFor 400 0 _ _ _).trans rfl
set_option maxRecDepth 100000 in
theorem e_X6_looksFor_4 (a0 a1 b0 : Int) (sh : Int × (Int → Nat × Int)) (h : Int → Int → Int) : q_L 60 4 [(16, a0), (0, a1), (9, 0), (9, 0), (9, 0), (9, 0), (9, 0), (9, 0)] [(0, b0)] (sh, h) = q_L 60 16 [(16, a0), (0, a1), (0, b0), (0, 0), (3, h a0 1), (9, 0), (0, 1), (9, 0)] [] (sh, h) :=
  (q_unL hL_X6_looksFor cu_X6_looksFor 400 4 _ _ _).trans rfl
set_option maxRecDepth 100000 in
theorem e_X6_looksFor_16 (a0 a1 a2 a3 a4 a6 : Int) (x7 : q_V) (sh : Int × (Int → Nat × Int)) (h : Int → Int → Int) : q_L 60 16 [(16, a0), (0, a1), (0, a2), (0, a3), (3, a4), (9, 0), (0, a6), x7] [] (sh, h) = if (64 : Int) < a6 then (some ((0, (-1)), (sh, h))) else ((q_Cc 62 [(16, a0), (3, a4)] (sh, h)).bind (fun r => q_L 60 29 [(16, a0), (0, a1), (0, a2), (0, a3), (3, a4), (9, 0), (0, a6), x7] [r.1] r.2)) :=
  (q_unL hL_X6_looksFor cu_X6_looksFor 400 16 _ _ _).trans rfl
set_option maxRecDepth 100000 in
theorem e_X6_looksFor_29 (a0 a1 a2 a3 a4 a6 b0 : Int) (x7 : q_V) (sh : Int × (Int → Nat × Int)) (h : Int → Int → Int) : q_L 60 29 [(16, a0), (0, a1), (0, a2), (0, a3), (3, a4), (9, 0), (0, a6), x7] [(0, b0)] (sh, h) = if b0 < 0 then (some ((0, (-1)), (sh, h))) else (if 0 ≤ h a0 0 then (if 0 ≤ b0 ∧ b0 < (sh.2 (h a0 0)).2 then (if (q_mul (q_add a3 (h (h a0 0) b0)) (100 : Int)) < (q_mul a2 a1) then (q_L 60 16 [(16, a0), (0, a1), (0, a2), (0, q_add a3 (h (h a0 0) b0)), (3, q_lor a4 (q_lshl (1 : Int) b0)), (9, 0), (0, q_w (a6 + 1)), (0, b0)] [] (sh, h)) else (some ((0, a6), (sh, h)))) else none) else none) :=
  (q_unL hL_X6_looksFor cu_X6_looksFor 400 29 _ _ _).trans rfl
def cu_X6_oddsLeft : List Nat := [0, 4, 18, 30]
theorem hL_X6_oddsLeft : q_P 61 = q_find P_X6_oddsLeft := rfl
theorem c_X6_oddsLeft (a0 : Int) (s : q_M) : q_Cc 61 [(16, a0)] s = q_L 61 0 [(16, a0), (9, 0), (9, 0)] [] s := rfl
set_option maxRecDepth 100000 in
theorem e_X6_oddsLeft_0 (a0 : Int) (sh : Int × (Int → Nat × Int)) (h : Int → Int → Int) : q_L 61 0 [(16, a0), (9, 0), (9, 0)] [] (sh, h) = q_L 61 4 [(16, a0), (0, 0), (0, 0)] [] (sh, h) :=
  (q_unL hL_X6_oddsLeft cu_X6_oddsLeft 400 0 _ _ _).trans rfl
set_option maxRecDepth 100000 in
theorem e_X6_oddsLeft_4 (a0 a1 a2 : Int) (sh : Int × (Int → Nat × Int)) (h : Int → Int → Int) : q_L 61 4 [(16, a0), (0, a1), (0, a2)] [] (sh, h) = if a2 < (64 : Int) then ((q_Cc 63 [(0, a2), (3, h a0 1)] (sh, h)).bind (fun r => q_L 61 18 [(16, a0), (0, a1), (0, a2)] [r.1] r.2)) else (some ((0, a1), (sh, h))) :=
  (q_unL hL_X6_oddsLeft cu_X6_oddsLeft 400 4 _ _ _).trans rfl
set_option maxRecDepth 100000 in
theorem e_X6_oddsLeft_18 (a0 a1 a2 b0 : Int) (sh : Int × (Int → Nat × Int)) (h : Int → Int → Int) : q_L 61 18 [(16, a0), (0, a1), (0, a2)] [(0, b0)] (sh, h) = if b0 = 0 then (q_L 61 30 [(16, a0), (0, a1), (0, a2)] [] (sh, h)) else (if 0 ≤ h a0 0 then (if 0 ≤ a2 ∧ a2 < (sh.2 (h a0 0)).2 then (q_L 61 30 [(16, a0), (0, q_add a1 (h (h a0 0) a2)), (0, a2)] [] (sh, h)) else none) else none) :=
  (q_unL hL_X6_oddsLeft cu_X6_oddsLeft 400 18 _ _ _).trans rfl
set_option maxRecDepth 100000 in
theorem e_X6_oddsLeft_30 (a0 a1 a2 : Int) (sh : Int × (Int → Nat × Int)) (h : Int → Int → Int) : q_L 61 30 [(16, a0), (0, a1), (0, a2)] [] (sh, h) = q_L 61 4 [(16, a0), (0, a1), (0, q_w (a2 + 1))] [] (sh, h) :=
  (q_unL hL_X6_oddsLeft cu_X6_oddsLeft 400 30 _ _ _).trans rfl
def cu_X6_bestBut : List Nat := [0, 8, 21, 48]
theorem hL_X6_bestBut : q_P 62 = q_find P_X6_bestBut := rfl
theorem c_X6_bestBut (a0 a1 : Int) (s : q_M) : q_Cc 62 [(16, a0), (3, a1)] s = q_L 62 0 [(16, a0), (3, a1), (9, 0), (9, 0), (9, 0), (9, 0)] [] s := rfl
set_option maxRecDepth 100000 in
theorem e_X6_bestBut_0 (a0 a1 : Int) (sh : Int × (Int → Nat × Int)) (h : Int → Int → Int) : q_L 62 0 [(16, a0), (3, a1), (9, 0), (9, 0), (9, 0), (9, 0)] [] (sh, h) = q_L 62 8 [(16, a0), (3, a1), (9, 0), (0, (-1)), (0, 0), (0, 0)] [] (sh, h) :=
  (q_unL hL_X6_bestBut cu_X6_bestBut 400 0 _ _ _).trans rfl
set_option maxRecDepth 100000 in
theorem e_X6_bestBut_8 (a0 a1 a3 a4 a5 : Int) (sh : Int × (Int → Nat × Int)) (h : Int → Int → Int) : q_L 62 8 [(16, a0), (3, a1), (9, 0), (0, a3), (0, a4), (0, a5)] [] (sh, h) = if a5 < (64 : Int) then ((q_Cc 63 [(0, a5), (3, a1)] (sh, h)).bind (fun r => q_L 62 21 [(16, a0), (3, a1), (9, 0), (0, a3), (0, a4), (0, a5)] [r.1] r.2)) else (some ((0, a3), (sh, h))) :=
  (q_unL hL_X6_bestBut cu_X6_bestBut 400 8 _ _ _).trans rfl
set_option maxRecDepth 100000 in
theorem e_X6_bestBut_21 (a0 a1 a3 a4 a5 b0 : Int) (sh : Int × (Int → Nat × Int)) (h : Int → Int → Int) : q_L 62 21 [(16, a0), (3, a1), (9, 0), (0, a3), (0, a4), (0, a5)] [(0, b0)] (sh, h) = if b0 = 0 then (q_L 62 48 [(16, a0), (3, a1), (9, 0), (0, a3), (0, a4), (0, a5)] [] (sh, h)) else (if 0 ≤ h a0 0 then (if 0 ≤ a5 ∧ a5 < (sh.2 (h a0 0)).2 then (if a4 < (h (h a0 0) a5) then (if 0 ≤ h a0 0 then (if 0 ≤ a5 ∧ a5 < (sh.2 (h a0 0)).2 then (q_L 62 48 [(16, a0), (3, a1), (9, 0), (0, a5), (0, h (h a0 0) a5), (0, a5)] [] (sh, h)) else none) else none) else (q_L 62 48 [(16, a0), (3, a1), (9, 0), (0, a3), (0, a4), (0, a5)] [] (sh, h))) else none) else none) :=
  (q_unL hL_X6_bestBut cu_X6_bestBut 400 21 _ _ _).trans rfl
set_option maxRecDepth 100000 in
theorem e_X6_bestBut_48 (a0 a1 a3 a4 a5 : Int) (sh : Int × (Int → Nat × Int)) (h : Int → Int → Int) : q_L 62 48 [(16, a0), (3, a1), (9, 0), (0, a3), (0, a4), (0, a5)] [] (sh, h) = q_L 62 8 [(16, a0), (3, a1), (9, 0), (0, a3), (0, a4), (0, q_w (a5 + 1))] [] (sh, h) :=
  (q_unL hL_X6_bestBut cu_X6_bestBut 400 48 _ _ _).trans rfl
def cu_X6_isOpen : List Nat := [0, 15]
theorem hL_X6_isOpen : q_P 63 = q_find P_X6_isOpen := rfl
theorem c_X6_isOpen (a0 a1 : Int) (s : q_M) : q_Cc 63 [(0, a0), (3, a1)] s = q_L 63 0 [(0, a0), (3, a1), (9, 0)] [] s := rfl
set_option maxRecDepth 100000 in
theorem e_X6_isOpen_0 (a0 a1 : Int) (sh : Int × (Int → Nat × Int)) (h : Int → Int → Int) : q_L 63 0 [(0, a0), (3, a1), (9, 0)] [] (sh, h) = if (if (q_land (q_lshr a1 a0) (1 : Int)) < (0 : Int) then -1 else if (q_land (q_lshr a1 a0) (1 : Int)) = (0 : Int) then 0 else 1) = 0 then (q_L 63 15 [(0, a0), (3, a1), (9, 0)] [(0, 1)] (sh, h)) else (q_L 63 15 [(0, a0), (3, a1), (9, 0)] [(0, 0)] (sh, h)) :=
  (q_unL hL_X6_isOpen cu_X6_isOpen 400 0 _ _ _).trans rfl
set_option maxRecDepth 100000 in
theorem e_X6_isOpen_15 (a0 a1 b0 : Int) (sh : Int × (Int → Nat × Int)) (h : Int → Int → Int) : q_L 63 15 [(0, a0), (3, a1), (9, 0)] [(0, b0)] (sh, h) = if b0 = 0 ∨ b0 = 1 then some ((0, b0), (sh, h)) else none :=
  (q_unL hL_X6_isOpen cu_X6_isOpen 400 15 _ _ _).trans rfl
