def cu_X3_init : List Nat := [0]
theorem hL_X3_init : q_P 26 = q_find P_X3_init := rfl
theorem c_X3_init (a0 : Int) (s : q_M) : q_Cc 26 [(13, a0)] s = q_L 26 0 [(13, a0)] [] s := rfl
set_option maxRecDepth 100000 in
theorem e_X3_init_0 (a0 : Int) (sh : Int × (Int → Nat × Int)) (h : Int → Int → Int) : q_L 26 0 [(13, a0)] [] (sh, h) = some ((9, 0), (sh, h)) :=
  (q_unL hL_X3_init cu_X3_init 400 0 _ _ _).trans rfl
def cu_X3_begin : List Nat := [0]
theorem hL_X3_begin : q_P 27 = q_find P_X3_begin := rfl
theorem c_X3_begin (a0 a1 a2 a3 : Int) (s : q_M) : q_Cc 27 [(13, a0), (0, a1), (0, a2), (0, a3)] s = q_L 27 0 [(13, a0), (0, a1), (0, a2), (0, a3)] [] s := rfl
set_option maxRecDepth 100000 in
theorem e_X3_begin_0 (a0 a1 a2 a3 : Int) (sh : Int × (Int → Nat × Int)) (h : Int → Int → Int) : q_L 27 0 [(13, a0), (0, a1), (0, a2), (0, a3)] [] (sh, h) = if (0 : Int) = 0 ∨ (0 : Int) = 1 then (some ((9, 0), (sh, q_up (q_up (q_up (q_up h a0 0 a1) a0 1 a2) a0 2 a3) a0 3 (0 : Int)))) else none :=
  (q_unL hL_X3_begin cu_X3_begin 400 0 _ _ _).trans rfl
def cu_X3_become : List Nat := [0]
theorem hL_X3_become : q_P 28 = q_find P_X3_become := rfl
theorem c_X3_become (a0 a1 : Int) (s : q_M) : q_Cc 28 [(13, a0), (13, a1)] s = q_L 28 0 [(13, a0), (13, a1)] [] s := rfl
set_option maxRecDepth 100000 in
theorem e_X3_become_0 (a0 a1 : Int) (sh : Int × (Int → Nat × Int)) (h : Int → Int → Int) : q_L 28 0 [(13, a0), (13, a1)] [] (sh, h) = if ((q_up (q_up (q_up h a0 0 (h a1 0)) a0 1 ((q_up h a0 0 (h a1 0)) a1 1)) a0 2 ((q_up (q_up h a0 0 (h a1 0)) a0 1 ((q_up h a0 0 (h a1 0)) a1 1)) a1 2)) a1 3) = 0 ∨ ((q_up (q_up (q_up h a0 0 (h a1 0)) a0 1 ((q_up h a0 0 (h a1 0)) a1 1)) a0 2 ((q_up (q_up h a0 0 (h a1 0)) a0 1 ((q_up h a0 0 (h a1 0)) a1 1)) a1 2)) a1 3) = 1 then (some ((9, 0), (sh, q_up (q_up (q_up (q_up h a0 0 (h a1 0)) a0 1 ((q_up h a0 0 (h a1 0)) a1 1)) a0 2 ((q_up (q_up h a0 0 (h a1 0)) a0 1 ((q_up h a0 0 (h a1 0)) a1 1)) a1 2)) a0 3 ((q_up (q_up (q_up h a0 0 (h a1 0)) a0 1 ((q_up h a0 0 (h a1 0)) a1 1)) a0 2 ((q_up (q_up h a0 0 (h a1 0)) a0 1 ((q_up h a0 0 (h a1 0)) a1 1)) a1 2)) a1 3)))) else none :=
  (q_unL hL_X3_become cu_X3_become 400 0 _ _ _).trans rfl
