def cu_X5_init : List Nat := [0, 8, 15, 22, 29, 36, 43, 51, 59, 67]
theorem hL_X5_init : q_P 35 = q_find P_X5_init := rfl
theorem c_X5_init (a0 : Int) (s : q_M) : q_Cc 35 [(15, a0)] s = q_L 35 0 [(15, a0)] [] s := rfl
set_option maxRecDepth 100000 in
theorem e_X5_init_0 (a0 : Int) (sh : Int × (Int → Nat × Int)) (h : Int → Int → Int) : q_L 35 0 [(15, a0)] [] (sh, h) = if 0 ≤ (5 : Int) ∧ (5 : Int) ≤ 10000 then (q_L 35 8 [(15, a0)] [(30, sh.1), (15, a0)] ((q_ms sh 30 (5 : Int)), (q_mh sh h (fun _ => 0)))) else none :=
  (q_unL hL_X5_init cu_X5_init 400 0 _ _ _).trans rfl
set_option maxRecDepth 100000 in
theorem e_X5_init_8 (a0 b0 b1 : Int) (sh : Int × (Int → Nat × Int)) (h : Int → Int → Int) : q_L 35 8 [(15, a0)] [(30, b1), (15, b0)] (sh, h) = if 0 ≤ b1 then (if 0 ≤ (5 : Int) ∧ (5 : Int) ≤ 10000 then (q_L 35 15 [(15, a0)] [(30, sh.1), (15, a0)] ((q_ms sh 30 (5 : Int)), (q_mh sh (q_up h b0 3 b1) (fun _ => 0)))) else none) else none :=
  (q_unL hL_X5_init cu_X5_init 400 8 _ _ _).trans rfl
set_option maxRecDepth 100000 in
theorem e_X5_init_15 (a0 b0 b1 : Int) (sh : Int × (Int → Nat × Int)) (h : Int → Int → Int) : q_L 35 15 [(15, a0)] [(30, b1), (15, b0)] (sh, h) = if 0 ≤ b1 then (if 0 ≤ (5 : Int) ∧ (5 : Int) ≤ 10000 then (q_L 35 22 [(15, a0)] [(30, sh.1), (15, a0)] ((q_ms sh 30 (5 : Int)), (q_mh sh (q_up h b0 4 b1) (fun _ => 0)))) else none) else none :=
  (q_unL hL_X5_init cu_X5_init 400 15 _ _ _).trans rfl
set_option maxRecDepth 100000 in
theorem e_X5_init_22 (a0 b0 b1 : Int) (sh : Int × (Int → Nat × Int)) (h : Int → Int → Int) : q_L 35 22 [(15, a0)] [(30, b1), (15, b0)] (sh, h) = if 0 ≤ b1 then (if 0 ≤ (5 : Int) ∧ (5 : Int) ≤ 10000 then (q_L 35 29 [(15, a0)] [(30, sh.1), (15, a0)] ((q_ms sh 30 (5 : Int)), (q_mh sh (q_up h b0 5 b1) (fun _ => 0)))) else none) else none :=
  (q_unL hL_X5_init cu_X5_init 400 22 _ _ _).trans rfl
set_option maxRecDepth 100000 in
theorem e_X5_init_29 (a0 b0 b1 : Int) (sh : Int × (Int → Nat × Int)) (h : Int → Int → Int) : q_L 35 29 [(15, a0)] [(30, b1), (15, b0)] (sh, h) = if 0 ≤ b1 then (if 0 ≤ (5 : Int) ∧ (5 : Int) ≤ 10000 then (q_L 35 36 [(15, a0)] [(30, sh.1), (15, a0)] ((q_ms sh 30 (5 : Int)), (q_mh sh (q_up h b0 6 b1) (fun _ => 0)))) else none) else none :=
  (q_unL hL_X5_init cu_X5_init 400 29 _ _ _).trans rfl
set_option maxRecDepth 100000 in
theorem e_X5_init_36 (a0 b0 b1 : Int) (sh : Int × (Int → Nat × Int)) (h : Int → Int → Int) : q_L 35 36 [(15, a0)] [(30, b1), (15, b0)] (sh, h) = if 0 ≤ b1 then (if 0 ≤ (5 : Int) ∧ (5 : Int) ≤ 10000 then (q_L 35 43 [(15, a0)] [(30, sh.1), (15, a0)] ((q_ms sh 30 (5 : Int)), (q_mh sh (q_up h b0 7 b1) (fun _ => 0)))) else none) else none :=
  (q_unL hL_X5_init cu_X5_init 400 36 _ _ _).trans rfl
set_option maxRecDepth 100000 in
theorem e_X5_init_43 (a0 b0 b1 : Int) (sh : Int × (Int → Nat × Int)) (h : Int → Int → Int) : q_L 35 43 [(15, a0)] [(30, b1), (15, b0)] (sh, h) = if 0 ≤ b1 then (if 0 ≤ (6 : Int) ∧ (6 : Int) ≤ 10000 then (q_L 35 51 [(15, a0)] [(30, sh.1), (15, a0)] ((q_ms sh 30 (6 : Int)), (q_mh sh (q_up h b0 8 b1) (fun _ => 0)))) else none) else none :=
  (q_unL hL_X5_init cu_X5_init 400 43 _ _ _).trans rfl
set_option maxRecDepth 100000 in
theorem e_X5_init_51 (a0 b0 b1 : Int) (sh : Int × (Int → Nat × Int)) (h : Int → Int → Int) : q_L 35 51 [(15, a0)] [(30, b1), (15, b0)] (sh, h) = if 0 ≤ b1 then (if 0 ≤ (6 : Int) ∧ (6 : Int) ≤ 10000 then (q_L 35 59 [(15, a0)] [(30, sh.1), (15, a0)] ((q_ms sh 30 (6 : Int)), (q_mh sh (q_up h b0 9 b1) (fun _ => 0)))) else none) else none :=
  (q_unL hL_X5_init cu_X5_init 400 51 _ _ _).trans rfl
set_option maxRecDepth 100000 in
theorem e_X5_init_59 (a0 b0 b1 : Int) (sh : Int × (Int → Nat × Int)) (h : Int → Int → Int) : q_L 35 59 [(15, a0)] [(30, b1), (15, b0)] (sh, h) = if 0 ≤ b1 then (if 0 ≤ (6 : Int) ∧ (6 : Int) ≤ 10000 then (q_L 35 67 [(15, a0)] [(30, sh.1), (15, a0)] ((q_ms sh 30 (6 : Int)), (q_mh sh (q_up h b0 10 b1) (fun _ => 0)))) else none) else none :=
  (q_unL hL_X5_init cu_X5_init 400 59 _ _ _).trans rfl
set_option maxRecDepth 100000 in
theorem e_X5_init_67 (a0 b0 b1 : Int) (sh : Int × (Int → Nat × Int)) (h : Int → Int → Int) : q_L 35 67 [(15, a0)] [(30, b1), (15, b0)] (sh, h) = if 0 ≤ b1 then (some ((9, 0), (sh, q_up h b0 11 b1))) else none :=
  (q_unL hL_X5_init cu_X5_init 400 67 _ _ _).trans rfl
def cu_X5_planWaiting : List Nat := [0, 6, 11]
theorem hL_X5_planWaiting : q_P 36 = q_find P_X5_planWaiting := rfl
theorem c_X5_planWaiting (a0 a1 a2 : Int) (s : q_M) : q_Cc 36 [(15, a0), (20, a1), (0, a2)] s = q_L 36 0 [(15, a0), (20, a1), (0, a2)] [] s := rfl
set_option maxRecDepth 100000 in
theorem e_X5_planWaiting_0 (a0 a1 a2 : Int) (sh : Int × (Int → Nat × Int)) (h : Int → Int → Int) : q_L 36 0 [(15, a0), (20, a1), (0, a2)] [] (sh, h) = (q_Cc 39 [(15, a0), (20, a1), (0, a2)] (sh, h)).bind (fun r => q_L 36 6 [(15, a0), (20, a1), (0, a2)] [] r.2) :=
  (q_unL hL_X5_planWaiting cu_X5_planWaiting 400 0 _ _ _).trans rfl
set_option maxRecDepth 100000 in
theorem e_X5_planWaiting_6 (a0 a1 a2 : Int) (sh : Int × (Int → Nat × Int)) (h : Int → Int → Int) : q_L 36 6 [(15, a0), (20, a1), (0, a2)] [] (sh, h) = (q_Cc 41 [(15, a0), (20, a1)] (sh, h)).bind (fun r => q_L 36 11 [(15, a0), (20, a1), (0, a2)] [] r.2) :=
  (q_unL hL_X5_planWaiting cu_X5_planWaiting 400 6 _ _ _).trans rfl
set_option maxRecDepth 100000 in
theorem e_X5_planWaiting_11 (a0 a1 a2 : Int) (sh : Int × (Int → Nat × Int)) (h : Int → Int → Int) : q_L 36 11 [(15, a0), (20, a1), (0, a2)] [] (sh, h) = some ((9, 0), (sh, h)) :=
  (q_unL hL_X5_planWaiting cu_X5_planWaiting 400 11 _ _ _).trans rfl
def cu_X5_planWithWorth : List Nat := [0, 6, 11, 30, 31, 36]
theorem hL_X5_planWithWorth : q_P 37 = q_find P_X5_planWithWorth := rfl
theorem c_X5_planWithWorth (a0 a1 a2 a3 : Int) (s : q_M) : q_Cc 37 [(15, a0), (20, a1), (0, a2), (0, a3)] s = q_L 37 0 [(15, a0), (20, a1), (0, a2), (0, a3), (9, 0)] [] s := rfl
set_option maxRecDepth 100000 in
theorem e_X5_planWithWorth_0 (a0 a1 a2 a3 : Int) (sh : Int × (Int → Nat × Int)) (h : Int → Int → Int) : q_L 37 0 [(15, a0), (20, a1), (0, a2), (0, a3), (9, 0)] [] (sh, h) = (q_Cc 39 [(15, a0), (20, a1), (0, (-1))] (sh, h)).bind (fun r => q_L 37 6 [(15, a0), (20, a1), (0, a2), (0, a3), (9, 0)] [] r.2) :=
  (q_unL hL_X5_planWithWorth cu_X5_planWithWorth 400 0 _ _ _).trans rfl
set_option maxRecDepth 100000 in
theorem e_X5_planWithWorth_6 (a0 a1 a2 a3 : Int) (sh : Int × (Int → Nat × Int)) (h : Int → Int → Int) : q_L 37 6 [(15, a0), (20, a1), (0, a2), (0, a3), (9, 0)] [] (sh, h) = (q_Cc 54 [(15, a0), (0, a2)] (sh, h)).bind (fun r => q_L 37 11 [(15, a0), (20, a1), (0, a2), (0, a3), (9, 0)] [r.1] r.2) :=
  (q_unL hL_X5_planWithWorth cu_X5_planWithWorth 400 6 _ _ _).trans rfl
set_option maxRecDepth 100000 in
theorem e_X5_planWithWorth_11 (a0 a1 a2 a3 b0 : Int) (sh : Int × (Int → Nat × Int)) (h : Int → Int → Int) : q_L 37 11 [(15, a0), (20, a1), (0, a2), (0, a3), (9, 0)] [(0, b0)] (sh, h) = if b0 < 0 then (q_L 37 31 [(15, a0), (20, a1), (0, a2), (0, a3), (0, b0)] [] (sh, h)) else (if 0 ≤ h a0 4 then ((q_Cc 96 [(20, a1), (0, a2), (0, a3)] (sh, h)).bind (fun r => q_L 37 30 [(15, a0), (20, a1), (0, a2), (0, a3), (0, b0)] [r.1, (0, b0), (30, h a0 4)] r.2)) else none) :=
  (q_unL hL_X5_planWithWorth cu_X5_planWithWorth 400 11 _ _ _).trans rfl
set_option maxRecDepth 100000 in
theorem e_X5_planWithWorth_30 (a0 a1 a2 a3 a4 b0 b1 b2 : Int) (sh : Int × (Int → Nat × Int)) (h : Int → Int → Int) : q_L 37 30 [(15, a0), (20, a1), (0, a2), (0, a3), (0, a4)] [(0, b2), (0, b1), (30, b0)] (sh, h) = if 0 ≤ b1 ∧ b1 < (sh.2 b0).2 ∧ 0 ≤ b0 then (q_L 37 31 [(15, a0), (20, a1), (0, a2), (0, a3), (0, a4)] [] (sh, q_up h b0 b1 b2)) else none :=
  (q_unL hL_X5_planWithWorth cu_X5_planWithWorth 400 30 _ _ _).trans rfl
set_option maxRecDepth 100000 in
theorem e_X5_planWithWorth_31 (a0 a1 a2 a3 a4 : Int) (sh : Int × (Int → Nat × Int)) (h : Int → Int → Int) : q_L 37 31 [(15, a0), (20, a1), (0, a2), (0, a3), (0, a4)] [] (sh, h) = (q_Cc 41 [(15, a0), (20, a1)] (sh, h)).bind (fun r => q_L 37 36 [(15, a0), (20, a1), (0, a2), (0, a3), (0, a4)] [] r.2) :=
  (q_unL hL_X5_planWithWorth cu_X5_planWithWorth 400 31 _ _ _).trans rfl
set_option maxRecDepth 100000 in
theorem e_X5_planWithWorth_36 (a0 a1 a2 a3 a4 : Int) (sh : Int × (Int → Nat × Int)) (h : Int → Int → Int) : q_L 37 36 [(15, a0), (20, a1), (0, a2), (0, a3), (0, a4)] [] (sh, h) = some ((9, 0), (sh, h)) :=
  (q_unL hL_X5_planWithWorth cu_X5_planWithWorth 400 36 _ _ _).trans rfl
def cu_X5_planPair : List Nat := [0, 11, 21, 26]
theorem hL_X5_planPair : q_P 38 = q_find P_X5_planPair := rfl
theorem c_X5_planPair (a0 a1 a2 a3 : Int) (s : q_M) : q_Cc 38 [(15, a0), (20, a1), (0, a2), (0, a3)] s = q_L 38 0 [(15, a0), (20, a1), (0, a2), (0, a3)] [] s := rfl
set_option maxRecDepth 100000 in
theorem e_X5_planPair_0 (a0 a1 a2 a3 : Int) (sh : Int × (Int → Nat × Int)) (h : Int → Int → Int) : q_L 38 0 [(15, a0), (20, a1), (0, a2), (0, a3)] [] (sh, h) = (q_Cc 40 [(15, a0), (20, a1), (0, a2)] (sh, q_up h a0 0 (0 : Int))).bind (fun r => q_L 38 11 [(15, a0), (20, a1), (0, a2), (0, a3)] [] r.2) :=
  (q_unL hL_X5_planPair cu_X5_planPair 400 0 _ _ _).trans rfl
set_option maxRecDepth 100000 in
theorem e_X5_planPair_11 (a0 a1 a2 a3 : Int) (sh : Int × (Int → Nat × Int)) (h : Int → Int → Int) : q_L 38 11 [(15, a0), (20, a1), (0, a2), (0, a3)] [] (sh, h) = if a3 < 0 then (q_L 38 21 [(15, a0), (20, a1), (0, a2), (0, a3)] [] (sh, h)) else ((q_Cc 40 [(15, a0), (20, a1), (0, a3)] (sh, h)).bind (fun r => q_L 38 21 [(15, a0), (20, a1), (0, a2), (0, a3)] [] r.2)) :=
  (q_unL hL_X5_planPair cu_X5_planPair 400 11 _ _ _).trans rfl
set_option maxRecDepth 100000 in
theorem e_X5_planPair_21 (a0 a1 a2 a3 : Int) (sh : Int × (Int → Nat × Int)) (h : Int → Int → Int) : q_L 38 21 [(15, a0), (20, a1), (0, a2), (0, a3)] [] (sh, h) = (q_Cc 41 [(15, a0), (20, a1)] (sh, h)).bind (fun r => q_L 38 26 [(15, a0), (20, a1), (0, a2), (0, a3)] [] r.2) :=
  (q_unL hL_X5_planPair cu_X5_planPair 400 21 _ _ _).trans rfl
set_option maxRecDepth 100000 in
theorem e_X5_planPair_26 (a0 a1 a2 a3 : Int) (sh : Int × (Int → Nat × Int)) (h : Int → Int → Int) : q_L 38 26 [(15, a0), (20, a1), (0, a2), (0, a3)] [] (sh, h) = some ((9, 0), (sh, h)) :=
  (q_unL hL_X5_planPair cu_X5_planPair 400 26 _ _ _).trans rfl
def cu_X5_lookAtWaiting : List Nat := [0, 7, 46, 52]
theorem hL_X5_lookAtWaiting : q_P 39 = q_find P_X5_lookAtWaiting := rfl
theorem c_X5_lookAtWaiting (a0 a1 a2 : Int) (s : q_M) : q_Cc 39 [(15, a0), (20, a1), (0, a2)] s = q_L 39 0 [(15, a0), (20, a1), (0, a2), (9, 0)] [] s := rfl
set_option maxRecDepth 100000 in
theorem e_X5_lookAtWaiting_0 (a0 a1 a2 : Int) (sh : Int × (Int → Nat × Int)) (h : Int → Int → Int) : q_L 39 0 [(15, a0), (20, a1), (0, a2), (9, 0)] [] (sh, h) = q_L 39 7 [(15, a0), (20, a1), (0, a2), (0, 0)] [] (sh, q_up h a0 0 (0 : Int)) :=
  (q_unL hL_X5_lookAtWaiting cu_X5_lookAtWaiting 400 0 _ _ _).trans rfl
set_option maxRecDepth 100000 in
theorem e_X5_lookAtWaiting_7 (a0 a1 a2 a3 : Int) (sh : Int × (Int → Nat × Int)) (h : Int → Int → Int) : q_L 39 7 [(15, a0), (20, a1), (0, a2), (0, a3)] [] (sh, h) = if a3 < (h a1 3) then (if (h a0 0) < (5 : Int) then (if a3 = a2 then (q_L 39 46 [(15, a0), (20, a1), (0, a2), (0, a3)] [] (sh, h)) else (if 0 ≤ h a1 7 then (if 0 ≤ a3 ∧ a3 < (sh.2 (h a1 7)).2 ∧ 0 ≤ h (h a1 7) a3 then (if (h (h (h a1 7) a3) 6) = 0 then ((q_Cc 40 [(15, a0), (20, a1), (0, a3)] (sh, h)).bind (fun r => q_L 39 46 [(15, a0), (20, a1), (0, a2), (0, a3)] [] r.2)) else (q_L 39 46 [(15, a0), (20, a1), (0, a2), (0, a3)] [] (sh, h))) else none) else none)) else (q_L 39 52 [(15, a0), (20, a1), (0, a2), (0, a3)] [] (sh, h))) else (q_L 39 52 [(15, a0), (20, a1), (0, a2), (0, a3)] [] (sh, h)) :=
  (q_unL hL_X5_lookAtWaiting cu_X5_lookAtWaiting 400 7 _ _ _).trans rfl
set_option maxRecDepth 100000 in
theorem e_X5_lookAtWaiting_46 (a0 a1 a2 a3 : Int) (sh : Int × (Int → Nat × Int)) (h : Int → Int → Int) : q_L 39 46 [(15, a0), (20, a1), (0, a2), (0, a3)] [] (sh, h) = q_L 39 7 [(15, a0), (20, a1), (0, a2), (0, q_w (a3 + 1))] [] (sh, h) :=
  (q_unL hL_X5_lookAtWaiting cu_X5_lookAtWaiting 400 46 _ _ _).trans rfl
set_option maxRecDepth 100000 in
theorem e_X5_lookAtWaiting_52 (a0 a1 a2 a3 : Int) (sh : Int × (Int → Nat × Int)) (h : Int → Int → Int) : q_L 39 52 [(15, a0), (20, a1), (0, a2), (0, a3)] [] (sh, h) = some ((9, 0), (sh, h)) :=
  (q_unL hL_X5_lookAtWaiting cu_X5_lookAtWaiting 400 52 _ _ _).trans rfl
def cu_X5_lookAt : List Nat := [0, 32]
theorem hL_X5_lookAt : q_P 40 = q_find P_X5_lookAt := rfl
theorem c_X5_lookAt (a0 a1 a2 : Int) (s : q_M) : q_Cc 40 [(15, a0), (20, a1), (0, a2)] s = q_L 40 0 [(15, a0), (20, a1), (0, a2)] [] s := rfl
set_option maxRecDepth 100000 in
theorem e_X5_lookAt_0 (a0 a1 a2 : Int) (sh : Int × (Int → Nat × Int)) (h : Int → Int → Int) : q_L 40 0 [(15, a0), (20, a1), (0, a2)] [] (sh, h) = if 0 ≤ h a0 3 then (if 0 ≤ (h a0 0) ∧ (h a0 0) < (sh.2 (h a0 3)).2 ∧ 0 ≤ (h a0 3) then (if 0 ≤ (q_up h (h a0 3) (h a0 0) a2) a0 4 then (if 0 ≤ (q_up h (h a0 3) (h a0 0) a2) a1 7 then (if 0 ≤ a2 ∧ a2 < (sh.2 ((q_up h (h a0 3) (h a0 0) a2) a1 7)).2 ∧ 0 ≤ (q_up h (h a0 3) (h a0 0) a2) ((q_up h (h a0 3) (h a0 0) a2) a1 7) a2 then ((q_Cc 96 [(20, a1), (0, a2), (0, (q_up h (h a0 3) (h a0 0) a2) ((q_up h (h a0 3) (h a0 0) a2) ((q_up h (h a0 3) (h a0 0) a2) a1 7) a2) 5)] (sh, q_up h (h a0 3) (h a0 0) a2)).bind (fun r => q_L 40 32 [(15, a0), (20, a1), (0, a2)] [r.1, (0, (q_up h (h a0 3) (h a0 0) a2) a0 0), (30, (q_up h (h a0 3) (h a0 0) a2) a0 4)] r.2)) else none) else none) else none) else none) else none :=
  (q_unL hL_X5_lookAt cu_X5_lookAt 400 0 _ _ _).trans rfl
set_option maxRecDepth 100000 in
theorem e_X5_lookAt_32 (a0 a1 a2 b0 b1 b2 : Int) (sh : Int × (Int → Nat × Int)) (h : Int → Int → Int) : q_L 40 32 [(15, a0), (20, a1), (0, a2)] [(0, b2), (0, b1), (30, b0)] (sh, h) = if 0 ≤ b1 ∧ b1 < (sh.2 b0).2 ∧ 0 ≤ b0 then (some ((9, 0), (sh, q_up (q_up h b0 b1 b2) a0 0 (q_add ((q_up h b0 b1 b2) a0 0) (1 : Int))))) else none :=
  (q_unL hL_X5_lookAt cu_X5_lookAt 400 32 _ _ _).trans rfl
def cu_X5_solve : List Nat := [0, 5, 10, 28]
theorem hL_X5_solve : q_P 41 = q_find P_X5_solve := rfl
theorem c_X5_solve (a0 a1 : Int) (s : q_M) : q_Cc 41 [(15, a0), (20, a1)] s = q_L 41 0 [(15, a0), (20, a1)] [] s := rfl
set_option maxRecDepth 100000 in
theorem e_X5_solve_0 (a0 a1 : Int) (sh : Int × (Int → Nat × Int)) (h : Int → Int → Int) : q_L 41 0 [(15, a0), (20, a1)] [] (sh, h) = (q_Cc 44 [(15, a0), (20, a1)] (sh, h)).bind (fun r => q_L 41 5 [(15, a0), (20, a1)] [] r.2) :=
  (q_unL hL_X5_solve cu_X5_solve 400 0 _ _ _).trans rfl
set_option maxRecDepth 100000 in
theorem e_X5_solve_5 (a0 a1 : Int) (sh : Int × (Int → Nat × Int)) (h : Int → Int → Int) : q_L 41 5 [(15, a0), (20, a1)] [] (sh, h) = (q_Cc 42 [(15, a0), (20, a1)] (sh, h)).bind (fun r => q_L 41 10 [(15, a0), (20, a1)] [] r.2) :=
  (q_unL hL_X5_solve cu_X5_solve 400 5 _ _ _).trans rfl
set_option maxRecDepth 100000 in
theorem e_X5_solve_10 (a0 a1 : Int) (sh : Int × (Int → Nat × Int)) (h : Int → Int → Int) : q_L 41 10 [(15, a0), (20, a1)] [] (sh, h) = (q_Cc 306 [(15, a0), (20, a1), (0, 0), (0, 0), (0, 0)] (sh, q_up (q_up h a0 1 (-1 : Int)) a0 2 (0 : Int))).bind (fun r => q_L 41 28 [(15, a0), (20, a1)] [] r.2) :=
  (q_unL hL_X5_solve cu_X5_solve 400 10 _ _ _).trans rfl
set_option maxRecDepth 100000 in
theorem e_X5_solve_28 (a0 a1 : Int) (sh : Int × (Int → Nat × Int)) (h : Int → Int → Int) : q_L 41 28 [(15, a0), (20, a1)] [] (sh, h) = some ((9, 0), (sh, h)) :=
  (q_unL hL_X5_solve cu_X5_solve 400 28 _ _ _).trans rfl
def cu_X5_findRest : List Nat := [0, 27, 46, 53, 54, 82, 106]
theorem hL_X5_findRest : q_P 42 = q_find P_X5_findRest := rfl
theorem c_X5_findRest (a0 a1 : Int) (s : q_M) : q_Cc 42 [(15, a0), (20, a1)] s = q_L 42 0 [(15, a0), (20, a1), (9, 0), (9, 0)] [] s := rfl
set_option maxRecDepth 100000 in
theorem e_X5_findRest_0 (a0 a1 : Int) (sh : Int × (Int → Nat × Int)) (h : Int → Int → Int) : q_L 42 0 [(15, a0), (20, a1), (9, 0), (9, 0)] [] (sh, h) = if 0 ≤ h a0 9 then (if 0 ≤ (h a0 0) ∧ (h a0 0) < (sh.2 (h a0 9)).2 ∧ 0 ≤ (h a0 9) then (if 0 ≤ (q_up h (h a0 9) (h a0 0) (0 : Int)) a0 10 then (if 0 ≤ ((q_up h (h a0 9) (h a0 0) (0 : Int)) a0 0) ∧ ((q_up h (h a0 9) (h a0 0) (0 : Int)) a0 0) < (sh.2 ((q_up h (h a0 9) (h a0 0) (0 : Int)) a0 10)).2 ∧ 0 ≤ ((q_up h (h a0 9) (h a0 0) (0 : Int)) a0 10) then (q_L 42 27 [(15, a0), (20, a1), (0, q_sub ((q_up (q_up h (h a0 9) (h a0 0) (0 : Int)) ((q_up h (h a0 9) (h a0 0) (0 : Int)) a0 10) ((q_up h (h a0 9) (h a0 0) (0 : Int)) a0 0) (0 : Int)) a0 0) (1 : Int)), (9, 0)] [] (sh, q_up (q_up h (h a0 9) (h a0 0) (0 : Int)) ((q_up h (h a0 9) (h a0 0) (0 : Int)) a0 10) ((q_up h (h a0 9) (h a0 0) (0 : Int)) a0 0) (0 : Int))) else none) else none) else none) else none :=
  (q_unL hL_X5_findRest cu_X5_findRest 400 0 _ _ _).trans rfl
set_option maxRecDepth 100000 in
theorem e_X5_findRest_27 (a0 a1 a2 : Int) (x3 : q_V) (sh : Int × (Int → Nat × Int)) (h : Int → Int → Int) : q_L 42 27 [(15, a0), (20, a1), (0, a2), x3] [] (sh, h) = if a2 < 0 then (some ((9, 0), (sh, h))) else (if 0 ≤ h a0 4 then (if 0 ≤ a2 ∧ a2 < (sh.2 (h a0 4)).2 then (if 0 < (h (h a0 4) a2) then ((q_Cc 43 [(15, a0), (20, a1), (0, a2)] (sh, h)).bind (fun r => q_L 42 46 [(15, a0), (20, a1), (0, a2), x3] [r.1] r.2)) else (q_L 42 53 [(15, a0), (20, a1), (0, a2), x3] [] (sh, h))) else none) else none) :=
  (q_unL hL_X5_findRest cu_X5_findRest 400 27 _ _ _).trans rfl
set_option maxRecDepth 100000 in
theorem e_X5_findRest_46 (a0 a1 a2 b0 : Int) (x3 : q_V) (sh : Int × (Int → Nat × Int)) (h : Int → Int → Int) : q_L 42 46 [(15, a0), (20, a1), (0, a2), x3] [(0, b0)] (sh, h) = if b0 = 0 then (q_L 42 53 [(15, a0), (20, a1), (0, a2), x3] [] (sh, h)) else (q_L 42 54 [(15, a0), (20, a1), (0, a2), x3] [(0, 1)] (sh, h)) :=
  (q_unL hL_X5_findRest cu_X5_findRest 400 46 _ _ _).trans rfl
set_option maxRecDepth 100000 in
theorem e_X5_findRest_53 (a0 a1 a2 : Int) (x3 : q_V) (sh : Int × (Int → Nat × Int)) (h : Int → Int → Int) : q_L 42 53 [(15, a0), (20, a1), (0, a2), x3] [] (sh, h) = q_L 42 54 [(15, a0), (20, a1), (0, a2), x3] [(0, 0)] (sh, h) :=
  (q_unL hL_X5_findRest cu_X5_findRest 400 53 _ _ _).trans rfl
set_option maxRecDepth 100000 in
theorem e_X5_findRest_54 (a0 a1 a2 b0 : Int) (x3 : q_V) (sh : Int × (Int → Nat × Int)) (h : Int → Int → Int) : q_L 42 54 [(15, a0), (20, a1), (0, a2), x3] [(0, b0)] (sh, h) = if 0 ≤ h a0 9 then (if 0 ≤ h a0 9 then (if 0 ≤ (q_add a2 (1 : Int)) ∧ (q_add a2 (1 : Int)) < (sh.2 (h a0 9)).2 then (if b0 = 0 then (q_L 42 82 [(15, a0), (20, a1), (0, a2), (0, b0)] [(0, 0), (0, h (h a0 9) (q_add a2 (1 : Int))), (0, a2), (30, h a0 9)] (sh, h)) else (if 0 ≤ h a0 4 then (if 0 ≤ a2 ∧ a2 < (sh.2 (h a0 4)).2 then (q_L 42 82 [(15, a0), (20, a1), (0, a2), (0, b0)] [(0, h (h a0 4) a2), (0, h (h a0 9) (q_add a2 (1 : Int))), (0, a2), (30, h a0 9)] (sh, h)) else none) else none)) else none) else none) else none :=
  (q_unL hL_X5_findRest cu_X5_findRest 400 54 _ _ _).trans rfl
set_option maxRecDepth 100000 in
theorem e_X5_findRest_82 (a0 a1 a2 a3 b0 b1 b2 b3 : Int) (sh : Int × (Int → Nat × Int)) (h : Int → Int → Int) : q_L 42 82 [(15, a0), (20, a1), (0, a2), (0, a3)] [(0, b3), (0, b2), (0, b1), (30, b0)] (sh, h) = if 0 ≤ b1 ∧ b1 < (sh.2 b0).2 ∧ 0 ≤ b0 then (if 0 ≤ (q_up h b0 b1 (q_add b2 b3)) a0 10 then (if 0 ≤ (q_up h b0 b1 (q_add b2 b3)) a0 10 then (if 0 ≤ (q_add a2 (1 : Int)) ∧ (q_add a2 (1 : Int)) < (sh.2 ((q_up h b0 b1 (q_add b2 b3)) a0 10)).2 then (if a3 = 0 then (q_L 42 106 [(15, a0), (20, a1), (0, a2), (0, a3)] [(0, 0), (0, (q_up h b0 b1 (q_add b2 b3)) ((q_up h b0 b1 (q_add b2 b3)) a0 10) (q_add a2 (1 : Int))), (0, a2), (30, (q_up h b0 b1 (q_add b2 b3)) a0 10)] (sh, q_up h b0 b1 (q_add b2 b3))) else (q_L 42 106 [(15, a0), (20, a1), (0, a2), (0, a3)] [(0, 1), (0, (q_up h b0 b1 (q_add b2 b3)) ((q_up h b0 b1 (q_add b2 b3)) a0 10) (q_add a2 (1 : Int))), (0, a2), (30, (q_up h b0 b1 (q_add b2 b3)) a0 10)] (sh, q_up h b0 b1 (q_add b2 b3)))) else none) else none) else none) else none :=
  (q_unL hL_X5_findRest cu_X5_findRest 400 82 _ _ _).trans rfl
set_option maxRecDepth 100000 in
theorem e_X5_findRest_106 (a0 a1 a2 a3 b0 b1 b2 b3 : Int) (sh : Int × (Int → Nat × Int)) (h : Int → Int → Int) : q_L 42 106 [(15, a0), (20, a1), (0, a2), (0, a3)] [(0, b3), (0, b2), (0, b1), (30, b0)] (sh, h) = if 0 ≤ b1 ∧ b1 < (sh.2 b0).2 ∧ 0 ≤ b0 then (q_L 42 27 [(15, a0), (20, a1), (0, q_w (a2 + (-1))), (0, a3)] [] (sh, q_up h b0 b1 (q_add b2 b3))) else none :=
  (q_unL hL_X5_findRest cu_X5_findRest 400 106 _ _ _).trans rfl
def cu_X5_canStand : List Nat := [0, 2, 17]
theorem hL_X5_canStand : q_P 43 = q_find P_X5_canStand := rfl
theorem c_X5_canStand (a0 a1 a2 : Int) (s : q_M) : q_Cc 43 [(15, a0), (20, a1), (0, a2)] s = q_L 43 0 [(15, a0), (20, a1), (0, a2), (9, 0)] [] s := rfl
set_option maxRecDepth 100000 in
theorem e_X5_canStand_0 (a0 a1 a2 : Int) (sh : Int × (Int → Nat × Int)) (h : Int → Int → Int) : q_L 43 0 [(15, a0), (20, a1), (0, a2), (9, 0)] [] (sh, h) = q_L 43 2 [(15, a0), (20, a1), (0, a2), (0, 0)] [] (sh, h) :=
  (q_unL hL_X5_canStand cu_X5_canStand 400 0 _ _ _).trans rfl
set_option maxRecDepth 100000 in
theorem e_X5_canStand_2 (a0 a1 a2 a3 : Int) (sh : Int × (Int → Nat × Int)) (h : Int → Int → Int) : q_L 43 2 [(15, a0), (20, a1), (0, a2), (0, a3)] [] (sh, h) = if a3 < (h a1 1) then ((q_Cc 48 [(15, a0), (20, a1), (0, a2), (0, a3)] (sh, h)).bind (fun r => q_L 43 17 [(15, a0), (20, a1), (0, a2), (0, a3)] [r.1] r.2)) else (some ((0, 0), (sh, h))) :=
  (q_unL hL_X5_canStand cu_X5_canStand 400 2 _ _ _).trans rfl
set_option maxRecDepth 100000 in
theorem e_X5_canStand_17 (a0 a1 a2 a3 b0 : Int) (sh : Int × (Int → Nat × Int)) (h : Int → Int → Int) : q_L 43 17 [(15, a0), (20, a1), (0, a2), (0, a3)] [(0, b0)] (sh, h) = if b0 < 0 then (q_L 43 2 [(15, a0), (20, a1), (0, a2), (0, q_w (a3 + 1))] [] (sh, h)) else (some ((0, 1), (sh, h))) :=
  (q_unL hL_X5_canStand cu_X5_canStand 400 17 _ _ _).trans rfl
def cu_X5_findEnds : List Nat := [0, 2, 23, 54, 82, 86]
theorem hL_X5_findEnds : q_P 44 = q_find P_X5_findEnds := rfl
theorem c_X5_findEnds (a0 a1 : Int) (s : q_M) : q_Cc 44 [(15, a0), (20, a1)] s = q_L 44 0 [(15, a0), (20, a1), (9, 0), (9, 0)] [] s := rfl
set_option maxRecDepth 100000 in
theorem e_X5_findEnds_0 (a0 a1 : Int) (sh : Int × (Int → Nat × Int)) (h : Int → Int → Int) : q_L 44 0 [(15, a0), (20, a1), (9, 0), (9, 0)] [] (sh, h) = q_L 44 2 [(15, a0), (20, a1), (0, 0), (9, 0)] [] (sh, h) :=
  (q_unL hL_X5_findEnds cu_X5_findEnds 400 0 _ _ _).trans rfl
set_option maxRecDepth 100000 in
theorem e_X5_findEnds_2 (a0 a1 a2 : Int) (sh : Int × (Int → Nat × Int)) (h : Int → Int → Int) : q_L 44 2 [(15, a0), (20, a1), (0, a2), (9, 0)] [] (sh, h) = if a2 < (6 : Int) then (if 0 ≤ h a0 11 then (if 0 ≤ a2 ∧ a2 < (sh.2 (h a0 11)).2 ∧ 0 ≤ (h a0 11) then (q_L 44 2 [(15, a0), (20, a1), (0, q_w (a2 + 1)), (9, 0)] [] (sh, q_up h (h a0 11) a2 (-1 : Int))) else none) else none) else (q_L 44 23 [(15, a0), (20, a1), (0, 0), (9, 0)] [] (sh, h)) :=
  (q_unL hL_X5_findEnds cu_X5_findEnds 400 2 _ _ _).trans rfl
set_option maxRecDepth 100000 in
theorem e_X5_findEnds_23 (a0 a1 a2 : Int) (x3 : q_V) (sh : Int × (Int → Nat × Int)) (h : Int → Int → Int) : q_L 44 23 [(15, a0), (20, a1), (0, a2), x3] [] (sh, h) = if a2 < (h a1 3) then (if 0 ≤ h a1 7 then (if 0 ≤ a2 ∧ a2 < (sh.2 (h a1 7)).2 ∧ 0 ≤ h (h a1 7) a2 then (if (h (h (h a1 7) a2) 6) = (1 : Int) then (q_L 44 54 [(15, a0), (20, a1), (0, a2), (10, h (h a1 7) a2)] [] (sh, h)) else (if (h (h (h a1 7) a2) 6) = (2 : Int) then (q_L 44 54 [(15, a0), (20, a1), (0, a2), (10, h (h a1 7) a2)] [] (sh, h)) else (q_L 44 86 [(15, a0), (20, a1), (0, a2), (10, h (h a1 7) a2)] [] (sh, h)))) else none) else none) else (some ((9, 0), (sh, h))) :=
  (q_unL hL_X5_findEnds cu_X5_findEnds 400 23 _ _ _).trans rfl
set_option maxRecDepth 100000 in
theorem e_X5_findEnds_54 (a0 a1 a2 a3 : Int) (sh : Int × (Int → Nat × Int)) (h : Int → Int → Int) : q_L 44 54 [(15, a0), (20, a1), (0, a2), (10, a3)] [] (sh, h) = if (h a3 7) < 0 then (q_L 44 86 [(15, a0), (20, a1), (0, a2), (10, a3)] [] (sh, h)) else (if 0 ≤ h a0 11 then (if 0 ≤ h a0 11 then (if 0 ≤ (h a3 7) ∧ (h a3 7) < (sh.2 (h a0 11)).2 then ((q_Cc 5 [(10, a3)] (sh, h)).bind (fun r => q_L 44 82 [(15, a0), (20, a1), (0, a2), (10, a3)] [r.1, (0, h (h a0 11) (h a3 7)), (0, h a3 7), (30, h a0 11)] r.2)) else none) else none) else none) :=
  (q_unL hL_X5_findEnds cu_X5_findEnds 400 54 _ _ _).trans rfl
set_option maxRecDepth 100000 in
theorem e_X5_findEnds_82 (a0 a1 a2 a3 b0 b1 b2 b3 : Int) (sh : Int × (Int → Nat × Int)) (h : Int → Int → Int) : q_L 44 82 [(15, a0), (20, a1), (0, a2), (10, a3)] [(0, b3), (0, b2), (0, b1), (30, b0)] (sh, h) = if 0 ≤ b1 ∧ b1 < (sh.2 b0).2 ∧ 0 ≤ b0 then (q_L 44 86 [(15, a0), (20, a1), (0, a2), (10, a3)] [] (sh, q_up h b0 b1 (if b2 < b3 then b3 else b2))) else none :=
  (q_unL hL_X5_findEnds cu_X5_findEnds 400 82 _ _ _).trans rfl
set_option maxRecDepth 100000 in
theorem e_X5_findEnds_86 (a0 a1 a2 a3 : Int) (sh : Int × (Int → Nat × Int)) (h : Int → Int → Int) : q_L 44 86 [(15, a0), (20, a1), (0, a2), (10, a3)] [] (sh, h) = q_L 44 23 [(15, a0), (20, a1), (0, q_w (a2 + 1)), (10, a3)] [] (sh, h) :=
  (q_unL hL_X5_findEnds cu_X5_findEnds 400 86 _ _ _).trans rfl
def cu_X5_tryFrom : List Nat := [0, 8, 27, 31, 48, 124, 133, 164]
theorem hL_X5_tryFrom (j : Nat) (hj : j ≤ 6) : q_P (300 + j) = q_find (P_X5_tryFrom j) := by
  funext pc
  unfold q_P q_code
  rw [if_neg (by omega), if_pos (by omega), show 300 + j - 300 = j by omega]
theorem c_X5_tryFrom (j : Nat) (hj : j ≤ 6) (a0 a1 a2 a3 a4 : Int) (s : q_M) : q_Cc (300 + j) [(15, a0), (20, a1), (0, a2), (0, a3), (0, a4)] s = q_L (300 + j) 0 [(15, a0), (20, a1), (0, a2), (0, a3), (0, a4), (9, 0), (9, 0), (9, 0)] [] s := by
  have e : q_mx (300 + j) = 8 := by unfold q_mx; rw [q_I_tf _ (by omega)]
  unfold q_Cc q_call q_ca
  rw [e]
  rfl
set_option maxRecDepth 100000 in
theorem e_X5_tryFrom_0 (j : Nat) (hj : j ≤ 6) (a0 a1 a2 a3 a4 : Int) (sh : Int × (Int → Nat × Int)) (h : Int → Int → Int) : q_L (300 + j) 0 [(15, a0), (20, a1), (0, a2), (0, a3), (0, a4), (9, 0), (9, 0), (9, 0)] [] (sh, h) = (q_Cc 46 [(15, a0), (0, a2), (0, a3), (0, a4)] (sh, h)).bind (fun r => q_L (300 + j) 8 [(15, a0), (20, a1), (0, a2), (0, a3), (0, a4), (9, 0), (9, 0), (9, 0)] [r.1] r.2) :=
  (q_unL (hL_X5_tryFrom j hj) cu_X5_tryFrom 400 0 _ _ _).trans rfl
set_option maxRecDepth 100000 in
theorem e_X5_tryFrom_8 (j : Nat) (hj : j ≤ 6) (a0 a1 a2 a3 a4 b0 : Int) (sh : Int × (Int → Nat × Int)) (h : Int → Int → Int) : q_L (300 + j) 8 [(15, a0), (20, a1), (0, a2), (0, a3), (0, a4), (9, 0), (9, 0), (9, 0)] [(0, b0)] (sh, h) = if b0 = 0 then (some ((9, 0), (sh, h))) else (if a2 < (h a0 0) then (q_L (300 + j) 31 [(15, a0), (20, a1), (0, a2), (0, a3), (0, a4), (0, 0), (9, 0), (9, 0)] [] (sh, h)) else ((q_Cc 47 [(15, a0), (0, a3), (0, a4)] (sh, h)).bind (fun r => q_L (300 + j) 27 [(15, a0), (20, a1), (0, a2), (0, a3), (0, a4), (9, 0), (9, 0), (9, 0)] [] r.2))) :=
  (q_unL (hL_X5_tryFrom j hj) cu_X5_tryFrom 400 8 _ _ _).trans rfl
set_option maxRecDepth 100000 in
theorem e_X5_tryFrom_27 (j : Nat) (hj : j ≤ 6) (a0 a1 a2 a3 a4 : Int) (sh : Int × (Int → Nat × Int)) (h : Int → Int → Int) : q_L (300 + j) 27 [(15, a0), (20, a1), (0, a2), (0, a3), (0, a4), (9, 0), (9, 0), (9, 0)] [] (sh, h) = some ((9, 0), (sh, h)) :=
  (q_unL (hL_X5_tryFrom j hj) cu_X5_tryFrom 400 27 _ _ _).trans rfl
set_option maxRecDepth 100000 in
theorem e_X5_tryFrom_31 (j : Nat) (hj : j ≤ 6) (a0 a1 a2 a3 a4 a5 : Int) (x6 x7 : q_V) (sh : Int × (Int → Nat × Int)) (h : Int → Int → Int) : q_L (300 + j) 31 [(15, a0), (20, a1), (0, a2), (0, a3), (0, a4), (0, a5), x6, x7] [] (sh, h) = if a5 < (h a1 1) then ((q_Cc 48 [(15, a0), (20, a1), (0, a2), (0, a5)] (sh, h)).bind (fun r => q_L (300 + j) 48 [(15, a0), (20, a1), (0, a2), (0, a3), (0, a4), (0, a5), x6, x7] [r.1] r.2)) else (if 0 ≤ h a0 5 then (if 0 ≤ a2 ∧ a2 < (sh.2 (h a0 5)).2 ∧ 0 ≤ (h a0 5) then (if 0 ≤ (q_up h (h a0 5) a2 (-1 : Int)) a0 6 then (if 0 ≤ a2 ∧ a2 < (sh.2 ((q_up h (h a0 5) a2 (-1 : Int)) a0 6)).2 ∧ 0 ≤ ((q_up h (h a0 5) a2 (-1 : Int)) a0 6) then ((q_Cc (299 + j) [(15, a0), (20, a1), (0, q_add a2 (1 : Int)), (0, a3), (0, a4)] (sh, q_up (q_up h (h a0 5) a2 (-1 : Int)) ((q_up h (h a0 5) a2 (-1 : Int)) a0 6) a2 (-1 : Int))).bind (fun r => q_L (300 + j) 164 [(15, a0), (20, a1), (0, a2), (0, a3), (0, a4), (0, a5), x6, x7] [] r.2)) else none) else none) else none) else none) :=
  (q_unL (hL_X5_tryFrom j hj) cu_X5_tryFrom 400 31 _ _ _).trans rfl
set_option maxRecDepth 100000 in
theorem e_X5_tryFrom_48 (j : Nat) (hj : j ≤ 6) (a0 a1 a2 a3 a4 a5 b0 : Int) (x6 x7 : q_V) (sh : Int × (Int → Nat × Int)) (h : Int → Int → Int) : q_L (300 + j) 48 [(15, a0), (20, a1), (0, a2), (0, a3), (0, a4), (0, a5), x6, x7] [(0, b0)] (sh, h) = if b0 < 0 then (q_L (300 + j) 133 [(15, a0), (20, a1), (0, a2), (0, a3), (0, a4), (0, a5), (0, b0), x7] [] (sh, h)) else (if 0 ≤ h a0 11 then (if 0 ≤ a5 ∧ a5 < (sh.2 (h a0 11)).2 then (if 0 ≤ h a0 5 then (if 0 ≤ a2 ∧ a2 < (sh.2 (h a0 5)).2 ∧ 0 ≤ (h a0 5) then (if 0 ≤ (q_up h (h a0 5) a2 a5) a0 6 then (if 0 ≤ a2 ∧ a2 < (sh.2 ((q_up h (h a0 5) a2 a5) a0 6)).2 ∧ 0 ≤ ((q_up h (h a0 5) a2 a5) a0 6) then (if 0 ≤ (q_up (q_up h (h a0 5) a2 a5) ((q_up h (h a0 5) a2 a5) a0 6) a2 b0) a0 11 then (if 0 ≤ (q_up (q_up h (h a0 5) a2 a5) ((q_up h (h a0 5) a2 a5) a0 6) a2 b0) a1 7 then (if 0 ≤ (q_up (q_up h (h a0 5) a2 a5) ((q_up h (h a0 5) a2 a5) a0 6) a2 b0) a0 3 then (if 0 ≤ a2 ∧ a2 < (sh.2 ((q_up (q_up h (h a0 5) a2 a5) ((q_up h (h a0 5) a2 a5) a0 6) a2 b0) a0 3)).2 then (if 0 ≤ ((q_up (q_up h (h a0 5) a2 a5) ((q_up h (h a0 5) a2 a5) a0 6) a2 b0) ((q_up (q_up h (h a0 5) a2 a5) ((q_up h (h a0 5) a2 a5) a0 6) a2 b0) a0 3) a2) ∧ ((q_up (q_up h (h a0 5) a2 a5) ((q_up h (h a0 5) a2 a5) a0 6) a2 b0) ((q_up (q_up h (h a0 5) a2 a5) ((q_up h (h a0 5) a2 a5) a0 6) a2 b0) a0 3) a2) < (sh.2 ((q_up (q_up h (h a0 5) a2 a5) ((q_up h (h a0 5) a2 a5) a0 6) a2 b0) a1 7)).2 ∧ 0 ≤ (q_up (q_up h (h a0 5) a2 a5) ((q_up h (h a0 5) a2 a5) a0 6) a2 b0) ((q_up (q_up h (h a0 5) a2 a5) ((q_up h (h a0 5) a2 a5) a0 6) a2 b0) a1 7) ((q_up (q_up h (h a0 5) a2 a5) ((q_up h (h a0 5) a2 a5) a0 6) a2 b0) ((q_up (q_up h (h a0 5) a2 a5) ((q_up h (h a0 5) a2 a5) a0 6) a2 b0) a0 3) a2) then (if 0 ≤ a5 ∧ a5 < (sh.2 ((q_up (q_up h (h a0 5) a2 a5) ((q_up h (h a0 5) a2 a5) a0 6) a2 b0) a0 11)).2 ∧ 0 ≤ ((q_up (q_up h (h a0 5) a2 a5) ((q_up h (h a0 5) a2 a5) a0 6) a2 b0) a0 11) then (if 0 ≤ (q_up (q_up (q_up h (h a0 5) a2 a5) ((q_up h (h a0 5) a2 a5) a0 6) a2 b0) ((q_up (q_up h (h a0 5) a2 a5) ((q_up h (h a0 5) a2 a5) a0 6) a2 b0) a0 11) a5 (q_add b0 ((q_up (q_up h (h a0 5) a2 a5) ((q_up h (h a0 5) a2 a5) a0 6) a2 b0) ((q_up (q_up h (h a0 5) a2 a5) ((q_up h (h a0 5) a2 a5) a0 6) a2 b0) ((q_up (q_up h (h a0 5) a2 a5) ((q_up h (h a0 5) a2 a5) a0 6) a2 b0) a1 7) ((q_up (q_up h (h a0 5) a2 a5) ((q_up h (h a0 5) a2 a5) a0 6) a2 b0) ((q_up (q_up h (h a0 5) a2 a5) ((q_up h (h a0 5) a2 a5) a0 6) a2 b0) a0 3) a2)) 2))) a0 4 then (if 0 ≤ a2 ∧ a2 < (sh.2 ((q_up (q_up (q_up h (h a0 5) a2 a5) ((q_up h (h a0 5) a2 a5) a0 6) a2 b0) ((q_up (q_up h (h a0 5) a2 a5) ((q_up h (h a0 5) a2 a5) a0 6) a2 b0) a0 11) a5 (q_add b0 ((q_up (q_up h (h a0 5) a2 a5) ((q_up h (h a0 5) a2 a5) a0 6) a2 b0) ((q_up (q_up h (h a0 5) a2 a5) ((q_up h (h a0 5) a2 a5) a0 6) a2 b0) ((q_up (q_up h (h a0 5) a2 a5) ((q_up h (h a0 5) a2 a5) a0 6) a2 b0) a1 7) ((q_up (q_up h (h a0 5) a2 a5) ((q_up h (h a0 5) a2 a5) a0 6) a2 b0) ((q_up (q_up h (h a0 5) a2 a5) ((q_up h (h a0 5) a2 a5) a0 6) a2 b0) a0 3) a2)) 2))) a0 4)).2 then ((q_Cc (299 + j) [(15, a0), (20, a1), (0, q_add a2 (1 : Int)), (0, q_add a3 ((q_up (q_up (q_up h (h a0 5) a2 a5) ((q_up h (h a0 5) a2 a5) a0 6) a2 b0) ((q_up (q_up h (h a0 5) a2 a5) ((q_up h (h a0 5) a2 a5) a0 6) a2 b0) a0 11) a5 (q_add b0 ((q_up (q_up h (h a0 5) a2 a5) ((q_up h (h a0 5) a2 a5) a0 6) a2 b0) ((q_up (q_up h (h a0 5) a2 a5) ((q_up h (h a0 5) a2 a5) a0 6) a2 b0) ((q_up (q_up h (h a0 5) a2 a5) ((q_up h (h a0 5) a2 a5) a0 6) a2 b0) a1 7) ((q_up (q_up h (h a0 5) a2 a5) ((q_up h (h a0 5) a2 a5) a0 6) a2 b0) ((q_up (q_up h (h a0 5) a2 a5) ((q_up h (h a0 5) a2 a5) a0 6) a2 b0) a0 3) a2)) 2))) ((q_up (q_up (q_up h (h a0 5) a2 a5) ((q_up h (h a0 5) a2 a5) a0 6) a2 b0) ((q_up (q_up h (h a0 5) a2 a5) ((q_up h (h a0 5) a2 a5) a0 6) a2 b0) a0 11) a5 (q_add b0 ((q_up (q_up h (h a0 5) a2 a5) ((q_up h (h a0 5) a2 a5) a0 6) a2 b0) ((q_up (q_up h (h a0 5) a2 a5) ((q_up h (h a0 5) a2 a5) a0 6) a2 b0) ((q_up (q_up h (h a0 5) a2 a5) ((q_up h (h a0 5) a2 a5) a0 6) a2 b0) a1 7) ((q_up (q_up h (h a0 5) a2 a5) ((q_up h (h a0 5) a2 a5) a0 6) a2 b0) ((q_up (q_up h (h a0 5) a2 a5) ((q_up h (h a0 5) a2 a5) a0 6) a2 b0) a0 3) a2)) 2))) a0 4) a2)), (0, q_add a4 (1 : Int))] (sh, q_up (q_up (q_up h (h a0 5) a2 a5) ((q_up h (h a0 5) a2 a5) a0 6) a2 b0) ((q_up (q_up h (h a0 5) a2 a5) ((q_up h (h a0 5) a2 a5) a0 6) a2 b0) a0 11) a5 (q_add b0 ((q_up (q_up h (h a0 5) a2 a5) ((q_up h (h a0 5) a2 a5) a0 6) a2 b0) ((q_up (q_up h (h a0 5) a2 a5) ((q_up h (h a0 5) a2 a5) a0 6) a2 b0) ((q_up (q_up h (h a0 5) a2 a5) ((q_up h (h a0 5) a2 a5) a0 6) a2 b0) a1 7) ((q_up (q_up h (h a0 5) a2 a5) ((q_up h (h a0 5) a2 a5) a0 6) a2 b0) ((q_up (q_up h (h a0 5) a2 a5) ((q_up h (h a0 5) a2 a5) a0 6) a2 b0) a0 3) a2)) 2)))).bind (fun r => q_L (300 + j) 124 [(15, a0), (20, a1), (0, a2), (0, a3), (0, a4), (0, a5), (0, b0), (0, h (h a0 11) a5)] [] r.2)) else none) else none) else none) else none) else none) else none) else none) else none) else none) else none) else none) else none) else none) else none) :=
  (q_unL (hL_X5_tryFrom j hj) cu_X5_tryFrom 400 48 _ _ _).trans rfl
set_option maxRecDepth 100000 in
theorem e_X5_tryFrom_124 (j : Nat) (hj : j ≤ 6) (a0 a1 a2 a3 a4 a5 a6 a7 : Int) (sh : Int × (Int → Nat × Int)) (h : Int → Int → Int) : q_L (300 + j) 124 [(15, a0), (20, a1), (0, a2), (0, a3), (0, a4), (0, a5), (0, a6), (0, a7)] [] (sh, h) = if 0 ≤ h a0 11 then (if 0 ≤ a5 ∧ a5 < (sh.2 (h a0 11)).2 ∧ 0 ≤ (h a0 11) then (q_L (300 + j) 133 [(15, a0), (20, a1), (0, a2), (0, a3), (0, a4), (0, a5), (0, a6), (0, a7)] [] (sh, q_up h (h a0 11) a5 a7)) else none) else none :=
  (q_unL (hL_X5_tryFrom j hj) cu_X5_tryFrom 400 124 _ _ _).trans rfl
set_option maxRecDepth 100000 in
theorem e_X5_tryFrom_133 (j : Nat) (hj : j ≤ 6) (a0 a1 a2 a3 a4 a5 a6 : Int) (x7 : q_V) (sh : Int × (Int → Nat × Int)) (h : Int → Int → Int) : q_L (300 + j) 133 [(15, a0), (20, a1), (0, a2), (0, a3), (0, a4), (0, a5), (0, a6), x7] [] (sh, h) = q_L (300 + j) 31 [(15, a0), (20, a1), (0, a2), (0, a3), (0, a4), (0, q_w (a5 + 1)), (0, a6), x7] [] (sh, h) :=
  (q_unL (hL_X5_tryFrom j hj) cu_X5_tryFrom 400 133 _ _ _).trans rfl
set_option maxRecDepth 100000 in
theorem e_X5_tryFrom_164 (j : Nat) (hj : j ≤ 6) (a0 a1 a2 a3 a4 a5 : Int) (x6 x7 : q_V) (sh : Int × (Int → Nat × Int)) (h : Int → Int → Int) : q_L (300 + j) 164 [(15, a0), (20, a1), (0, a2), (0, a3), (0, a4), (0, a5), x6, x7] [] (sh, h) = some ((9, 0), (sh, h)) :=
  (q_unL (hL_X5_tryFrom j hj) cu_X5_tryFrom 400 164 _ _ _).trans rfl
def cu_X5_canBeBetter : List Nat := [0, 43, 47, 48]
theorem hL_X5_canBeBetter : q_P 46 = q_find P_X5_canBeBetter := rfl
theorem c_X5_canBeBetter (a0 a1 a2 a3 : Int) (s : q_M) : q_Cc 46 [(15, a0), (0, a1), (0, a2), (0, a3)] s = q_L 46 0 [(15, a0), (0, a1), (0, a2), (0, a3), (9, 0)] [] s := rfl
set_option maxRecDepth 100000 in
theorem e_X5_canBeBetter_0 (a0 a1 a2 a3 : Int) (sh : Int × (Int → Nat × Int)) (h : Int → Int → Int) : q_L 46 0 [(15, a0), (0, a1), (0, a2), (0, a3), (9, 0)] [] (sh, h) = if 0 ≤ h a0 9 then (if 0 ≤ a1 ∧ a1 < (sh.2 (h a0 9)).2 then (if (h a0 1) < (q_add a2 (h (h a0 9) a1)) then (q_L 46 43 [(15, a0), (0, a1), (0, a2), (0, a3), (0, q_add a2 (h (h a0 9) a1))] [] (sh, h)) else (if (q_add a2 (h (h a0 9) a1)) = (h a0 1) then (if 0 ≤ h a0 10 then (if 0 ≤ a1 ∧ a1 < (sh.2 (h a0 10)).2 then (if (q_add a3 (h (h a0 10) a1)) < (h a0 2) then (q_L 46 43 [(15, a0), (0, a1), (0, a2), (0, a3), (0, q_add a2 (h (h a0 9) a1))] [] (sh, h)) else (q_L 46 47 [(15, a0), (0, a1), (0, a2), (0, a3), (0, q_add a2 (h (h a0 9) a1))] [] (sh, h))) else none) else none) else (q_L 46 47 [(15, a0), (0, a1), (0, a2), (0, a3), (0, q_add a2 (h (h a0 9) a1))] [] (sh, h)))) else none) else none :=
  (q_unL hL_X5_canBeBetter cu_X5_canBeBetter 400 0 _ _ _).trans rfl
set_option maxRecDepth 100000 in
theorem e_X5_canBeBetter_43 (a0 a1 a2 a3 a4 : Int) (sh : Int × (Int → Nat × Int)) (h : Int → Int → Int) : q_L 46 43 [(15, a0), (0, a1), (0, a2), (0, a3), (0, a4)] [] (sh, h) = q_L 46 48 [(15, a0), (0, a1), (0, a2), (0, a3), (0, a4)] [(0, 1)] (sh, h) :=
  (q_unL hL_X5_canBeBetter cu_X5_canBeBetter 400 43 _ _ _).trans rfl
set_option maxRecDepth 100000 in
theorem e_X5_canBeBetter_47 (a0 a1 a2 a3 a4 : Int) (sh : Int × (Int → Nat × Int)) (h : Int → Int → Int) : q_L 46 47 [(15, a0), (0, a1), (0, a2), (0, a3), (0, a4)] [] (sh, h) = q_L 46 48 [(15, a0), (0, a1), (0, a2), (0, a3), (0, a4)] [(0, 0)] (sh, h) :=
  (q_unL hL_X5_canBeBetter cu_X5_canBeBetter 400 47 _ _ _).trans rfl
set_option maxRecDepth 100000 in
theorem e_X5_canBeBetter_48 (a0 a1 a2 a3 a4 b0 : Int) (sh : Int × (Int → Nat × Int)) (h : Int → Int → Int) : q_L 46 48 [(15, a0), (0, a1), (0, a2), (0, a3), (0, a4)] [(0, b0)] (sh, h) = if b0 = 0 ∨ b0 = 1 then some ((0, b0), (sh, h)) else none :=
  (q_unL hL_X5_canBeBetter cu_X5_canBeBetter 400 48 _ _ _).trans rfl
def cu_X5_keepRow : List Nat := [0, 27, 44]
theorem hL_X5_keepRow : q_P 47 = q_find P_X5_keepRow := rfl
theorem c_X5_keepRow (a0 a1 a2 : Int) (s : q_M) : q_Cc 47 [(15, a0), (0, a1), (0, a2)] s = q_L 47 0 [(15, a0), (0, a1), (0, a2)] [] s := rfl
set_option maxRecDepth 100000 in
theorem e_X5_keepRow_0 (a0 a1 a2 : Int) (sh : Int × (Int → Nat × Int)) (h : Int → Int → Int) : q_L 47 0 [(15, a0), (0, a1), (0, a2)] [] (sh, h) = if 0 ≤ (q_up (q_up h a0 1 a1) a0 2 a2) a0 5 then (if 0 ≤ (q_up (q_up h a0 1 a1) a0 2 a2) a0 7 then (if 0 ≤ (0 : Int) ∧ 0 ≤ (0 : Int) ∧ 0 ≤ ((q_up (q_up h a0 1 a1) a0 2 a2) a0 0) ∧ (0 : Int) + ((q_up (q_up h a0 1 a1) a0 2 a2) a0 0) ≤ (sh.2 ((q_up (q_up h a0 1 a1) a0 2 a2) a0 5)).2 ∧ (0 : Int) + ((q_up (q_up h a0 1 a1) a0 2 a2) a0 0) ≤ (sh.2 ((q_up (q_up h a0 1 a1) a0 2 a2) a0 7)).2 ∧ 0 ≤ ((q_up (q_up h a0 1 a1) a0 2 a2) a0 5) ∧ 0 ≤ ((q_up (q_up h a0 1 a1) a0 2 a2) a0 7) then (q_L 47 27 [(15, a0), (0, a1), (0, a2)] [] (sh, q_cp (q_up (q_up h a0 1 a1) a0 2 a2) ((q_up (q_up h a0 1 a1) a0 2 a2) a0 5) (0 : Int) ((q_up (q_up h a0 1 a1) a0 2 a2) a0 7) (0 : Int) ((q_up (q_up h a0 1 a1) a0 2 a2) a0 0))) else none) else none) else none :=
  (q_unL hL_X5_keepRow cu_X5_keepRow 400 0 _ _ _).trans rfl
set_option maxRecDepth 100000 in
theorem e_X5_keepRow_27 (a0 a1 a2 : Int) (sh : Int × (Int → Nat × Int)) (h : Int → Int → Int) : q_L 47 27 [(15, a0), (0, a1), (0, a2)] [] (sh, h) = if 0 ≤ h a0 6 then (if 0 ≤ h a0 8 then (if 0 ≤ (0 : Int) ∧ 0 ≤ (0 : Int) ∧ 0 ≤ (h a0 0) ∧ (0 : Int) + (h a0 0) ≤ (sh.2 (h a0 6)).2 ∧ (0 : Int) + (h a0 0) ≤ (sh.2 (h a0 8)).2 ∧ 0 ≤ (h a0 6) ∧ 0 ≤ (h a0 8) then (q_L 47 44 [(15, a0), (0, a1), (0, a2)] [] (sh, q_cp h (h a0 6) (0 : Int) (h a0 8) (0 : Int) (h a0 0))) else none) else none) else none :=
  (q_unL hL_X5_keepRow cu_X5_keepRow 400 27 _ _ _).trans rfl
set_option maxRecDepth 100000 in
theorem e_X5_keepRow_44 (a0 a1 a2 : Int) (sh : Int × (Int → Nat × Int)) (h : Int → Int → Int) : q_L 47 44 [(15, a0), (0, a1), (0, a2)] [] (sh, h) = some ((9, 0), (sh, h)) :=
  (q_unL hL_X5_keepRow cu_X5_keepRow 400 44 _ _ _).trans rfl
def cu_X5_startOn : List Nat := [0, 73, 98, 126, 127]
theorem hL_X5_startOn : q_P 48 = q_find P_X5_startOn := rfl
theorem c_X5_startOn (a0 a1 a2 a3 : Int) (s : q_M) : q_Cc 48 [(15, a0), (20, a1), (0, a2), (0, a3)] s = q_L 48 0 [(15, a0), (20, a1), (0, a2), (0, a3), (9, 0), (9, 0), (9, 0), (9, 0)] [] s := rfl
set_option maxRecDepth 100000 in
theorem e_X5_startOn_0 (a0 a1 a2 a3 : Int) (sh : Int × (Int → Nat × Int)) (h : Int → Int → Int) : q_L 48 0 [(15, a0), (20, a1), (0, a2), (0, a3), (9, 0), (9, 0), (9, 0), (9, 0)] [] (sh, h) = if 0 ≤ h a1 5 then (if 0 ≤ a3 ∧ a3 < (sh.2 (h a1 5)).2 ∧ 0 ≤ h (h a1 5) a3 then (if (h (h (h a1 5) a3) 3) = 0 then (if 0 ≤ h a1 7 then (if 0 ≤ h a0 3 then (if 0 ≤ a2 ∧ a2 < (sh.2 (h a0 3)).2 then (if 0 ≤ (h (h a0 3) a2) ∧ (h (h a0 3) a2) < (sh.2 (h a1 7)).2 ∧ 0 ≤ h (h a1 7) (h (h a0 3) a2) then (if 0 ≤ h a0 11 then (if 0 ≤ a3 ∧ a3 < (sh.2 (h a0 11)).2 then (if (h (h a0 11) a3) < 0 then (q_L 48 73 [(15, a0), (20, a1), (0, a2), (0, a3), (13, h (h a1 5) a3), (10, h (h a1 7) (h (h a0 3) a2)), (0, if (h (h (h a1 7) (h (h a0 3) a2)) 3) < (h a1 0) then (h a1 0) else (h (h (h a1 7) (h (h a0 3) a2)) 3)), (9, 0)] [] (sh, h)) else (if 0 ≤ h a0 11 then (if 0 ≤ a3 ∧ a3 < (sh.2 (h a0 11)).2 then (q_L 48 73 [(15, a0), (20, a1), (0, a2), (0, a3), (13, h (h a1 5) a3), (10, h (h a1 7) (h (h a0 3) a2)), (0, if (if (h (h (h a1 7) (h (h a0 3) a2)) 3) < (h a1 0) then (h a1 0) else (h (h (h a1 7) (h (h a0 3) a2)) 3)) < (q_add (h (h a0 11) a3) (h (h (h a1 5) a3) 2)) then (q_add (h (h a0 11) a3) (h (h (h a1 5) a3) 2)) else (if (h (h (h a1 7) (h (h a0 3) a2)) 3) < (h a1 0) then (h a1 0) else (h (h (h a1 7) (h (h a0 3) a2)) 3))), (9, 0)] [] (sh, h)) else none) else none)) else none) else none) else none) else none) else none) else none) else (some ((0, (-1)), (sh, h)))) else none) else none :=
  (q_unL hL_X5_startOn cu_X5_startOn 400 0 _ _ _).trans rfl
set_option maxRecDepth 100000 in
theorem e_X5_startOn_73 (a0 a1 a2 a3 a4 a5 a6 : Int) (sh : Int × (Int → Nat × Int)) (h : Int → Int → Int) : q_L 48 73 [(15, a0), (20, a1), (0, a2), (0, a3), (13, a4), (10, a5), (0, a6), (9, 0)] [] (sh, h) = if 0 ≤ h a1 6 then (if 0 ≤ (h a5 1) ∧ (h a5 1) < (sh.2 (h a1 6)).2 ∧ 0 ≤ h (h a1 6) (h a5 1) then ((q_Cc 24 [(12, h (h a1 6) (h a5 1)), (0, h a4 0), (0, a6), (0, h a5 2)] (sh, h)).bind (fun r => q_L 48 98 [(15, a0), (20, a1), (0, a2), (0, a3), (13, a4), (10, a5), (0, a6), (9, 0)] [r.1] r.2)) else none) else none :=
  (q_unL hL_X5_startOn cu_X5_startOn 400 73 _ _ _).trans rfl
set_option maxRecDepth 100000 in
theorem e_X5_startOn_98 (a0 a1 a2 a3 a4 a5 a6 b0 : Int) (sh : Int × (Int → Nat × Int)) (h : Int → Int → Int) : q_L 48 98 [(15, a0), (20, a1), (0, a2), (0, a3), (13, a4), (10, a5), (0, a6), (9, 0)] [(0, b0)] (sh, h) = if b0 < 0 then (q_L 48 126 [(15, a0), (20, a1), (0, a2), (0, a3), (13, a4), (10, a5), (0, a6), (0, b0)] [] (sh, h)) else (if (h a5 4) < (q_add b0 (h a5 2)) then (q_L 48 126 [(15, a0), (20, a1), (0, a2), (0, a3), (13, a4), (10, a5), (0, a6), (0, b0)] [] (sh, h)) else (q_L 48 127 [(15, a0), (20, a1), (0, a2), (0, a3), (13, a4), (10, a5), (0, a6), (0, b0)] [(0, b0)] (sh, h))) :=
  (q_unL hL_X5_startOn cu_X5_startOn 400 98 _ _ _).trans rfl
set_option maxRecDepth 100000 in
theorem e_X5_startOn_126 (a0 a1 a2 a3 a4 a5 a6 a7 : Int) (sh : Int × (Int → Nat × Int)) (h : Int → Int → Int) : q_L 48 126 [(15, a0), (20, a1), (0, a2), (0, a3), (13, a4), (10, a5), (0, a6), (0, a7)] [] (sh, h) = q_L 48 127 [(15, a0), (20, a1), (0, a2), (0, a3), (13, a4), (10, a5), (0, a6), (0, a7)] [(0, (-1))] (sh, h) :=
  (q_unL hL_X5_startOn cu_X5_startOn 400 126 _ _ _).trans rfl
set_option maxRecDepth 100000 in
theorem e_X5_startOn_127 (a0 a1 a2 a3 a4 a5 a6 a7 b0 : Int) (sh : Int × (Int → Nat × Int)) (h : Int → Int → Int) : q_L 48 127 [(15, a0), (20, a1), (0, a2), (0, a3), (13, a4), (10, a5), (0, a6), (0, a7)] [(0, b0)] (sh, h) = some ((0, b0), (sh, h)) :=
  (q_unL hL_X5_startOn cu_X5_startOn 400 127 _ _ _).trans rfl
def cu_X5_weightOfRow : List Nat := [0, 5, 10, 55, 99, 105]
theorem hL_X5_weightOfRow : q_P 49 = q_find P_X5_weightOfRow := rfl
theorem c_X5_weightOfRow (a0 a1 a2 : Int) (s : q_M) : q_Cc 49 [(15, a0), (20, a1), (30, a2)] s = q_L 49 0 [(15, a0), (20, a1), (30, a2), (9, 0), (9, 0), (9, 0), (9, 0)] [] s := rfl
set_option maxRecDepth 100000 in
theorem e_X5_weightOfRow_0 (a0 a1 a2 : Int) (sh : Int × (Int → Nat × Int)) (h : Int → Int → Int) : q_L 49 0 [(15, a0), (20, a1), (30, a2), (9, 0), (9, 0), (9, 0), (9, 0)] [] (sh, h) = (q_Cc 44 [(15, a0), (20, a1)] (sh, h)).bind (fun r => q_L 49 5 [(15, a0), (20, a1), (30, a2), (9, 0), (9, 0), (9, 0), (9, 0)] [] r.2) :=
  (q_unL hL_X5_weightOfRow cu_X5_weightOfRow 400 0 _ _ _).trans rfl
set_option maxRecDepth 100000 in
theorem e_X5_weightOfRow_5 (a0 a1 a2 : Int) (sh : Int × (Int → Nat × Int)) (h : Int → Int → Int) : q_L 49 5 [(15, a0), (20, a1), (30, a2), (9, 0), (9, 0), (9, 0), (9, 0)] [] (sh, h) = q_L 49 10 [(15, a0), (20, a1), (30, a2), (0, 0), (0, 0), (9, 0), (9, 0)] [] (sh, h) :=
  (q_unL hL_X5_weightOfRow cu_X5_weightOfRow 400 5 _ _ _).trans rfl
set_option maxRecDepth 100000 in
theorem e_X5_weightOfRow_10 (a0 a1 a2 a3 a4 : Int) (x5 x6 : q_V) (sh : Int × (Int → Nat × Int)) (h : Int → Int → Int) : q_L 49 10 [(15, a0), (20, a1), (30, a2), (0, a3), (0, a4), x5, x6] [] (sh, h) = if a4 < (h a0 0) then (if a4 < ((sh.2 a2).2) then (if 0 ≤ a4 ∧ a4 < (sh.2 a2).2 then (if (h a2 a4) < 0 then (q_L 49 99 [(15, a0), (20, a1), (30, a2), (0, a3), (0, a4), (0, h a2 a4), x6] [] (sh, h)) else (if (h a2 a4) < (h a1 1) then ((q_Cc 48 [(15, a0), (20, a1), (0, a4), (0, h a2 a4)] (sh, h)).bind (fun r => q_L 49 55 [(15, a0), (20, a1), (30, a2), (0, a3), (0, a4), (0, h a2 a4), x6] [r.1] r.2)) else (q_L 49 99 [(15, a0), (20, a1), (30, a2), (0, a3), (0, a4), (0, h a2 a4), x6] [] (sh, h)))) else none) else (q_L 49 105 [(15, a0), (20, a1), (30, a2), (0, a3), (0, a4), x5, x6] [] (sh, h))) else (q_L 49 105 [(15, a0), (20, a1), (30, a2), (0, a3), (0, a4), x5, x6] [] (sh, h)) :=
  (q_unL hL_X5_weightOfRow cu_X5_weightOfRow 400 10 _ _ _).trans rfl
set_option maxRecDepth 100000 in
theorem e_X5_weightOfRow_55 (a0 a1 a2 a3 a4 a5 b0 : Int) (x6 : q_V) (sh : Int × (Int → Nat × Int)) (h : Int → Int → Int) : q_L 49 55 [(15, a0), (20, a1), (30, a2), (0, a3), (0, a4), (0, a5), x6] [(0, b0)] (sh, h) = if b0 < 0 then (some ((0, (-1)), (sh, h))) else (if 0 ≤ h a0 11 then (if 0 ≤ h a1 7 then (if 0 ≤ h a0 3 then (if 0 ≤ a4 ∧ a4 < (sh.2 (h a0 3)).2 then (if 0 ≤ (h (h a0 3) a4) ∧ (h (h a0 3) a4) < (sh.2 (h a1 7)).2 ∧ 0 ≤ h (h a1 7) (h (h a0 3) a4) then (if 0 ≤ a5 ∧ a5 < (sh.2 (h a0 11)).2 ∧ 0 ≤ (h a0 11) then (if 0 ≤ (q_up h (h a0 11) a5 (q_add b0 (h (h (h a1 7) (h (h a0 3) a4)) 2))) a0 4 then (if 0 ≤ a4 ∧ a4 < (sh.2 ((q_up h (h a0 11) a5 (q_add b0 (h (h (h a1 7) (h (h a0 3) a4)) 2))) a0 4)).2 then (q_L 49 99 [(15, a0), (20, a1), (30, a2), (0, q_add a3 ((q_up h (h a0 11) a5 (q_add b0 (h (h (h a1 7) (h (h a0 3) a4)) 2))) ((q_up h (h a0 11) a5 (q_add b0 (h (h (h a1 7) (h (h a0 3) a4)) 2))) a0 4) a4)), (0, a4), (0, a5), (0, b0)] [] (sh, q_up h (h a0 11) a5 (q_add b0 (h (h (h a1 7) (h (h a0 3) a4)) 2)))) else none) else none) else none) else none) else none) else none) else none) else none) :=
  (q_unL hL_X5_weightOfRow cu_X5_weightOfRow 400 55 _ _ _).trans rfl
set_option maxRecDepth 100000 in
theorem e_X5_weightOfRow_99 (a0 a1 a2 a3 a4 a5 : Int) (x6 : q_V) (sh : Int × (Int → Nat × Int)) (h : Int → Int → Int) : q_L 49 99 [(15, a0), (20, a1), (30, a2), (0, a3), (0, a4), (0, a5), x6] [] (sh, h) = q_L 49 10 [(15, a0), (20, a1), (30, a2), (0, a3), (0, q_w (a4 + 1)), (0, a5), x6] [] (sh, h) :=
  (q_unL hL_X5_weightOfRow cu_X5_weightOfRow 400 99 _ _ _).trans rfl
set_option maxRecDepth 100000 in
theorem e_X5_weightOfRow_105 (a0 a1 a2 a3 a4 : Int) (x5 x6 : q_V) (sh : Int × (Int → Nat × Int)) (h : Int → Int → Int) : q_L 49 105 [(15, a0), (20, a1), (30, a2), (0, a3), (0, a4), x5, x6] [] (sh, h) = some ((0, a3), (sh, h)) :=
  (q_unL hL_X5_weightOfRow cu_X5_weightOfRow 400 105 _ _ _).trans rfl
def cu_X5_dishOf : List Nat := [0, 5, 20]
theorem hL_X5_dishOf : q_P 50 = q_find P_X5_dishOf := rfl
theorem c_X5_dishOf (a0 a1 : Int) (s : q_M) : q_Cc 50 [(15, a0), (0, a1)] s = q_L 50 0 [(15, a0), (0, a1), (9, 0)] [] s := rfl
set_option maxRecDepth 100000 in
theorem e_X5_dishOf_0 (a0 a1 : Int) (sh : Int × (Int → Nat × Int)) (h : Int → Int → Int) : q_L 50 0 [(15, a0), (0, a1), (9, 0)] [] (sh, h) = (q_Cc 54 [(15, a0), (0, a1)] (sh, h)).bind (fun r => q_L 50 5 [(15, a0), (0, a1), (9, 0)] [r.1] r.2) :=
  (q_unL hL_X5_dishOf cu_X5_dishOf 400 0 _ _ _).trans rfl
set_option maxRecDepth 100000 in
theorem e_X5_dishOf_5 (a0 a1 b0 : Int) (sh : Int × (Int → Nat × Int)) (h : Int → Int → Int) : q_L 50 5 [(15, a0), (0, a1), (9, 0)] [(0, b0)] (sh, h) = if b0 < 0 then (q_L 50 20 [(15, a0), (0, a1), (0, b0)] [(0, (-1))] (sh, h)) else (if 0 ≤ h a0 7 then (if 0 ≤ b0 ∧ b0 < (sh.2 (h a0 7)).2 then (q_L 50 20 [(15, a0), (0, a1), (0, b0)] [(0, h (h a0 7) b0)] (sh, h)) else none) else none) :=
  (q_unL hL_X5_dishOf cu_X5_dishOf 400 5 _ _ _).trans rfl
set_option maxRecDepth 100000 in
theorem e_X5_dishOf_20 (a0 a1 a2 b0 : Int) (sh : Int × (Int → Nat × Int)) (h : Int → Int → Int) : q_L 50 20 [(15, a0), (0, a1), (0, a2)] [(0, b0)] (sh, h) = some ((0, b0), (sh, h)) :=
  (q_unL hL_X5_dishOf cu_X5_dishOf 400 20 _ _ _).trans rfl
def cu_X5_startOf : List Nat := [0, 5, 20]
theorem hL_X5_startOf : q_P 51 = q_find P_X5_startOf := rfl
theorem c_X5_startOf (a0 a1 : Int) (s : q_M) : q_Cc 51 [(15, a0), (0, a1)] s = q_L 51 0 [(15, a0), (0, a1), (9, 0)] [] s := rfl
set_option maxRecDepth 100000 in
theorem e_X5_startOf_0 (a0 a1 : Int) (sh : Int × (Int → Nat × Int)) (h : Int → Int → Int) : q_L 51 0 [(15, a0), (0, a1), (9, 0)] [] (sh, h) = (q_Cc 54 [(15, a0), (0, a1)] (sh, h)).bind (fun r => q_L 51 5 [(15, a0), (0, a1), (9, 0)] [r.1] r.2) :=
  (q_unL hL_X5_startOf cu_X5_startOf 400 0 _ _ _).trans rfl
set_option maxRecDepth 100000 in
theorem e_X5_startOf_5 (a0 a1 b0 : Int) (sh : Int × (Int → Nat × Int)) (h : Int → Int → Int) : q_L 51 5 [(15, a0), (0, a1), (9, 0)] [(0, b0)] (sh, h) = if b0 < 0 then (q_L 51 20 [(15, a0), (0, a1), (0, b0)] [(0, (-1))] (sh, h)) else (if 0 ≤ h a0 8 then (if 0 ≤ b0 ∧ b0 < (sh.2 (h a0 8)).2 then (q_L 51 20 [(15, a0), (0, a1), (0, b0)] [(0, h (h a0 8) b0)] (sh, h)) else none) else none) :=
  (q_unL hL_X5_startOf cu_X5_startOf 400 5 _ _ _).trans rfl
set_option maxRecDepth 100000 in
theorem e_X5_startOf_20 (a0 a1 a2 b0 : Int) (sh : Int × (Int → Nat × Int)) (h : Int → Int → Int) : q_L 51 20 [(15, a0), (0, a1), (0, a2)] [(0, b0)] (sh, h) = some ((0, b0), (sh, h)) :=
  (q_unL hL_X5_startOf cu_X5_startOf 400 20 _ _ _).trans rfl
def cu_X5_inPlan : List Nat := [0, 4, 32]
theorem hL_X5_inPlan : q_P 52 = q_find P_X5_inPlan := rfl
theorem c_X5_inPlan (a0 : Int) (s : q_M) : q_Cc 52 [(15, a0)] s = q_L 52 0 [(15, a0), (9, 0), (9, 0)] [] s := rfl
set_option maxRecDepth 100000 in
theorem e_X5_inPlan_0 (a0 : Int) (sh : Int × (Int → Nat × Int)) (h : Int → Int → Int) : q_L 52 0 [(15, a0), (9, 0), (9, 0)] [] (sh, h) = q_L 52 4 [(15, a0), (0, 0), (0, 0)] [] (sh, h) :=
  (q_unL hL_X5_inPlan cu_X5_inPlan 400 0 _ _ _).trans rfl
set_option maxRecDepth 100000 in
theorem e_X5_inPlan_4 (a0 a1 a2 : Int) (sh : Int × (Int → Nat × Int)) (h : Int → Int → Int) : q_L 52 4 [(15, a0), (0, a1), (0, a2)] [] (sh, h) = if a2 < (h a0 0) then (if 0 ≤ h a0 7 then (if 0 ≤ a2 ∧ a2 < (sh.2 (h a0 7)).2 then (if (h (h a0 7) a2) < 0 then (q_L 52 32 [(15, a0), (0, a1), (0, a2)] [] (sh, h)) else (if 0 ≤ h a0 3 then (if 0 ≤ a2 ∧ a2 < (sh.2 (h a0 3)).2 then (q_L 52 32 [(15, a0), (0, q_or a1 (q_shl (1 : Int) (h (h a0 3) a2))), (0, a2)] [] (sh, h)) else none) else none)) else none) else none) else (some ((0, a1), (sh, h))) :=
  (q_unL hL_X5_inPlan cu_X5_inPlan 400 4 _ _ _).trans rfl
set_option maxRecDepth 100000 in
theorem e_X5_inPlan_32 (a0 a1 a2 : Int) (sh : Int × (Int → Nat × Int)) (h : Int → Int → Int) : q_L 52 32 [(15, a0), (0, a1), (0, a2)] [] (sh, h) = q_L 52 4 [(15, a0), (0, a1), (0, q_w (a2 + 1))] [] (sh, h) :=
  (q_unL hL_X5_inPlan cu_X5_inPlan 400 32 _ _ _).trans rfl
def cu_X5_holdIn : List Nat := [0, 2, 45]
theorem hL_X5_holdIn : q_P 53 = q_find P_X5_holdIn := rfl
theorem c_X5_holdIn (a0 a1 : Int) (s : q_M) : q_Cc 53 [(15, a0), (20, a1)] s = q_L 53 0 [(15, a0), (20, a1), (9, 0)] [] s := rfl
set_option maxRecDepth 100000 in
theorem e_X5_holdIn_0 (a0 a1 : Int) (sh : Int × (Int → Nat × Int)) (h : Int → Int → Int) : q_L 53 0 [(15, a0), (20, a1), (9, 0)] [] (sh, h) = q_L 53 2 [(15, a0), (20, a1), (0, 0)] [] (sh, h) :=
  (q_unL hL_X5_holdIn cu_X5_holdIn 400 0 _ _ _).trans rfl
set_option maxRecDepth 100000 in
theorem e_X5_holdIn_2 (a0 a1 a2 : Int) (sh : Int × (Int → Nat × Int)) (h : Int → Int → Int) : q_L 53 2 [(15, a0), (20, a1), (0, a2)] [] (sh, h) = if a2 < (h a0 0) then (if 0 ≤ h a0 7 then (if 0 ≤ a2 ∧ a2 < (sh.2 (h a0 7)).2 then (if (h (h a0 7) a2) < 0 then (q_L 53 45 [(15, a0), (20, a1), (0, a2)] [] (sh, h)) else (if 0 ≤ h a1 7 then (if 0 ≤ h a0 3 then (if 0 ≤ a2 ∧ a2 < (sh.2 (h a0 3)).2 then (if 0 ≤ (h (h a0 3) a2) ∧ (h (h a0 3) a2) < (sh.2 (h a1 7)).2 ∧ 0 ≤ h (h a1 7) (h (h a0 3) a2) then (if 0 ≤ h a0 7 then (if 0 ≤ a2 ∧ a2 < (sh.2 (h a0 7)).2 then (if 0 ≤ h a0 8 then (if 0 ≤ a2 ∧ a2 < (sh.2 (h a0 8)).2 then ((q_Cc 4 [(10, h (h a1 7) (h (h a0 3) a2)), (0, h (h a0 7) a2), (0, h (h a0 8) a2)] (sh, h)).bind (fun r => q_L 53 45 [(15, a0), (20, a1), (0, a2)] [] r.2)) else none) else none) else none) else none) else none) else none) else none) else none)) else none) else none) else (some ((0, h a0 2), (sh, h))) :=
  (q_unL hL_X5_holdIn cu_X5_holdIn 400 2 _ _ _).trans rfl
set_option maxRecDepth 100000 in
theorem e_X5_holdIn_45 (a0 a1 a2 : Int) (sh : Int × (Int → Nat × Int)) (h : Int → Int → Int) : q_L 53 45 [(15, a0), (20, a1), (0, a2)] [] (sh, h) = q_L 53 2 [(15, a0), (20, a1), (0, q_w (a2 + 1))] [] (sh, h) :=
  (q_unL hL_X5_holdIn cu_X5_holdIn 400 45 _ _ _).trans rfl
def cu_X5_placeOf : List Nat := [0, 2]
theorem hL_X5_placeOf : q_P 54 = q_find P_X5_placeOf := rfl
theorem c_X5_placeOf (a0 a1 : Int) (s : q_M) : q_Cc 54 [(15, a0), (0, a1)] s = q_L 54 0 [(15, a0), (0, a1), (9, 0)] [] s := rfl
set_option maxRecDepth 100000 in
theorem e_X5_placeOf_0 (a0 a1 : Int) (sh : Int × (Int → Nat × Int)) (h : Int → Int → Int) : q_L 54 0 [(15, a0), (0, a1), (9, 0)] [] (sh, h) = q_L 54 2 [(15, a0), (0, a1), (0, 0)] [] (sh, h) :=
  (q_unL hL_X5_placeOf cu_X5_placeOf 400 0 _ _ _).trans rfl
set_option maxRecDepth 100000 in
theorem e_X5_placeOf_2 (a0 a1 a2 : Int) (sh : Int × (Int → Nat × Int)) (h : Int → Int → Int) : q_L 54 2 [(15, a0), (0, a1), (0, a2)] [] (sh, h) = if a2 < (h a0 0) then (if 0 ≤ h a0 3 then (if 0 ≤ a2 ∧ a2 < (sh.2 (h a0 3)).2 then (if (h (h a0 3) a2) = a1 then (some ((0, a2), (sh, h))) else (q_L 54 2 [(15, a0), (0, a1), (0, q_w (a2 + 1))] [] (sh, h))) else none) else none) else (some ((0, (-1)), (sh, h))) :=
  (q_unL hL_X5_placeOf cu_X5_placeOf 400 2 _ _ _).trans rfl
