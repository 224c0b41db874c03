def cu_X11_init : List Nat := [0, 8, 12, 19, 23, 30, 34, 41, 45, 52, 56, 64, 69, 82, 86, 98]
theorem hL_X11_init : q_P 106 = q_find P_X11_init := rfl
theorem c_X11_init (a0 : Int) (s : q_M) : q_Cc 106 [(21, a0)] s = q_L 106 0 [(21, a0), (9, 0)] [] s := rfl
set_option maxRecDepth 100000 in
theorem e_X11_init_0 (a0 : Int) (sh : Int × (Int → Nat × Int)) (h : Int → Int → Int) : q_L 106 0 [(21, a0), (9, 0)] [] (sh, h) = q_L 106 8 [(21, a0), (9, 0)] [(20, sh.1), (21, a0)] ((q_ms sh 20 9), (q_mh sh h (q_zf [4, 5, 6, 7, 8]))) :=
  (q_unL hL_X11_init cu_X11_init 400 0 _ _ _).trans rfl
set_option maxRecDepth 100000 in
theorem e_X11_init_8 (a0 b0 b1 : Int) (sh : Int × (Int → Nat × Int)) (h : Int → Int → Int) : q_L 106 8 [(21, a0), (9, 0)] [(20, b1), (21, b0)] (sh, h) = (q_Cc 89 [(20, b1)] (sh, h)).bind (fun r => q_L 106 12 [(21, a0), (9, 0)] [(20, b1), (21, b0)] r.2) :=
  (q_unL hL_X11_init cu_X11_init 400 8 _ _ _).trans rfl
set_option maxRecDepth 100000 in
theorem e_X11_init_12 (a0 b0 b1 : Int) (sh : Int × (Int → Nat × Int)) (h : Int → Int → Int) : q_L 106 12 [(21, a0), (9, 0)] [(20, b1), (21, b0)] (sh, h) = if 0 ≤ b1 then (q_L 106 19 [(21, a0), (9, 0)] [(20, sh.1), (21, a0)] ((q_ms sh 20 9), (q_mh sh (q_up h b0 0 b1) (q_zf [4, 5, 6, 7, 8])))) else none :=
  (q_unL hL_X11_init cu_X11_init 400 12 _ _ _).trans rfl
set_option maxRecDepth 100000 in
theorem e_X11_init_19 (a0 b0 b1 : Int) (sh : Int × (Int → Nat × Int)) (h : Int → Int → Int) : q_L 106 19 [(21, a0), (9, 0)] [(20, b1), (21, b0)] (sh, h) = (q_Cc 89 [(20, b1)] (sh, h)).bind (fun r => q_L 106 23 [(21, a0), (9, 0)] [(20, b1), (21, b0)] r.2) :=
  (q_unL hL_X11_init cu_X11_init 400 19 _ _ _).trans rfl
set_option maxRecDepth 100000 in
theorem e_X11_init_23 (a0 b0 b1 : Int) (sh : Int × (Int → Nat × Int)) (h : Int → Int → Int) : q_L 106 23 [(21, a0), (9, 0)] [(20, b1), (21, b0)] (sh, h) = if 0 ≤ b1 then (q_L 106 30 [(21, a0), (9, 0)] [(20, sh.1), (21, a0)] ((q_ms sh 20 9), (q_mh sh (q_up h b0 1 b1) (q_zf [4, 5, 6, 7, 8])))) else none :=
  (q_unL hL_X11_init cu_X11_init 400 23 _ _ _).trans rfl
set_option maxRecDepth 100000 in
theorem e_X11_init_30 (a0 b0 b1 : Int) (sh : Int × (Int → Nat × Int)) (h : Int → Int → Int) : q_L 106 30 [(21, a0), (9, 0)] [(20, b1), (21, b0)] (sh, h) = (q_Cc 89 [(20, b1)] (sh, h)).bind (fun r => q_L 106 34 [(21, a0), (9, 0)] [(20, b1), (21, b0)] r.2) :=
  (q_unL hL_X11_init cu_X11_init 400 30 _ _ _).trans rfl
set_option maxRecDepth 100000 in
theorem e_X11_init_34 (a0 b0 b1 : Int) (sh : Int × (Int → Nat × Int)) (h : Int → Int → Int) : q_L 106 34 [(21, a0), (9, 0)] [(20, b1), (21, b0)] (sh, h) = if 0 ≤ b1 then (q_L 106 41 [(21, a0), (9, 0)] [(15, sh.1), (21, a0)] ((q_ms sh 15 12), (q_mh sh (q_up h b0 2 b1) (q_zf [3, 4, 5, 6, 7, 8, 9, 10, 11])))) else none :=
  (q_unL hL_X11_init cu_X11_init 400 34 _ _ _).trans rfl
set_option maxRecDepth 100000 in
theorem e_X11_init_41 (a0 b0 b1 : Int) (sh : Int × (Int → Nat × Int)) (h : Int → Int → Int) : q_L 106 41 [(21, a0), (9, 0)] [(15, b1), (21, b0)] (sh, h) = (q_Cc 35 [(15, b1)] (sh, h)).bind (fun r => q_L 106 45 [(21, a0), (9, 0)] [(15, b1), (21, b0)] r.2) :=
  (q_unL hL_X11_init cu_X11_init 400 41 _ _ _).trans rfl
set_option maxRecDepth 100000 in
theorem e_X11_init_45 (a0 b0 b1 : Int) (sh : Int × (Int → Nat × Int)) (h : Int → Int → Int) : q_L 106 45 [(21, a0), (9, 0)] [(15, b1), (21, b0)] (sh, h) = if 0 ≤ b1 then (q_L 106 52 [(21, a0), (9, 0)] [(19, sh.1), (21, a0)] ((q_ms sh 19 8), (q_mh sh (q_up h b0 3 b1) (q_zf [0, 2])))) else none :=
  (q_unL hL_X11_init cu_X11_init 400 45 _ _ _).trans rfl
set_option maxRecDepth 100000 in
theorem e_X11_init_52 (a0 b0 b1 : Int) (sh : Int × (Int → Nat × Int)) (h : Int → Int → Int) : q_L 106 52 [(21, a0), (9, 0)] [(19, b1), (21, b0)] (sh, h) = (q_Cc 75 [(19, b1)] (sh, h)).bind (fun r => q_L 106 56 [(21, a0), (9, 0)] [(19, b1), (21, b0)] r.2) :=
  (q_unL hL_X11_init cu_X11_init 400 52 _ _ _).trans rfl
set_option maxRecDepth 100000 in
theorem e_X11_init_56 (a0 b0 b1 : Int) (sh : Int × (Int → Nat × Int)) (h : Int → Int → Int) : q_L 106 56 [(21, a0), (9, 0)] [(19, b1), (21, b0)] (sh, h) = if 0 ≤ b1 then (if 0 ≤ (4 : Int) ∧ (4 : Int) ≤ 10000 then (q_L 106 64 [(21, a0), (9, 0)] [(47, sh.1), (21, a0)] ((q_ms sh 47 (4 : Int)), (q_mh sh (q_up h b0 4 b1) (fun _ => -1)))) else none) else none :=
  (q_unL hL_X11_init cu_X11_init 400 56 _ _ _).trans rfl
set_option maxRecDepth 100000 in
theorem e_X11_init_64 (a0 b0 b1 : Int) (sh : Int × (Int → Nat × Int)) (h : Int → Int → Int) : q_L 106 64 [(21, a0), (9, 0)] [(47, b1), (21, b0)] (sh, h) = if 0 ≤ b1 then (q_L 106 69 [(21, a0), (0, 0)] [] (sh, q_up h b0 5 b1)) else none :=
  (q_unL hL_X11_init cu_X11_init 400 64 _ _ _).trans rfl
set_option maxRecDepth 100000 in
theorem e_X11_init_69 (a0 a1 : Int) (sh : Int × (Int → Nat × Int)) (h : Int → Int → Int) : q_L 106 69 [(21, a0), (0, a1)] [] (sh, h) = if a1 < (4 : Int) then (if 0 ≤ h a0 5 then (q_L 106 82 [(21, a0), (0, a1)] [(17, sh.1), (0, a1), (47, h a0 5)] ((q_ms sh 17 3), (q_mh sh h (q_zf [2])))) else none) else (if 0 ≤ (7 : Int) ∧ (7 : Int) ≤ 10000 then (q_L 106 98 [(21, a0), (0, a1)] [(30, sh.1), (21, a0)] ((q_ms sh 30 (7 : Int)), (q_mh sh h (fun _ => 0)))) else none) :=
  (q_unL hL_X11_init cu_X11_init 400 69 _ _ _).trans rfl
set_option maxRecDepth 100000 in
theorem e_X11_init_82 (a0 a1 b0 b1 b2 : Int) (sh : Int × (Int → Nat × Int)) (h : Int → Int → Int) : q_L 106 82 [(21, a0), (0, a1)] [(17, b2), (0, b1), (47, b0)] (sh, h) = (q_Cc 64 [(17, b2)] (sh, h)).bind (fun r => q_L 106 86 [(21, a0), (0, a1)] [(17, b2), (0, b1), (47, b0)] r.2) :=
  (q_unL hL_X11_init cu_X11_init 400 82 _ _ _).trans rfl
set_option maxRecDepth 100000 in
theorem e_X11_init_86 (a0 a1 b0 b1 b2 : Int) (sh : Int × (Int → Nat × Int)) (h : Int → Int → Int) : q_L 106 86 [(21, a0), (0, a1)] [(17, b2), (0, b1), (47, b0)] (sh, h) = if 0 ≤ b1 ∧ b1 < (sh.2 b0).2 then (q_L 106 69 [(21, a0), (0, q_w (a1 + 1))] [] (sh, q_up h b0 b1 b2)) else none :=
  (q_unL hL_X11_init cu_X11_init 400 86 _ _ _).trans rfl
set_option maxRecDepth 100000 in
theorem e_X11_init_98 (a0 a1 b0 b1 : Int) (sh : Int × (Int → Nat × Int)) (h : Int → Int → Int) : q_L 106 98 [(21, a0), (0, a1)] [(30, b1), (21, b0)] (sh, h) = if 0 ≤ b1 then (if (0 : Int) = 0 ∨ (0 : Int) = 1 then (some ((9, 0), (sh, q_up (q_up h b0 6 b1) a0 7 (0 : Int)))) else none) else none :=
  (q_unL hL_X11_init cu_X11_init 400 98 _ _ _).trans rfl
def cu_X11_rain : List Nat := [0, 6, 16, 26, 29, 35, 46]
theorem hL_X11_rain : q_P 107 = q_find P_X11_rain := rfl
theorem c_X11_rain (a0 a1 a2 a3 : Int) (s : q_M) : q_Cc 107 [(21, a0), (0, a1), (0, a2), (0, a3)] s = q_L 107 0 [(21, a0), (0, a1), (0, a2), (0, a3)] [] s := rfl
set_option maxRecDepth 100000 in
theorem e_X11_rain_0 (a0 a1 a2 a3 : Int) (sh : Int × (Int → Nat × Int)) (h : Int → Int → Int) : q_L 107 0 [(21, a0), (0, a1), (0, a2), (0, a3)] [] (sh, h) = (q_Cc 153 [(0, a1), (0, 0), (0, 2)] (sh, h)).bind (fun r => q_L 107 6 [(21, a0), (0, a1), (0, a2), (0, a3)] [r.1] r.2) :=
  (q_unL hL_X11_rain cu_X11_rain 400 0 _ _ _).trans rfl
set_option maxRecDepth 100000 in
theorem e_X11_rain_6 (a0 a1 a2 a3 b0 : Int) (sh : Int × (Int → Nat × Int)) (h : Int → Int → Int) : q_L 107 6 [(21, a0), (0, a1), (0, a2), (0, a3)] [(0, b0)] (sh, h) = if b0 = 0 then ((q_Cc 153 [(0, a2), (0, 0), (0, 13)] (sh, h)).bind (fun r => q_L 107 16 [(21, a0), (0, a1), (0, a2), (0, a3)] [r.1] r.2)) else (q_L 107 29 [(21, a0), (0, a1), (0, a2), (0, a3)] [] (sh, h)) :=
  (q_unL hL_X11_rain cu_X11_rain 400 6 _ _ _).trans rfl
set_option maxRecDepth 100000 in
theorem e_X11_rain_16 (a0 a1 a2 a3 b0 : Int) (sh : Int × (Int → Nat × Int)) (h : Int → Int → Int) : q_L 107 16 [(21, a0), (0, a1), (0, a2), (0, a3)] [(0, b0)] (sh, h) = if b0 = 0 then ((q_Cc 153 [(0, a3), (0, 0), (0, 9)] (sh, h)).bind (fun r => q_L 107 26 [(21, a0), (0, a1), (0, a2), (0, a3)] [r.1] r.2)) else (q_L 107 29 [(21, a0), (0, a1), (0, a2), (0, a3)] [] (sh, h)) :=
  (q_unL hL_X11_rain cu_X11_rain 400 16 _ _ _).trans rfl
set_option maxRecDepth 100000 in
theorem e_X11_rain_26 (a0 a1 a2 a3 b0 : Int) (sh : Int × (Int → Nat × Int)) (h : Int → Int → Int) : q_L 107 26 [(21, a0), (0, a1), (0, a2), (0, a3)] [(0, b0)] (sh, h) = if b0 = 0 then (if 0 ≤ h a0 0 then ((q_Cc 91 [(20, h a0 0), (0, a1), (0, a2), (0, a3)] (sh, h)).bind (fun r => q_L 107 46 [(21, a0), (0, a1), (0, a2), (0, a3)] [r.1] r.2)) else none) else (q_L 107 29 [(21, a0), (0, a1), (0, a2), (0, a3)] [] (sh, h)) :=
  (q_unL hL_X11_rain cu_X11_rain 400 26 _ _ _).trans rfl
set_option maxRecDepth 100000 in
theorem e_X11_rain_29 (a0 a1 a2 a3 : Int) (sh : Int × (Int → Nat × Int)) (h : Int → Int → Int) : q_L 107 29 [(21, a0), (0, a1), (0, a2), (0, a3)] [] (sh, h) = (q_Cc 159 [(21, a0), (0, (-1000001))] (sh, h)).bind (fun r => q_L 107 35 [(21, a0), (0, a1), (0, a2), (0, a3)] [r.1] r.2) :=
  (q_unL hL_X11_rain cu_X11_rain 400 29 _ _ _).trans rfl
set_option maxRecDepth 100000 in
theorem e_X11_rain_35 (a0 a1 a2 a3 b0 : Int) (sh : Int × (Int → Nat × Int)) (h : Int → Int → Int) : q_L 107 35 [(21, a0), (0, a1), (0, a2), (0, a3)] [(0, b0)] (sh, h) = some ((0, b0), (sh, h)) :=
  (q_unL hL_X11_rain cu_X11_rain 400 35 _ _ _).trans rfl
set_option maxRecDepth 100000 in
theorem e_X11_rain_46 (a0 a1 a2 a3 b0 : Int) (sh : Int × (Int → Nat × Int)) (h : Int → Int → Int) : q_L 107 46 [(21, a0), (0, a1), (0, a2), (0, a3)] [(0, b0)] (sh, h) = some ((0, b0), (sh, h)) :=
  (q_unL hL_X11_rain cu_X11_rain 400 46 _ _ _).trans rfl
def cu_X11_dish : List Nat := [0, 6, 16, 25, 28, 34, 53, 64]
theorem hL_X11_dish : q_P 108 = q_find P_X11_dish := rfl
theorem c_X11_dish (a0 a1 a2 a3 : Int) (s : q_M) : q_Cc 108 [(21, a0), (0, a1), (0, a2), (0, a3)] s = q_L 108 0 [(21, a0), (0, a1), (0, a2), (0, a3)] [] s := rfl
set_option maxRecDepth 100000 in
theorem e_X11_dish_0 (a0 a1 a2 a3 : Int) (sh : Int × (Int → Nat × Int)) (h : Int → Int → Int) : q_L 108 0 [(21, a0), (0, a1), (0, a2), (0, a3)] [] (sh, h) = (q_Cc 153 [(0, a1), (0, 0), (0, 2)] (sh, h)).bind (fun r => q_L 108 6 [(21, a0), (0, a1), (0, a2), (0, a3)] [r.1] r.2) :=
  (q_unL hL_X11_dish cu_X11_dish 400 0 _ _ _).trans rfl
set_option maxRecDepth 100000 in
theorem e_X11_dish_6 (a0 a1 a2 a3 b0 : Int) (sh : Int × (Int → Nat × Int)) (h : Int → Int → Int) : q_L 108 6 [(21, a0), (0, a1), (0, a2), (0, a3)] [(0, b0)] (sh, h) = if b0 = 0 then ((q_Cc 153 [(0, a2), (0, 1), (0, 9)] (sh, h)).bind (fun r => q_L 108 16 [(21, a0), (0, a1), (0, a2), (0, a3)] [r.1] r.2)) else (q_L 108 28 [(21, a0), (0, a1), (0, a2), (0, a3)] [] (sh, h)) :=
  (q_unL hL_X11_dish cu_X11_dish 400 6 _ _ _).trans rfl
set_option maxRecDepth 100000 in
theorem e_X11_dish_16 (a0 a1 a2 a3 b0 : Int) (sh : Int × (Int → Nat × Int)) (h : Int → Int → Int) : q_L 108 16 [(21, a0), (0, a1), (0, a2), (0, a3)] [(0, b0)] (sh, h) = if b0 = 0 then ((q_Cc 153 [(0, a3), (0, 0), (0, 3)] (sh, h)).bind (fun r => q_L 108 25 [(21, a0), (0, a1), (0, a2), (0, a3)] [r.1] r.2)) else (q_L 108 28 [(21, a0), (0, a1), (0, a2), (0, a3)] [] (sh, h)) :=
  (q_unL hL_X11_dish cu_X11_dish 400 16 _ _ _).trans rfl
set_option maxRecDepth 100000 in
theorem e_X11_dish_25 (a0 a1 a2 a3 b0 : Int) (sh : Int × (Int → Nat × Int)) (h : Int → Int → Int) : q_L 108 25 [(21, a0), (0, a1), (0, a2), (0, a3)] [(0, b0)] (sh, h) = if b0 = 0 then (if 0 ≤ h a0 0 then (if (h (h a0 0) 1) < (6 : Int) then (if 0 ≤ h a0 0 then ((q_Cc 92 [(20, h a0 0), (0, a1), (0, a2), (0, a3)] (sh, h)).bind (fun r => q_L 108 64 [(21, a0), (0, a1), (0, a2), (0, a3)] [r.1] r.2)) else none) else ((q_Cc 159 [(21, a0), (0, (-1000002))] (sh, h)).bind (fun r => q_L 108 53 [(21, a0), (0, a1), (0, a2), (0, a3)] [r.1] r.2))) else none) else (q_L 108 28 [(21, a0), (0, a1), (0, a2), (0, a3)] [] (sh, h)) :=
  (q_unL hL_X11_dish cu_X11_dish 400 25 _ _ _).trans rfl
set_option maxRecDepth 100000 in
theorem e_X11_dish_28 (a0 a1 a2 a3 : Int) (sh : Int × (Int → Nat × Int)) (h : Int → Int → Int) : q_L 108 28 [(21, a0), (0, a1), (0, a2), (0, a3)] [] (sh, h) = (q_Cc 159 [(21, a0), (0, (-1000001))] (sh, h)).bind (fun r => q_L 108 34 [(21, a0), (0, a1), (0, a2), (0, a3)] [r.1] r.2) :=
  (q_unL hL_X11_dish cu_X11_dish 400 28 _ _ _).trans rfl
set_option maxRecDepth 100000 in
theorem e_X11_dish_34 (a0 a1 a2 a3 b0 : Int) (sh : Int × (Int → Nat × Int)) (h : Int → Int → Int) : q_L 108 34 [(21, a0), (0, a1), (0, a2), (0, a3)] [(0, b0)] (sh, h) = some ((0, b0), (sh, h)) :=
  (q_unL hL_X11_dish cu_X11_dish 400 34 _ _ _).trans rfl
set_option maxRecDepth 100000 in
theorem e_X11_dish_53 (a0 a1 a2 a3 b0 : Int) (sh : Int × (Int → Nat × Int)) (h : Int → Int → Int) : q_L 108 53 [(21, a0), (0, a1), (0, a2), (0, a3)] [(0, b0)] (sh, h) = some ((0, b0), (sh, h)) :=
  (q_unL hL_X11_dish cu_X11_dish 400 53 _ _ _).trans rfl
set_option maxRecDepth 100000 in
theorem e_X11_dish_64 (a0 a1 a2 a3 b0 : Int) (sh : Int × (Int → Nat × Int)) (h : Int → Int → Int) : q_L 108 64 [(21, a0), (0, a1), (0, a2), (0, a3)] [(0, b0)] (sh, h) = some ((0, b0), (sh, h)) :=
  (q_unL hL_X11_dish cu_X11_dish 400 64 _ _ _).trans rfl
def cu_X11_mend : List Nat := [0, 5, 14, 38]
theorem hL_X11_mend : q_P 109 = q_find P_X11_mend := rfl
theorem c_X11_mend (a0 a1 a2 : Int) (s : q_M) : q_Cc 109 [(21, a0), (0, a1), (0, a2)] s = q_L 109 0 [(21, a0), (0, a1), (0, a2), (9, 0), (9, 0)] [] s := rfl
set_option maxRecDepth 100000 in
theorem e_X11_mend_0 (a0 a1 a2 : Int) (sh : Int × (Int → Nat × Int)) (h : Int → Int → Int) : q_L 109 0 [(21, a0), (0, a1), (0, a2), (9, 0), (9, 0)] [] (sh, h) = (q_Cc 154 [(21, a0), (0, a1)] (sh, h)).bind (fun r => q_L 109 5 [(21, a0), (0, a1), (0, a2), (9, 0), (9, 0)] [r.1] r.2) :=
  (q_unL hL_X11_mend cu_X11_mend 400 0 _ _ _).trans rfl
set_option maxRecDepth 100000 in
theorem e_X11_mend_5 (a0 a1 a2 b0 : Int) (sh : Int × (Int → Nat × Int)) (h : Int → Int → Int) : q_L 109 5 [(21, a0), (0, a1), (0, a2), (9, 0), (9, 0)] [(0, b0)] (sh, h) = if b0 = 0 then (if 0 ≤ h a0 0 then (if 0 ≤ h (h a0 0) 5 then (if 0 ≤ a1 ∧ a1 < (sh.2 (h (h a0 0) 5)).2 ∧ 0 ≤ h (h (h a0 0) 5) a1 then (if (h (h (h (h a0 0) 5) a1) 3) = a2 then (q_L 109 38 [(21, a0), (0, a1), (0, a2), (13, h (h (h a0 0) 5) a1), (9, 0)] [(0, 0)] (sh, h)) else (q_L 109 38 [(21, a0), (0, a1), (0, a2), (13, h (h (h a0 0) 5) a1), (9, 0)] [(0, 1)] (sh, h))) else none) else none) else none) else ((q_Cc 159 [(21, a0), (0, (-1000001))] (sh, h)).bind (fun r => q_L 109 14 [(21, a0), (0, a1), (0, a2), (9, 0), (9, 0)] [r.1] r.2)) :=
  (q_unL hL_X11_mend cu_X11_mend 400 5 _ _ _).trans rfl
set_option maxRecDepth 100000 in
theorem e_X11_mend_14 (a0 a1 a2 b0 : Int) (sh : Int × (Int → Nat × Int)) (h : Int → Int → Int) : q_L 109 14 [(21, a0), (0, a1), (0, a2), (9, 0), (9, 0)] [(0, b0)] (sh, h) = some ((0, b0), (sh, h)) :=
  (q_unL hL_X11_mend cu_X11_mend 400 14 _ _ _).trans rfl
set_option maxRecDepth 100000 in
theorem e_X11_mend_38 (a0 a1 a2 a3 b0 : Int) (sh : Int × (Int → Nat × Int)) (h : Int → Int → Int) : q_L 109 38 [(21, a0), (0, a1), (0, a2), (13, a3), (9, 0)] [(0, b0)] (sh, h) = if a2 = 0 ∨ a2 = 1 then (some ((0, b0), (sh, q_up h a3 3 a2))) else none :=
  (q_unL hL_X11_mend cu_X11_mend 400 38 _ _ _).trans rfl
def cu_X11_dishIs : List Nat := [0, 5, 14, 87, 96, 103]
theorem hL_X11_dishIs : q_P 110 = q_find P_X11_dishIs := rfl
theorem c_X11_dishIs (a0 a1 a2 : Int) (s : q_M) : q_Cc 110 [(21, a0), (0, a1), (0, a2)] s = q_L 110 0 [(21, a0), (0, a1), (0, a2), (9, 0)] [] s := rfl
set_option maxRecDepth 100000 in
theorem e_X11_dishIs_0 (a0 a1 a2 : Int) (sh : Int × (Int → Nat × Int)) (h : Int → Int → Int) : q_L 110 0 [(21, a0), (0, a1), (0, a2), (9, 0)] [] (sh, h) = (q_Cc 154 [(21, a0), (0, a1)] (sh, h)).bind (fun r => q_L 110 5 [(21, a0), (0, a1), (0, a2), (9, 0)] [r.1] r.2) :=
  (q_unL hL_X11_dishIs cu_X11_dishIs 400 0 _ _ _).trans rfl
set_option maxRecDepth 100000 in
theorem e_X11_dishIs_5 (a0 a1 a2 b0 : Int) (sh : Int × (Int → Nat × Int)) (h : Int → Int → Int) : q_L 110 5 [(21, a0), (0, a1), (0, a2), (9, 0)] [(0, b0)] (sh, h) = if b0 = 0 then (if 0 ≤ h a0 0 then (if 0 ≤ h (h a0 0) 5 then (if 0 ≤ a1 ∧ a1 < (sh.2 (h (h a0 0) 5)).2 ∧ 0 ≤ h (h (h a0 0) 5) a1 then (if a2 = 0 then (some ((0, h (h (h (h a0 0) 5) a1) 0), (sh, h))) else (if a2 = 1 then (some ((0, h (h (h (h a0 0) 5) a1) 1), (sh, h))) else (if a2 = 2 then (some ((0, h (h (h (h a0 0) 5) a1) 2), (sh, h))) else (if a2 = 3 then (if (h (h (h (h a0 0) 5) a1) 3) = 0 then (q_L 110 87 [(21, a0), (0, a1), (0, a2), (13, h (h (h a0 0) 5) a1)] [(0, 0)] (sh, h)) else (q_L 110 87 [(21, a0), (0, a1), (0, a2), (13, h (h (h a0 0) 5) a1)] [(0, 1)] (sh, h))) else (if a2 = 4 then (if 0 ≤ h a0 0 then ((q_Cc 97 [(20, h a0 0), (0, a1)] (sh, h)).bind (fun r => q_L 110 96 [(21, a0), (0, a1), (0, a2), (13, h (h (h a0 0) 5) a1)] [r.1] r.2)) else none) else ((q_Cc 159 [(21, a0), (0, (-1000001))] (sh, h)).bind (fun r => q_L 110 103 [(21, a0), (0, a1), (0, a2), (13, h (h (h a0 0) 5) a1)] [r.1] r.2))))))) else none) else none) else none) else ((q_Cc 159 [(21, a0), (0, (-1000001))] (sh, h)).bind (fun r => q_L 110 14 [(21, a0), (0, a1), (0, a2), (9, 0)] [r.1] r.2)) :=
  (q_unL hL_X11_dishIs cu_X11_dishIs 400 5 _ _ _).trans rfl
set_option maxRecDepth 100000 in
theorem e_X11_dishIs_14 (a0 a1 a2 b0 : Int) (sh : Int × (Int → Nat × Int)) (h : Int → Int → Int) : q_L 110 14 [(21, a0), (0, a1), (0, a2), (9, 0)] [(0, b0)] (sh, h) = some ((0, b0), (sh, h)) :=
  (q_unL hL_X11_dishIs cu_X11_dishIs 400 14 _ _ _).trans rfl
set_option maxRecDepth 100000 in
theorem e_X11_dishIs_87 (a0 a1 a2 a3 b0 : Int) (sh : Int × (Int → Nat × Int)) (h : Int → Int → Int) : q_L 110 87 [(21, a0), (0, a1), (0, a2), (13, a3)] [(0, b0)] (sh, h) = some ((0, b0), (sh, h)) :=
  (q_unL hL_X11_dishIs cu_X11_dishIs 400 87 _ _ _).trans rfl
set_option maxRecDepth 100000 in
theorem e_X11_dishIs_96 (a0 a1 a2 a3 b0 : Int) (sh : Int × (Int → Nat × Int)) (h : Int → Int → Int) : q_L 110 96 [(21, a0), (0, a1), (0, a2), (13, a3)] [(0, b0)] (sh, h) = some ((0, b0), (sh, h)) :=
  (q_unL hL_X11_dishIs cu_X11_dishIs 400 96 _ _ _).trans rfl
set_option maxRecDepth 100000 in
theorem e_X11_dishIs_103 (a0 a1 a2 a3 b0 : Int) (sh : Int × (Int → Nat × Int)) (h : Int → Int → Int) : q_L 110 103 [(21, a0), (0, a1), (0, a2), (13, a3)] [(0, b0)] (sh, h) = some ((0, b0), (sh, h)) :=
  (q_unL hL_X11_dishIs cu_X11_dishIs 400 103 _ _ _).trans rfl
def cu_X11_craft : List Nat := [0, 19, 29, 40, 51, 54, 60, 79, 93]
theorem hL_X11_craft : q_P 111 = q_find P_X11_craft := rfl
theorem c_X11_craft (a0 a1 a2 a3 : Int) (s : q_M) : q_Cc 111 [(21, a0), (0, a1), (0, a2), (0, a3)] s = q_L 111 0 [(21, a0), (0, a1), (0, a2), (0, a3), (9, 0), (9, 0)] [] s := rfl
set_option maxRecDepth 100000 in
theorem e_X11_craft_0 (a0 a1 a2 a3 : Int) (sh : Int × (Int → Nat × Int)) (h : Int → Int → Int) : q_L 111 0 [(21, a0), (0, a1), (0, a2), (0, a3), (9, 0), (9, 0)] [] (sh, h) = if (10 : Int) = 0 then none else if (10 : Int) = 0 then none else (q_Cc 153 [(0, a1), (0, 1), (0, 9)] (sh, h)).bind (fun r => q_L 111 19 [(21, a0), (0, a1), (0, a2), (0, a3), (0, q_div a3 (10 : Int)), (0, q_rem a3 (10 : Int))] [r.1] r.2) :=
  (q_unL hL_X11_craft cu_X11_craft 400 0 _ _ _).trans rfl
set_option maxRecDepth 100000 in
theorem e_X11_craft_19 (a0 a1 a2 a3 a4 a5 b0 : Int) (sh : Int × (Int → Nat × Int)) (h : Int → Int → Int) : q_L 111 19 [(21, a0), (0, a1), (0, a2), (0, a3), (0, a4), (0, a5)] [(0, b0)] (sh, h) = if b0 = 0 then ((q_Cc 153 [(0, a2), (0, 0), (0, 30)] (sh, h)).bind (fun r => q_L 111 29 [(21, a0), (0, a1), (0, a2), (0, a3), (0, a4), (0, a5)] [r.1] r.2)) else (q_L 111 54 [(21, a0), (0, a1), (0, a2), (0, a3), (0, a4), (0, a5)] [] (sh, h)) :=
  (q_unL hL_X11_craft cu_X11_craft 400 19 _ _ _).trans rfl
set_option maxRecDepth 100000 in
theorem e_X11_craft_29 (a0 a1 a2 a3 a4 a5 b0 : Int) (sh : Int × (Int → Nat × Int)) (h : Int → Int → Int) : q_L 111 29 [(21, a0), (0, a1), (0, a2), (0, a3), (0, a4), (0, a5)] [(0, b0)] (sh, h) = if b0 = 0 then ((q_Cc 153 [(0, a4), (0, 1), (0, 12)] (sh, h)).bind (fun r => q_L 111 40 [(21, a0), (0, a1), (0, a2), (0, a3), (0, a4), (0, a5)] [r.1] r.2)) else (q_L 111 54 [(21, a0), (0, a1), (0, a2), (0, a3), (0, a4), (0, a5)] [] (sh, h)) :=
  (q_unL hL_X11_craft cu_X11_craft 400 29 _ _ _).trans rfl
set_option maxRecDepth 100000 in
theorem e_X11_craft_40 (a0 a1 a2 a3 a4 a5 b0 : Int) (sh : Int × (Int → Nat × Int)) (h : Int → Int → Int) : q_L 111 40 [(21, a0), (0, a1), (0, a2), (0, a3), (0, a4), (0, a5)] [(0, b0)] (sh, h) = if b0 = 0 then ((q_Cc 153 [(0, a5), (0, 0), (0, 6)] (sh, h)).bind (fun r => q_L 111 51 [(21, a0), (0, a1), (0, a2), (0, a3), (0, a4), (0, a5)] [r.1] r.2)) else (q_L 111 54 [(21, a0), (0, a1), (0, a2), (0, a3), (0, a4), (0, a5)] [] (sh, h)) :=
  (q_unL hL_X11_craft cu_X11_craft 400 40 _ _ _).trans rfl
set_option maxRecDepth 100000 in
theorem e_X11_craft_51 (a0 a1 a2 a3 a4 a5 b0 : Int) (sh : Int × (Int → Nat × Int)) (h : Int → Int → Int) : q_L 111 51 [(21, a0), (0, a1), (0, a2), (0, a3), (0, a4), (0, a5)] [(0, b0)] (sh, h) = if b0 = 0 then (if 0 ≤ h a0 0 then (if (h (h a0 0) 2) < (8 : Int) then (if 0 ≤ h a0 0 then ((q_Cc 93 [(20, h a0 0), (0, a1), (0, a2), (0, a4), (0, a5)] (sh, h)).bind (fun r => q_L 111 93 [(21, a0), (0, a1), (0, a2), (0, a3), (0, a4), (0, a5)] [r.1] r.2)) else none) else ((q_Cc 159 [(21, a0), (0, (-1000002))] (sh, h)).bind (fun r => q_L 111 79 [(21, a0), (0, a1), (0, a2), (0, a3), (0, a4), (0, a5)] [r.1] r.2))) else none) else (q_L 111 54 [(21, a0), (0, a1), (0, a2), (0, a3), (0, a4), (0, a5)] [] (sh, h)) :=
  (q_unL hL_X11_craft cu_X11_craft 400 51 _ _ _).trans rfl
set_option maxRecDepth 100000 in
theorem e_X11_craft_54 (a0 a1 a2 a3 a4 a5 : Int) (sh : Int × (Int → Nat × Int)) (h : Int → Int → Int) : q_L 111 54 [(21, a0), (0, a1), (0, a2), (0, a3), (0, a4), (0, a5)] [] (sh, h) = (q_Cc 159 [(21, a0), (0, (-1000001))] (sh, h)).bind (fun r => q_L 111 60 [(21, a0), (0, a1), (0, a2), (0, a3), (0, a4), (0, a5)] [r.1] r.2) :=
  (q_unL hL_X11_craft cu_X11_craft 400 54 _ _ _).trans rfl
set_option maxRecDepth 100000 in
theorem e_X11_craft_60 (a0 a1 a2 a3 a4 a5 b0 : Int) (sh : Int × (Int → Nat × Int)) (h : Int → Int → Int) : q_L 111 60 [(21, a0), (0, a1), (0, a2), (0, a3), (0, a4), (0, a5)] [(0, b0)] (sh, h) = some ((0, b0), (sh, h)) :=
  (q_unL hL_X11_craft cu_X11_craft 400 60 _ _ _).trans rfl
set_option maxRecDepth 100000 in
theorem e_X11_craft_79 (a0 a1 a2 a3 a4 a5 b0 : Int) (sh : Int × (Int → Nat × Int)) (h : Int → Int → Int) : q_L 111 79 [(21, a0), (0, a1), (0, a2), (0, a3), (0, a4), (0, a5)] [(0, b0)] (sh, h) = some ((0, b0), (sh, h)) :=
  (q_unL hL_X11_craft cu_X11_craft 400 79 _ _ _).trans rfl
set_option maxRecDepth 100000 in
theorem e_X11_craft_93 (a0 a1 a2 a3 a4 a5 b0 : Int) (sh : Int × (Int → Nat × Int)) (h : Int → Int → Int) : q_L 111 93 [(21, a0), (0, a1), (0, a2), (0, a3), (0, a4), (0, a5)] [(0, b0)] (sh, h) = some ((0, b0), (sh, h)) :=
  (q_unL hL_X11_craft cu_X11_craft 400 93 _ _ _).trans rfl
def cu_X11_craftIs : List Nat := [0, 5, 14, 122, 169]
theorem hL_X11_craftIs : q_P 112 = q_find P_X11_craftIs := rfl
theorem c_X11_craftIs (a0 a1 a2 : Int) (s : q_M) : q_Cc 112 [(21, a0), (0, a1), (0, a2)] s = q_L 112 0 [(21, a0), (0, a1), (0, a2), (9, 0)] [] s := rfl
set_option maxRecDepth 100000 in
theorem e_X11_craftIs_0 (a0 a1 a2 : Int) (sh : Int × (Int → Nat × Int)) (h : Int → Int → Int) : q_L 112 0 [(21, a0), (0, a1), (0, a2), (9, 0)] [] (sh, h) = (q_Cc 155 [(21, a0), (0, a1)] (sh, h)).bind (fun r => q_L 112 5 [(21, a0), (0, a1), (0, a2), (9, 0)] [r.1] r.2) :=
  (q_unL hL_X11_craftIs cu_X11_craftIs 400 0 _ _ _).trans rfl
set_option maxRecDepth 100000 in
theorem e_X11_craftIs_5 (a0 a1 a2 b0 : Int) (sh : Int × (Int → Nat × Int)) (h : Int → Int → Int) : q_L 112 5 [(21, a0), (0, a1), (0, a2), (9, 0)] [(0, b0)] (sh, h) = if b0 = 0 then (if 0 ≤ h a0 0 then (if 0 ≤ h (h a0 0) 6 then (if 0 ≤ a1 ∧ a1 < (sh.2 (h (h a0 0) 6)).2 ∧ 0 ≤ h (h (h a0 0) 6) a1 then (if a2 = 0 then (some ((0, h (h (h (h a0 0) 6) a1) 0), (sh, h))) else (if a2 = 1 then (some ((0, h (h (h (h a0 0) 6) a1) 1), (sh, h))) else (if a2 = 2 then (if 0 ≤ h (h (h (h a0 0) 6) a1) 5 then (some ((0, h (h (h (h (h a0 0) 6) a1) 5) 0), (sh, h))) else none) else (if a2 = 3 then (some ((0, h (h (h (h a0 0) 6) a1) 2), (sh, h))) else (if a2 = 4 then (if 0 ≤ h (h (h (h a0 0) 6) a1) 5 then (some ((0, h (h (h (h (h a0 0) 6) a1) 5) 1), (sh, h))) else none) else (if a2 = 5 then (if 0 ≤ h (h (h (h a0 0) 6) a1) 5 then ((q_Cc 11 [(11, h (h (h (h a0 0) 6) a1) 5)] (sh, h)).bind (fun r => q_L 112 122 [(21, a0), (0, a1), (0, a2), (12, h (h (h a0 0) 6) a1)] [r.1] r.2)) else none) else (if a2 = 6 then (if 0 ≤ h (h (h (h a0 0) 6) a1) 5 then (some ((0, h (h (h (h (h a0 0) 6) a1) 5) 2), (sh, h))) else none) else (if a2 = 7 then (if 0 ≤ h (h (h (h a0 0) 6) a1) 5 then (some ((0, h (h (h (h (h a0 0) 6) a1) 5) 3), (sh, h))) else none) else (if a2 = 8 then (if 0 ≤ h (h (h (h a0 0) 6) a1) 5 then (some ((0, h (h (h (h (h a0 0) 6) a1) 5) 4), (sh, h))) else none) else (if a2 = 9 then (if 0 ≤ h (h (h (h a0 0) 6) a1) 5 then (some ((0, h (h (h (h (h a0 0) 6) a1) 5) 5), (sh, h))) else none) else (if a2 = 10 then (if 0 ≤ h (h (h (h a0 0) 6) a1) 6 then (some ((0, h (h (h (h (h a0 0) 6) a1) 6) 0), (sh, h))) else none) else ((q_Cc 159 [(21, a0), (0, (-1000001))] (sh, h)).bind (fun r => q_L 112 169 [(21, a0), (0, a1), (0, a2), (12, h (h (h a0 0) 6) a1)] [r.1] r.2))))))))))))) else none) else none) else none) else ((q_Cc 159 [(21, a0), (0, (-1000001))] (sh, h)).bind (fun r => q_L 112 14 [(21, a0), (0, a1), (0, a2), (9, 0)] [r.1] r.2)) :=
  (q_unL hL_X11_craftIs cu_X11_craftIs 400 5 _ _ _).trans rfl
set_option maxRecDepth 100000 in
theorem e_X11_craftIs_14 (a0 a1 a2 b0 : Int) (sh : Int × (Int → Nat × Int)) (h : Int → Int → Int) : q_L 112 14 [(21, a0), (0, a1), (0, a2), (9, 0)] [(0, b0)] (sh, h) = some ((0, b0), (sh, h)) :=
  (q_unL hL_X11_craftIs cu_X11_craftIs 400 14 _ _ _).trans rfl
set_option maxRecDepth 100000 in
theorem e_X11_craftIs_122 (a0 a1 a2 a3 b0 : Int) (sh : Int × (Int → Nat × Int)) (h : Int → Int → Int) : q_L 112 122 [(21, a0), (0, a1), (0, a2), (12, a3)] [(0, b0)] (sh, h) = some ((0, b0), (sh, h)) :=
  (q_unL hL_X11_craftIs cu_X11_craftIs 400 122 _ _ _).trans rfl
set_option maxRecDepth 100000 in
theorem e_X11_craftIs_169 (a0 a1 a2 a3 b0 : Int) (sh : Int × (Int → Nat × Int)) (h : Int → Int → Int) : q_L 112 169 [(21, a0), (0, a1), (0, a2), (12, a3)] [(0, b0)] (sh, h) = some ((0, b0), (sh, h)) :=
  (q_unL hL_X11_craftIs cu_X11_craftIs 400 169 _ _ _).trans rfl
def cu_X11_rises : List Nat := [0, 5, 14, 24, 35, 38, 44, 61]
theorem hL_X11_rises : q_P 113 = q_find P_X11_rises := rfl
theorem c_X11_rises (a0 a1 a2 a3 a4 : Int) (s : q_M) : q_Cc 113 [(21, a0), (0, a1), (0, a2), (0, a3), (0, a4)] s = q_L 113 0 [(21, a0), (0, a1), (0, a2), (0, a3), (0, a4)] [] s := rfl
set_option maxRecDepth 100000 in
theorem e_X11_rises_0 (a0 a1 a2 a3 a4 : Int) (sh : Int × (Int → Nat × Int)) (h : Int → Int → Int) : q_L 113 0 [(21, a0), (0, a1), (0, a2), (0, a3), (0, a4)] [] (sh, h) = (q_Cc 155 [(21, a0), (0, a1)] (sh, h)).bind (fun r => q_L 113 5 [(21, a0), (0, a1), (0, a2), (0, a3), (0, a4)] [r.1] r.2) :=
  (q_unL hL_X11_rises cu_X11_rises 400 0 _ _ _).trans rfl
set_option maxRecDepth 100000 in
theorem e_X11_rises_5 (a0 a1 a2 a3 a4 b0 : Int) (sh : Int × (Int → Nat × Int)) (h : Int → Int → Int) : q_L 113 5 [(21, a0), (0, a1), (0, a2), (0, a3), (0, a4)] [(0, b0)] (sh, h) = if b0 = 0 then ((q_Cc 153 [(0, a2), (0, 0), (0, 2)] (sh, h)).bind (fun r => q_L 113 14 [(21, a0), (0, a1), (0, a2), (0, a3), (0, a4)] [r.1] r.2)) else (q_L 113 38 [(21, a0), (0, a1), (0, a2), (0, a3), (0, a4)] [] (sh, h)) :=
  (q_unL hL_X11_rises cu_X11_rises 400 5 _ _ _).trans rfl
set_option maxRecDepth 100000 in
theorem e_X11_rises_14 (a0 a1 a2 a3 a4 b0 : Int) (sh : Int × (Int → Nat × Int)) (h : Int → Int → Int) : q_L 113 14 [(21, a0), (0, a1), (0, a2), (0, a3), (0, a4)] [(0, b0)] (sh, h) = if b0 = 0 then ((q_Cc 153 [(0, a3), (0, 0), (0, 23)] (sh, h)).bind (fun r => q_L 113 24 [(21, a0), (0, a1), (0, a2), (0, a3), (0, a4)] [r.1] r.2)) else (q_L 113 38 [(21, a0), (0, a1), (0, a2), (0, a3), (0, a4)] [] (sh, h)) :=
  (q_unL hL_X11_rises cu_X11_rises 400 14 _ _ _).trans rfl
set_option maxRecDepth 100000 in
theorem e_X11_rises_24 (a0 a1 a2 a3 a4 b0 : Int) (sh : Int × (Int → Nat × Int)) (h : Int → Int → Int) : q_L 113 24 [(21, a0), (0, a1), (0, a2), (0, a3), (0, a4)] [(0, b0)] (sh, h) = if b0 = 0 then ((q_Cc 153 [(0, a4), (0, 0), (0, 24)] (sh, h)).bind (fun r => q_L 113 35 [(21, a0), (0, a1), (0, a2), (0, a3), (0, a4)] [r.1] r.2)) else (q_L 113 38 [(21, a0), (0, a1), (0, a2), (0, a3), (0, a4)] [] (sh, h)) :=
  (q_unL hL_X11_rises cu_X11_rises 400 24 _ _ _).trans rfl
set_option maxRecDepth 100000 in
theorem e_X11_rises_35 (a0 a1 a2 a3 a4 b0 : Int) (sh : Int × (Int → Nat × Int)) (h : Int → Int → Int) : q_L 113 35 [(21, a0), (0, a1), (0, a2), (0, a3), (0, a4)] [(0, b0)] (sh, h) = if b0 = 0 then (if 0 ≤ h a0 0 then (if 0 ≤ h (h a0 0) 6 then (if 0 ≤ a1 ∧ a1 < (sh.2 (h (h a0 0) 6)).2 ∧ 0 ≤ h (h (h a0 0) 6) a1 then ((q_Cc 22 [(12, h (h (h a0 0) 6) a1), (0, a2), (0, a3), (0, a4)] (sh, h)).bind (fun r => q_L 113 61 [(21, a0), (0, a1), (0, a2), (0, a3), (0, a4)] [r.1] r.2)) else none) else none) else none) else (q_L 113 38 [(21, a0), (0, a1), (0, a2), (0, a3), (0, a4)] [] (sh, h)) :=
  (q_unL hL_X11_rises cu_X11_rises 400 35 _ _ _).trans rfl
set_option maxRecDepth 100000 in
theorem e_X11_rises_38 (a0 a1 a2 a3 a4 : Int) (sh : Int × (Int → Nat × Int)) (h : Int → Int → Int) : q_L 113 38 [(21, a0), (0, a1), (0, a2), (0, a3), (0, a4)] [] (sh, h) = (q_Cc 159 [(21, a0), (0, (-1000001))] (sh, h)).bind (fun r => q_L 113 44 [(21, a0), (0, a1), (0, a2), (0, a3), (0, a4)] [r.1] r.2) :=
  (q_unL hL_X11_rises cu_X11_rises 400 38 _ _ _).trans rfl
set_option maxRecDepth 100000 in
theorem e_X11_rises_44 (a0 a1 a2 a3 a4 b0 : Int) (sh : Int × (Int → Nat × Int)) (h : Int → Int → Int) : q_L 113 44 [(21, a0), (0, a1), (0, a2), (0, a3), (0, a4)] [(0, b0)] (sh, h) = some ((0, b0), (sh, h)) :=
  (q_unL hL_X11_rises cu_X11_rises 400 44 _ _ _).trans rfl
set_option maxRecDepth 100000 in
theorem e_X11_rises_61 (a0 a1 a2 a3 a4 b0 : Int) (sh : Int × (Int → Nat × Int)) (h : Int → Int → Int) : q_L 113 61 [(21, a0), (0, a1), (0, a2), (0, a3), (0, a4)] [(0, b0)] (sh, h) = some ((0, b0), (sh, h)) :=
  (q_unL hL_X11_rises cu_X11_rises 400 61 _ _ _).trans rfl
def cu_X11_up : List Nat := [0, 5, 14, 25, 28, 34, 49, 57]
theorem hL_X11_up : q_P 114 = q_find P_X11_up := rfl
theorem c_X11_up (a0 a1 a2 a3 : Int) (s : q_M) : q_Cc 114 [(21, a0), (0, a1), (0, a2), (0, a3)] s = q_L 114 0 [(21, a0), (0, a1), (0, a2), (0, a3)] [] s := rfl
set_option maxRecDepth 100000 in
theorem e_X11_up_0 (a0 a1 a2 a3 : Int) (sh : Int × (Int → Nat × Int)) (h : Int → Int → Int) : q_L 114 0 [(21, a0), (0, a1), (0, a2), (0, a3)] [] (sh, h) = (q_Cc 155 [(21, a0), (0, a1)] (sh, h)).bind (fun r => q_L 114 5 [(21, a0), (0, a1), (0, a2), (0, a3)] [r.1] r.2) :=
  (q_unL hL_X11_up cu_X11_up 400 0 _ _ _).trans rfl
set_option maxRecDepth 100000 in
theorem e_X11_up_5 (a0 a1 a2 a3 b0 : Int) (sh : Int × (Int → Nat × Int)) (h : Int → Int → Int) : q_L 114 5 [(21, a0), (0, a1), (0, a2), (0, a3)] [(0, b0)] (sh, h) = if b0 = 0 then ((q_Cc 153 [(0, a2), (0, 0), (0, 2)] (sh, h)).bind (fun r => q_L 114 14 [(21, a0), (0, a1), (0, a2), (0, a3)] [r.1] r.2)) else (q_L 114 28 [(21, a0), (0, a1), (0, a2), (0, a3)] [] (sh, h)) :=
  (q_unL hL_X11_up cu_X11_up 400 5 _ _ _).trans rfl
set_option maxRecDepth 100000 in
theorem e_X11_up_14 (a0 a1 a2 a3 b0 : Int) (sh : Int × (Int → Nat × Int)) (h : Int → Int → Int) : q_L 114 14 [(21, a0), (0, a1), (0, a2), (0, a3)] [(0, b0)] (sh, h) = if b0 = 0 then ((q_Cc 153 [(0, a3), (0, 0), (0, 4000)] (sh, h)).bind (fun r => q_L 114 25 [(21, a0), (0, a1), (0, a2), (0, a3)] [r.1] r.2)) else (q_L 114 28 [(21, a0), (0, a1), (0, a2), (0, a3)] [] (sh, h)) :=
  (q_unL hL_X11_up cu_X11_up 400 14 _ _ _).trans rfl
set_option maxRecDepth 100000 in
theorem e_X11_up_25 (a0 a1 a2 a3 b0 : Int) (sh : Int × (Int → Nat × Int)) (h : Int → Int → Int) : q_L 114 25 [(21, a0), (0, a1), (0, a2), (0, a3)] [(0, b0)] (sh, h) = if b0 = 0 then (if 0 ≤ h a0 0 then (if 0 ≤ h (h a0 0) 6 then (if 0 ≤ a1 ∧ a1 < (sh.2 (h (h a0 0) 6)).2 ∧ 0 ≤ h (h (h a0 0) 6) a1 then ((q_Cc 23 [(12, h (h (h a0 0) 6) a1), (0, a2), (0, a3)] (sh, h)).bind (fun r => q_L 114 49 [(21, a0), (0, a1), (0, a2), (0, a3)] [r.1] r.2)) else none) else none) else none) else (q_L 114 28 [(21, a0), (0, a1), (0, a2), (0, a3)] [] (sh, h)) :=
  (q_unL hL_X11_up cu_X11_up 400 25 _ _ _).trans rfl
set_option maxRecDepth 100000 in
theorem e_X11_up_28 (a0 a1 a2 a3 : Int) (sh : Int × (Int → Nat × Int)) (h : Int → Int → Int) : q_L 114 28 [(21, a0), (0, a1), (0, a2), (0, a3)] [] (sh, h) = (q_Cc 159 [(21, a0), (0, (-1000001))] (sh, h)).bind (fun r => q_L 114 34 [(21, a0), (0, a1), (0, a2), (0, a3)] [r.1] r.2) :=
  (q_unL hL_X11_up cu_X11_up 400 28 _ _ _).trans rfl
set_option maxRecDepth 100000 in
theorem e_X11_up_34 (a0 a1 a2 a3 b0 : Int) (sh : Int × (Int → Nat × Int)) (h : Int → Int → Int) : q_L 114 34 [(21, a0), (0, a1), (0, a2), (0, a3)] [(0, b0)] (sh, h) = some ((0, b0), (sh, h)) :=
  (q_unL hL_X11_up cu_X11_up 400 34 _ _ _).trans rfl
set_option maxRecDepth 100000 in
theorem e_X11_up_49 (a0 a1 a2 a3 b0 : Int) (sh : Int × (Int → Nat × Int)) (h : Int → Int → Int) : q_L 114 49 [(21, a0), (0, a1), (0, a2), (0, a3)] [(0, b0)] (sh, h) = if b0 = 0 then (q_L 114 57 [(21, a0), (0, a1), (0, a2), (0, a3)] [(0, 0)] (sh, h)) else (q_L 114 57 [(21, a0), (0, a1), (0, a2), (0, a3)] [(0, 1)] (sh, h)) :=
  (q_unL hL_X11_up cu_X11_up 400 49 _ _ _).trans rfl
set_option maxRecDepth 100000 in
theorem e_X11_up_57 (a0 a1 a2 a3 b0 : Int) (sh : Int × (Int → Nat × Int)) (h : Int → Int → Int) : q_L 114 57 [(21, a0), (0, a1), (0, a2), (0, a3)] [(0, b0)] (sh, h) = some ((0, b0), (sh, h)) :=
  (q_unL hL_X11_up cu_X11_up 400 57 _ _ _).trans rfl
def cu_X11_rise : List Nat := [0, 5, 14, 25, 36, 39, 45, 62, 75, 80]
theorem hL_X11_rise : q_P 115 = q_find P_X11_rise := rfl
theorem c_X11_rise (a0 a1 a2 a3 a4 : Int) (s : q_M) : q_Cc 115 [(21, a0), (0, a1), (0, a2), (0, a3), (0, a4)] s = q_L 115 0 [(21, a0), (0, a1), (0, a2), (0, a3), (0, a4), (9, 0)] [] s := rfl
set_option maxRecDepth 100000 in
theorem e_X11_rise_0 (a0 a1 a2 a3 a4 : Int) (sh : Int × (Int → Nat × Int)) (h : Int → Int → Int) : q_L 115 0 [(21, a0), (0, a1), (0, a2), (0, a3), (0, a4), (9, 0)] [] (sh, h) = (q_Cc 155 [(21, a0), (0, a1)] (sh, h)).bind (fun r => q_L 115 5 [(21, a0), (0, a1), (0, a2), (0, a3), (0, a4), (9, 0)] [r.1] r.2) :=
  (q_unL hL_X11_rise cu_X11_rise 400 0 _ _ _).trans rfl
set_option maxRecDepth 100000 in
theorem e_X11_rise_5 (a0 a1 a2 a3 a4 b0 : Int) (sh : Int × (Int → Nat × Int)) (h : Int → Int → Int) : q_L 115 5 [(21, a0), (0, a1), (0, a2), (0, a3), (0, a4), (9, 0)] [(0, b0)] (sh, h) = if b0 = 0 then ((q_Cc 153 [(0, a2), (0, 0), (0, 2)] (sh, h)).bind (fun r => q_L 115 14 [(21, a0), (0, a1), (0, a2), (0, a3), (0, a4), (9, 0)] [r.1] r.2)) else (q_L 115 39 [(21, a0), (0, a1), (0, a2), (0, a3), (0, a4), (9, 0)] [] (sh, h)) :=
  (q_unL hL_X11_rise cu_X11_rise 400 5 _ _ _).trans rfl
set_option maxRecDepth 100000 in
theorem e_X11_rise_14 (a0 a1 a2 a3 a4 b0 : Int) (sh : Int × (Int → Nat × Int)) (h : Int → Int → Int) : q_L 115 14 [(21, a0), (0, a1), (0, a2), (0, a3), (0, a4), (9, 0)] [(0, b0)] (sh, h) = if b0 = 0 then ((q_Cc 153 [(0, a3), (0, 0), (0, 4000)] (sh, h)).bind (fun r => q_L 115 25 [(21, a0), (0, a1), (0, a2), (0, a3), (0, a4), (9, 0)] [r.1] r.2)) else (q_L 115 39 [(21, a0), (0, a1), (0, a2), (0, a3), (0, a4), (9, 0)] [] (sh, h)) :=
  (q_unL hL_X11_rise cu_X11_rise 400 14 _ _ _).trans rfl
set_option maxRecDepth 100000 in
theorem e_X11_rise_25 (a0 a1 a2 a3 a4 b0 : Int) (sh : Int × (Int → Nat × Int)) (h : Int → Int → Int) : q_L 115 25 [(21, a0), (0, a1), (0, a2), (0, a3), (0, a4), (9, 0)] [(0, b0)] (sh, h) = if b0 = 0 then ((q_Cc 153 [(0, a4), (0, 1), (0, 9)] (sh, h)).bind (fun r => q_L 115 36 [(21, a0), (0, a1), (0, a2), (0, a3), (0, a4), (9, 0)] [r.1] r.2)) else (q_L 115 39 [(21, a0), (0, a1), (0, a2), (0, a3), (0, a4), (9, 0)] [] (sh, h)) :=
  (q_unL hL_X11_rise cu_X11_rise 400 25 _ _ _).trans rfl
set_option maxRecDepth 100000 in
theorem e_X11_rise_36 (a0 a1 a2 a3 a4 b0 : Int) (sh : Int × (Int → Nat × Int)) (h : Int → Int → Int) : q_L 115 36 [(21, a0), (0, a1), (0, a2), (0, a3), (0, a4), (9, 0)] [(0, b0)] (sh, h) = if b0 = 0 then (if 0 ≤ h a0 0 then (if 0 ≤ h (h a0 0) 6 then (if 0 ≤ a1 ∧ a1 < (sh.2 (h (h a0 0) 6)).2 ∧ 0 ≤ h (h (h a0 0) 6) a1 then ((q_Cc 24 [(12, h (h (h a0 0) 6) a1), (0, a2), (0, a3), (0, a4)] (sh, h)).bind (fun r => q_L 115 62 [(21, a0), (0, a1), (0, a2), (0, a3), (0, a4), (9, 0)] [r.1] r.2)) else none) else none) else none) else (q_L 115 39 [(21, a0), (0, a1), (0, a2), (0, a3), (0, a4), (9, 0)] [] (sh, h)) :=
  (q_unL hL_X11_rise cu_X11_rise 400 36 _ _ _).trans rfl
set_option maxRecDepth 100000 in
theorem e_X11_rise_39 (a0 a1 a2 a3 a4 : Int) (sh : Int × (Int → Nat × Int)) (h : Int → Int → Int) : q_L 115 39 [(21, a0), (0, a1), (0, a2), (0, a3), (0, a4), (9, 0)] [] (sh, h) = (q_Cc 159 [(21, a0), (0, (-1000001))] (sh, h)).bind (fun r => q_L 115 45 [(21, a0), (0, a1), (0, a2), (0, a3), (0, a4), (9, 0)] [r.1] r.2) :=
  (q_unL hL_X11_rise cu_X11_rise 400 39 _ _ _).trans rfl
set_option maxRecDepth 100000 in
theorem e_X11_rise_45 (a0 a1 a2 a3 a4 b0 : Int) (sh : Int × (Int → Nat × Int)) (h : Int → Int → Int) : q_L 115 45 [(21, a0), (0, a1), (0, a2), (0, a3), (0, a4), (9, 0)] [(0, b0)] (sh, h) = some ((0, b0), (sh, h)) :=
  (q_unL hL_X11_rise cu_X11_rise 400 45 _ _ _).trans rfl
set_option maxRecDepth 100000 in
theorem e_X11_rise_62 (a0 a1 a2 a3 a4 b0 : Int) (sh : Int × (Int → Nat × Int)) (h : Int → Int → Int) : q_L 115 62 [(21, a0), (0, a1), (0, a2), (0, a3), (0, a4), (9, 0)] [(0, b0)] (sh, h) = if b0 < 0 then ((q_Cc 159 [(21, a0), (0, (-1000004))] (sh, h)).bind (fun r => q_L 115 75 [(21, a0), (0, a1), (0, a2), (0, a3), (0, a4), (0, b0)] [r.1] r.2)) else (q_L 115 80 [(21, a0), (0, a1), (0, a2), (0, a3), (0, a4), (0, b0)] [(0, b0)] (sh, h)) :=
  (q_unL hL_X11_rise cu_X11_rise 400 62 _ _ _).trans rfl
set_option maxRecDepth 100000 in
theorem e_X11_rise_75 (a0 a1 a2 a3 a4 a5 b0 : Int) (sh : Int × (Int → Nat × Int)) (h : Int → Int → Int) : q_L 115 75 [(21, a0), (0, a1), (0, a2), (0, a3), (0, a4), (0, a5)] [(0, b0)] (sh, h) = q_L 115 80 [(21, a0), (0, a1), (0, a2), (0, a3), (0, a4), (0, a5)] [(0, b0)] (sh, h) :=
  (q_unL hL_X11_rise cu_X11_rise 400 75 _ _ _).trans rfl
set_option maxRecDepth 100000 in
theorem e_X11_rise_80 (a0 a1 a2 a3 a4 a5 b0 : Int) (sh : Int × (Int → Nat × Int)) (h : Int → Int → Int) : q_L 115 80 [(21, a0), (0, a1), (0, a2), (0, a3), (0, a4), (0, a5)] [(0, b0)] (sh, h) = some ((0, b0), (sh, h)) :=
  (q_unL hL_X11_rise cu_X11_rise 400 80 _ _ _).trans rfl
def cu_X11_link : List Nat := [0, 5, 13, 24, 27, 33, 60]
theorem hL_X11_link : q_P 116 = q_find P_X11_link := rfl
theorem c_X11_link (a0 a1 a2 a3 : Int) (s : q_M) : q_Cc 116 [(21, a0), (0, a1), (0, a2), (0, a3)] s = q_L 116 0 [(21, a0), (0, a1), (0, a2), (0, a3)] [] s := rfl
set_option maxRecDepth 100000 in
theorem e_X11_link_0 (a0 a1 a2 a3 : Int) (sh : Int × (Int → Nat × Int)) (h : Int → Int → Int) : q_L 116 0 [(21, a0), (0, a1), (0, a2), (0, a3)] [] (sh, h) = (q_Cc 155 [(21, a0), (0, a1)] (sh, h)).bind (fun r => q_L 116 5 [(21, a0), (0, a1), (0, a2), (0, a3)] [r.1] r.2) :=
  (q_unL hL_X11_link cu_X11_link 400 0 _ _ _).trans rfl
set_option maxRecDepth 100000 in
theorem e_X11_link_5 (a0 a1 a2 a3 b0 : Int) (sh : Int × (Int → Nat × Int)) (h : Int → Int → Int) : q_L 116 5 [(21, a0), (0, a1), (0, a2), (0, a3)] [(0, b0)] (sh, h) = if b0 = 0 then ((q_Cc 154 [(21, a0), (0, a2)] (sh, h)).bind (fun r => q_L 116 13 [(21, a0), (0, a1), (0, a2), (0, a3)] [r.1] r.2)) else (q_L 116 27 [(21, a0), (0, a1), (0, a2), (0, a3)] [] (sh, h)) :=
  (q_unL hL_X11_link cu_X11_link 400 5 _ _ _).trans rfl
set_option maxRecDepth 100000 in
theorem e_X11_link_13 (a0 a1 a2 a3 b0 : Int) (sh : Int × (Int → Nat × Int)) (h : Int → Int → Int) : q_L 116 13 [(21, a0), (0, a1), (0, a2), (0, a3)] [(0, b0)] (sh, h) = if b0 = 0 then ((q_Cc 153 [(0, a3), (0, 0), (0, 4000)] (sh, h)).bind (fun r => q_L 116 24 [(21, a0), (0, a1), (0, a2), (0, a3)] [r.1] r.2)) else (q_L 116 27 [(21, a0), (0, a1), (0, a2), (0, a3)] [] (sh, h)) :=
  (q_unL hL_X11_link cu_X11_link 400 13 _ _ _).trans rfl
set_option maxRecDepth 100000 in
theorem e_X11_link_24 (a0 a1 a2 a3 b0 : Int) (sh : Int × (Int → Nat × Int)) (h : Int → Int → Int) : q_L 116 24 [(21, a0), (0, a1), (0, a2), (0, a3)] [(0, b0)] (sh, h) = if b0 = 0 then (if 0 ≤ h a0 0 then (if 0 ≤ h a0 0 then (if 0 ≤ h (h a0 0) 6 then (if 0 ≤ a1 ∧ a1 < (sh.2 (h (h a0 0) 6)).2 ∧ 0 ≤ h (h (h a0 0) 6) a1 then (if 0 ≤ h a0 0 then (if 0 ≤ h (h a0 0) 5 then (if 0 ≤ a2 ∧ a2 < (sh.2 (h (h a0 0) 5)).2 ∧ 0 ≤ h (h (h a0 0) 5) a2 then ((q_Cc 95 [(20, h a0 0), (12, h (h (h a0 0) 6) a1), (13, h (h (h a0 0) 5) a2), (0, a3)] (sh, h)).bind (fun r => q_L 116 60 [(21, a0), (0, a1), (0, a2), (0, a3)] [r.1] r.2)) else none) else none) else none) else none) else none) else none) else none) else (q_L 116 27 [(21, a0), (0, a1), (0, a2), (0, a3)] [] (sh, h)) :=
  (q_unL hL_X11_link cu_X11_link 400 24 _ _ _).trans rfl
set_option maxRecDepth 100000 in
theorem e_X11_link_27 (a0 a1 a2 a3 : Int) (sh : Int × (Int → Nat × Int)) (h : Int → Int → Int) : q_L 116 27 [(21, a0), (0, a1), (0, a2), (0, a3)] [] (sh, h) = (q_Cc 159 [(21, a0), (0, (-1000001))] (sh, h)).bind (fun r => q_L 116 33 [(21, a0), (0, a1), (0, a2), (0, a3)] [r.1] r.2) :=
  (q_unL hL_X11_link cu_X11_link 400 27 _ _ _).trans rfl
set_option maxRecDepth 100000 in
theorem e_X11_link_33 (a0 a1 a2 a3 b0 : Int) (sh : Int × (Int → Nat × Int)) (h : Int → Int → Int) : q_L 116 33 [(21, a0), (0, a1), (0, a2), (0, a3)] [(0, b0)] (sh, h) = some ((0, b0), (sh, h)) :=
  (q_unL hL_X11_link cu_X11_link 400 33 _ _ _).trans rfl
set_option maxRecDepth 100000 in
theorem e_X11_link_60 (a0 a1 a2 a3 b0 : Int) (sh : Int × (Int → Nat × Int)) (h : Int → Int → Int) : q_L 116 60 [(21, a0), (0, a1), (0, a2), (0, a3)] [(0, b0)] (sh, h) = some ((0, b0), (sh, h)) :=
  (q_unL hL_X11_link cu_X11_link 400 60 _ _ _).trans rfl
def cu_X11_feed : List Nat := [0, 6, 15, 36, 46]
theorem hL_X11_feed : q_P 117 = q_find P_X11_feed := rfl
theorem c_X11_feed (a0 a1 a2 : Int) (s : q_M) : q_Cc 117 [(21, a0), (0, a1), (0, a2)] s = q_L 117 0 [(21, a0), (0, a1), (0, a2)] [] s := rfl
set_option maxRecDepth 100000 in
theorem e_X11_feed_0 (a0 a1 a2 : Int) (sh : Int × (Int → Nat × Int)) (h : Int → Int → Int) : q_L 117 0 [(21, a0), (0, a1), (0, a2)] [] (sh, h) = (q_Cc 153 [(0, a2), (0, 1), (0, 4)] (sh, h)).bind (fun r => q_L 117 6 [(21, a0), (0, a1), (0, a2)] [r.1] r.2) :=
  (q_unL hL_X11_feed cu_X11_feed 400 0 _ _ _).trans rfl
set_option maxRecDepth 100000 in
theorem e_X11_feed_6 (a0 a1 a2 b0 : Int) (sh : Int × (Int → Nat × Int)) (h : Int → Int → Int) : q_L 117 6 [(21, a0), (0, a1), (0, a2)] [(0, b0)] (sh, h) = if b0 = 0 then (if 0 ≤ h a0 4 then (if (110 : Int) < (q_add (h (h a0 4) 1) a2) then ((q_Cc 159 [(21, a0), (0, (-1000002))] (sh, h)).bind (fun r => q_L 117 36 [(21, a0), (0, a1), (0, a2)] [r.1] r.2)) else (if 0 ≤ h a0 4 then ((q_Cc 76 [(19, h a0 4), (0, a1), (0, a2)] (sh, h)).bind (fun r => q_L 117 46 [(21, a0), (0, a1), (0, a2)] [r.1] r.2)) else none)) else none) else ((q_Cc 159 [(21, a0), (0, (-1000001))] (sh, h)).bind (fun r => q_L 117 15 [(21, a0), (0, a1), (0, a2)] [r.1] r.2)) :=
  (q_unL hL_X11_feed cu_X11_feed 400 6 _ _ _).trans rfl
set_option maxRecDepth 100000 in
theorem e_X11_feed_15 (a0 a1 a2 b0 : Int) (sh : Int × (Int → Nat × Int)) (h : Int → Int → Int) : q_L 117 15 [(21, a0), (0, a1), (0, a2)] [(0, b0)] (sh, h) = some ((0, b0), (sh, h)) :=
  (q_unL hL_X11_feed cu_X11_feed 400 15 _ _ _).trans rfl
set_option maxRecDepth 100000 in
theorem e_X11_feed_36 (a0 a1 a2 b0 : Int) (sh : Int × (Int → Nat × Int)) (h : Int → Int → Int) : q_L 117 36 [(21, a0), (0, a1), (0, a2)] [(0, b0)] (sh, h) = some ((0, b0), (sh, h)) :=
  (q_unL hL_X11_feed cu_X11_feed 400 36 _ _ _).trans rfl
set_option maxRecDepth 100000 in
theorem e_X11_feed_46 (a0 a1 a2 b0 : Int) (sh : Int × (Int → Nat × Int)) (h : Int → Int → Int) : q_L 117 46 [(21, a0), (0, a1), (0, a2)] [(0, b0)] (sh, h) = some ((0, b0), (sh, h)) :=
  (q_unL hL_X11_feed cu_X11_feed 400 46 _ _ _).trans rfl
def cu_X11_wipe : List Nat := [0, 7]
theorem hL_X11_wipe : q_P 118 = q_find P_X11_wipe := rfl
theorem c_X11_wipe (a0 : Int) (s : q_M) : q_Cc 118 [(21, a0)] s = q_L 118 0 [(21, a0)] [] s := rfl
set_option maxRecDepth 100000 in
theorem e_X11_wipe_0 (a0 : Int) (sh : Int × (Int → Nat × Int)) (h : Int → Int → Int) : q_L 118 0 [(21, a0)] [] (sh, h) = if 0 ≤ h a0 4 then ((q_Cc 77 [(19, h a0 4)] (sh, h)).bind (fun r => q_L 118 7 [(21, a0)] [r.1] r.2)) else none :=
  (q_unL hL_X11_wipe cu_X11_wipe 400 0 _ _ _).trans rfl
set_option maxRecDepth 100000 in
theorem e_X11_wipe_7 (a0 b0 : Int) (sh : Int × (Int → Nat × Int)) (h : Int → Int → Int) : q_L 118 7 [(21, a0)] [(0, b0)] (sh, h) = some ((0, b0), (sh, h)) :=
  (q_unL hL_X11_wipe cu_X11_wipe 400 7 _ _ _).trans rfl
def cu_X11_asks : List Nat := [0, 14, 26, 57, 60, 87, 100]
theorem hL_X11_asks : q_P 119 = q_find P_X11_asks := rfl
theorem c_X11_asks (a0 : Int) (s : q_M) : q_Cc 119 [(21, a0)] s = q_L 119 0 [(21, a0), (9, 0), (9, 0)] [] s := rfl
set_option maxRecDepth 100000 in
theorem e_X11_asks_0 (a0 : Int) (sh : Int × (Int → Nat × Int)) (h : Int → Int → Int) : q_L 119 0 [(21, a0), (9, 0), (9, 0)] [] (sh, h) = if 0 ≤ h a0 4 then (if 0 ≤ h a0 0 then ((q_Cc 78 [(19, h a0 4), (0, h (h a0 0) 2)] (sh, h)).bind (fun r => q_L 119 14 [(21, a0), (9, 0), (9, 0)] [r.1] r.2)) else none) else none :=
  (q_unL hL_X11_asks cu_X11_asks 400 0 _ _ _).trans rfl
set_option maxRecDepth 100000 in
theorem e_X11_asks_14 (a0 b0 : Int) (sh : Int × (Int → Nat × Int)) (h : Int → Int → Int) : q_L 119 14 [(21, a0), (9, 0), (9, 0)] [(0, b0)] (sh, h) = if b0 < 0 then (if 0 ≤ h a0 0 then (if 0 ≤ h a0 4 then (if (14 : Int) < (q_add (h (h a0 0) 3) (h (h a0 4) 3)) then ((q_Cc 159 [(21, a0), (0, (-1000002))] (sh, h)).bind (fun r => q_L 119 57 [(21, a0), (0, b0), (9, 0)] [r.1] r.2)) else (q_L 119 60 [(21, a0), (0, b0), (0, 0)] [] (sh, h))) else none) else none) else (if 0 ≤ h a0 4 then ((q_Cc 77 [(19, h a0 4)] (sh, h)).bind (fun r => q_L 119 26 [(21, a0), (0, b0), (9, 0)] [r.1] r.2)) else none) :=
  (q_unL hL_X11_asks cu_X11_asks 400 14 _ _ _).trans rfl
set_option maxRecDepth 100000 in
theorem e_X11_asks_26 (a0 a1 b0 : Int) (sh : Int × (Int → Nat × Int)) (h : Int → Int → Int) : q_L 119 26 [(21, a0), (0, a1), (9, 0)] [(0, b0)] (sh, h) = some ((0, q_sub (-1 : Int) a1), (sh, h)) :=
  (q_unL hL_X11_asks cu_X11_asks 400 26 _ _ _).trans rfl
set_option maxRecDepth 100000 in
theorem e_X11_asks_57 (a0 a1 b0 : Int) (sh : Int × (Int → Nat × Int)) (h : Int → Int → Int) : q_L 119 57 [(21, a0), (0, a1), (9, 0)] [(0, b0)] (sh, h) = some ((0, b0), (sh, h)) :=
  (q_unL hL_X11_asks cu_X11_asks 400 57 _ _ _).trans rfl
set_option maxRecDepth 100000 in
theorem e_X11_asks_60 (a0 a1 a2 : Int) (sh : Int × (Int → Nat × Int)) (h : Int → Int → Int) : q_L 119 60 [(21, a0), (0, a1), (0, a2)] [] (sh, h) = if 0 ≤ h a0 4 then (if a2 < (h (h a0 4) 3) then (if 0 ≤ h a0 0 then (if 0 ≤ h a0 4 then (if 0 ≤ h (h a0 4) 2 then (if 0 ≤ a2 ∧ a2 < (sh.2 (h (h a0 4) 2)).2 ∧ 0 ≤ h (h (h a0 4) 2) a2 then ((q_Cc 94 [(20, h a0 0), (30, h (h (h a0 4) 2) a2)] (sh, h)).bind (fun r => q_L 119 87 [(21, a0), (0, a1), (0, a2)] [] r.2)) else none) else none) else none) else none) else (if 0 ≤ h a0 4 then ((q_Cc 77 [(19, h a0 4)] (sh, h)).bind (fun r => q_L 119 100 [(21, a0), (0, a1), (0, a2)] [r.1] r.2)) else none)) else none :=
  (q_unL hL_X11_asks cu_X11_asks 400 60 _ _ _).trans rfl
set_option maxRecDepth 100000 in
theorem e_X11_asks_87 (a0 a1 a2 : Int) (sh : Int × (Int → Nat × Int)) (h : Int → Int → Int) : q_L 119 87 [(21, a0), (0, a1), (0, a2)] [] (sh, h) = q_L 119 60 [(21, a0), (0, a1), (0, q_w (a2 + 1))] [] (sh, h) :=
  (q_unL hL_X11_asks cu_X11_asks 400 87 _ _ _).trans rfl
set_option maxRecDepth 100000 in
theorem e_X11_asks_100 (a0 a1 a2 b0 : Int) (sh : Int × (Int → Nat × Int)) (h : Int → Int → Int) : q_L 119 100 [(21, a0), (0, a1), (0, a2)] [(0, b0)] (sh, h) = if 0 ≤ h a0 4 then (some ((0, h (h a0 4) 3), (sh, h))) else none :=
  (q_unL hL_X11_asks cu_X11_asks 400 100 _ _ _).trans rfl
def cu_X11_asking : List Nat := [0, 5, 14, 137, 144]
theorem hL_X11_asking : q_P 120 = q_find P_X11_asking := rfl
theorem c_X11_asking (a0 a1 a2 : Int) (s : q_M) : q_Cc 120 [(21, a0), (0, a1), (0, a2)] s = q_L 120 0 [(21, a0), (0, a1), (0, a2), (9, 0)] [] s := rfl
set_option maxRecDepth 100000 in
theorem e_X11_asking_0 (a0 a1 a2 : Int) (sh : Int × (Int → Nat × Int)) (h : Int → Int → Int) : q_L 120 0 [(21, a0), (0, a1), (0, a2), (9, 0)] [] (sh, h) = (q_Cc 156 [(21, a0), (0, a1)] (sh, h)).bind (fun r => q_L 120 5 [(21, a0), (0, a1), (0, a2), (9, 0)] [r.1] r.2) :=
  (q_unL hL_X11_asking cu_X11_asking 400 0 _ _ _).trans rfl
set_option maxRecDepth 100000 in
theorem e_X11_asking_5 (a0 a1 a2 b0 : Int) (sh : Int × (Int → Nat × Int)) (h : Int → Int → Int) : q_L 120 5 [(21, a0), (0, a1), (0, a2), (9, 0)] [(0, b0)] (sh, h) = if b0 = 0 then (if 0 ≤ h a0 0 then (if 0 ≤ h (h a0 0) 7 then (if 0 ≤ a1 ∧ a1 < (sh.2 (h (h a0 0) 7)).2 ∧ 0 ≤ h (h (h a0 0) 7) a1 then (if a2 = 0 then (some ((0, h (h (h (h a0 0) 7) a1) 0), (sh, h))) else (if a2 = 1 then (some ((0, h (h (h (h a0 0) 7) a1) 1), (sh, h))) else (if a2 = 2 then (some ((0, h (h (h (h a0 0) 7) a1) 2), (sh, h))) else (if a2 = 3 then (some ((0, h (h (h (h a0 0) 7) a1) 3), (sh, h))) else (if a2 = 4 then (some ((0, h (h (h (h a0 0) 7) a1) 4), (sh, h))) else (if a2 = 5 then (some ((0, h (h (h (h a0 0) 7) a1) 5), (sh, h))) else (if a2 = 6 then (some ((0, h (h (h (h a0 0) 7) a1) 6), (sh, h))) else (if a2 = 7 then (some ((0, h (h (h (h a0 0) 7) a1) 7), (sh, h))) else (if a2 = 8 then (some ((0, h (h (h (h a0 0) 7) a1) 8), (sh, h))) else (if a2 = 9 then (if 0 ≤ h a0 0 then ((q_Cc 96 [(20, h a0 0), (0, a1), (0, h (h (h (h a0 0) 7) a1) 5)] (sh, h)).bind (fun r => q_L 120 137 [(21, a0), (0, a1), (0, a2), (10, h (h (h a0 0) 7) a1)] [r.1] r.2)) else none) else ((q_Cc 159 [(21, a0), (0, (-1000001))] (sh, h)).bind (fun r => q_L 120 144 [(21, a0), (0, a1), (0, a2), (10, h (h (h a0 0) 7) a1)] [r.1] r.2)))))))))))) else none) else none) else none) else ((q_Cc 159 [(21, a0), (0, (-1000001))] (sh, h)).bind (fun r => q_L 120 14 [(21, a0), (0, a1), (0, a2), (9, 0)] [r.1] r.2)) :=
  (q_unL hL_X11_asking cu_X11_asking 400 5 _ _ _).trans rfl
set_option maxRecDepth 100000 in
theorem e_X11_asking_14 (a0 a1 a2 b0 : Int) (sh : Int × (Int → Nat × Int)) (h : Int → Int → Int) : q_L 120 14 [(21, a0), (0, a1), (0, a2), (9, 0)] [(0, b0)] (sh, h) = some ((0, b0), (sh, h)) :=
  (q_unL hL_X11_asking cu_X11_asking 400 14 _ _ _).trans rfl
set_option maxRecDepth 100000 in
theorem e_X11_asking_137 (a0 a1 a2 a3 b0 : Int) (sh : Int × (Int → Nat × Int)) (h : Int → Int → Int) : q_L 120 137 [(21, a0), (0, a1), (0, a2), (10, a3)] [(0, b0)] (sh, h) = some ((0, b0), (sh, h)) :=
  (q_unL hL_X11_asking cu_X11_asking 400 137 _ _ _).trans rfl
set_option maxRecDepth 100000 in
theorem e_X11_asking_144 (a0 a1 a2 a3 b0 : Int) (sh : Int × (Int → Nat × Int)) (h : Int → Int → Int) : q_L 120 144 [(21, a0), (0, a1), (0, a2), (10, a3)] [(0, b0)] (sh, h) = some ((0, b0), (sh, h)) :=
  (q_unL hL_X11_asking cu_X11_asking 400 144 _ _ _).trans rfl
def cu_X11_as : List Nat := [0, 5, 15, 18, 24, 38, 51]
theorem hL_X11_as : q_P 121 = q_find P_X11_as := rfl
theorem c_X11_as (a0 a1 a2 : Int) (s : q_M) : q_Cc 121 [(21, a0), (0, a1), (0, a2)] s = q_L 121 0 [(21, a0), (0, a1), (0, a2)] [] s := rfl
set_option maxRecDepth 100000 in
theorem e_X11_as_0 (a0 a1 a2 : Int) (sh : Int × (Int → Nat × Int)) (h : Int → Int → Int) : q_L 121 0 [(21, a0), (0, a1), (0, a2)] [] (sh, h) = (q_Cc 156 [(21, a0), (0, a1)] (sh, h)).bind (fun r => q_L 121 5 [(21, a0), (0, a1), (0, a2)] [r.1] r.2) :=
  (q_unL hL_X11_as cu_X11_as 400 0 _ _ _).trans rfl
set_option maxRecDepth 100000 in
theorem e_X11_as_5 (a0 a1 a2 b0 : Int) (sh : Int × (Int → Nat × Int)) (h : Int → Int → Int) : q_L 121 5 [(21, a0), (0, a1), (0, a2)] [(0, b0)] (sh, h) = if b0 = 0 then ((q_Cc 153 [(0, a2), (0, 0), (0, 6)] (sh, h)).bind (fun r => q_L 121 15 [(21, a0), (0, a1), (0, a2)] [r.1] r.2)) else (q_L 121 18 [(21, a0), (0, a1), (0, a2)] [] (sh, h)) :=
  (q_unL hL_X11_as cu_X11_as 400 5 _ _ _).trans rfl
set_option maxRecDepth 100000 in
theorem e_X11_as_15 (a0 a1 a2 b0 : Int) (sh : Int × (Int → Nat × Int)) (h : Int → Int → Int) : q_L 121 15 [(21, a0), (0, a1), (0, a2)] [(0, b0)] (sh, h) = if b0 = 0 then (if 0 ≤ h a0 0 then (if 0 ≤ h (h a0 0) 7 then (if 0 ≤ a1 ∧ a1 < (sh.2 (h (h a0 0) 7)).2 ∧ 0 ≤ h (h (h a0 0) 7) a1 then ((q_Cc 6 [(10, h (h (h a0 0) 7) a1), (0, a2)] (sh, h)).bind (fun r => q_L 121 38 [(21, a0), (0, a1), (0, a2)] [r.1] r.2)) else none) else none) else none) else (q_L 121 18 [(21, a0), (0, a1), (0, a2)] [] (sh, h)) :=
  (q_unL hL_X11_as cu_X11_as 400 15 _ _ _).trans rfl
set_option maxRecDepth 100000 in
theorem e_X11_as_18 (a0 a1 a2 : Int) (sh : Int × (Int → Nat × Int)) (h : Int → Int → Int) : q_L 121 18 [(21, a0), (0, a1), (0, a2)] [] (sh, h) = (q_Cc 159 [(21, a0), (0, (-1000001))] (sh, h)).bind (fun r => q_L 121 24 [(21, a0), (0, a1), (0, a2)] [r.1] r.2) :=
  (q_unL hL_X11_as cu_X11_as 400 18 _ _ _).trans rfl
set_option maxRecDepth 100000 in
theorem e_X11_as_24 (a0 a1 a2 b0 : Int) (sh : Int × (Int → Nat × Int)) (h : Int → Int → Int) : q_L 121 24 [(21, a0), (0, a1), (0, a2)] [(0, b0)] (sh, h) = some ((0, b0), (sh, h)) :=
  (q_unL hL_X11_as cu_X11_as 400 24 _ _ _).trans rfl
set_option maxRecDepth 100000 in
theorem e_X11_as_38 (a0 a1 a2 b0 : Int) (sh : Int × (Int → Nat × Int)) (h : Int → Int → Int) : q_L 121 38 [(21, a0), (0, a1), (0, a2)] [(0, b0)] (sh, h) = if b0 = 0 then ((q_Cc 159 [(21, a0), (0, (-1000003))] (sh, h)).bind (fun r => q_L 121 51 [(21, a0), (0, a1), (0, a2)] [r.1] r.2)) else (q_L 121 51 [(21, a0), (0, a1), (0, a2)] [(0, a1)] (sh, h)) :=
  (q_unL hL_X11_as cu_X11_as 400 38 _ _ _).trans rfl
set_option maxRecDepth 100000 in
theorem e_X11_as_51 (a0 a1 a2 b0 : Int) (sh : Int × (Int → Nat × Int)) (h : Int → Int → Int) : q_L 121 51 [(21, a0), (0, a1), (0, a2)] [(0, b0)] (sh, h) = some ((0, b0), (sh, h)) :=
  (q_unL hL_X11_as cu_X11_as 400 51 _ _ _).trans rfl
def cu_X11_worth : List Nat := [0, 5, 16, 19, 25, 57, 58, 73]
theorem hL_X11_worth : q_P 122 = q_find P_X11_worth := rfl
theorem c_X11_worth (a0 a1 a2 : Int) (s : q_M) : q_Cc 122 [(21, a0), (0, a1), (0, a2)] s = q_L 122 0 [(21, a0), (0, a1), (0, a2), (9, 0), (9, 0)] [] s := rfl
set_option maxRecDepth 100000 in
theorem e_X11_worth_0 (a0 a1 a2 : Int) (sh : Int × (Int → Nat × Int)) (h : Int → Int → Int) : q_L 122 0 [(21, a0), (0, a1), (0, a2), (9, 0), (9, 0)] [] (sh, h) = (q_Cc 156 [(21, a0), (0, a1)] (sh, h)).bind (fun r => q_L 122 5 [(21, a0), (0, a1), (0, a2), (9, 0), (9, 0)] [r.1] r.2) :=
  (q_unL hL_X11_worth cu_X11_worth 400 0 _ _ _).trans rfl
set_option maxRecDepth 100000 in
theorem e_X11_worth_5 (a0 a1 a2 b0 : Int) (sh : Int × (Int → Nat × Int)) (h : Int → Int → Int) : q_L 122 5 [(21, a0), (0, a1), (0, a2), (9, 0), (9, 0)] [(0, b0)] (sh, h) = if b0 = 0 then ((q_Cc 153 [(0, a2), (0, 0), (0, 999)] (sh, h)).bind (fun r => q_L 122 16 [(21, a0), (0, a1), (0, a2), (9, 0), (9, 0)] [r.1] r.2)) else (q_L 122 19 [(21, a0), (0, a1), (0, a2), (9, 0), (9, 0)] [] (sh, h)) :=
  (q_unL hL_X11_worth cu_X11_worth 400 5 _ _ _).trans rfl
set_option maxRecDepth 100000 in
theorem e_X11_worth_16 (a0 a1 a2 b0 : Int) (sh : Int × (Int → Nat × Int)) (h : Int → Int → Int) : q_L 122 16 [(21, a0), (0, a1), (0, a2), (9, 0), (9, 0)] [(0, b0)] (sh, h) = if b0 = 0 then (if 0 ≤ h a0 0 then (if 0 ≤ h (h a0 0) 7 then (if 0 ≤ a1 ∧ a1 < (sh.2 (h (h a0 0) 7)).2 ∧ 0 ≤ h (h (h a0 0) 7) a1 then (if (h (h (h (h a0 0) 7) a1) 6) = 0 then (q_L 122 58 [(21, a0), (0, a1), (0, a2), (10, h (h (h a0 0) 7) a1), (9, 0)] [] (sh, h)) else (if (h (h (h (h a0 0) 7) a1) 6) = (4 : Int) then (q_L 122 58 [(21, a0), (0, a1), (0, a2), (10, h (h (h a0 0) 7) a1), (9, 0)] [] (sh, h)) else ((q_Cc 159 [(21, a0), (0, (-1000005))] (sh, h)).bind (fun r => q_L 122 57 [(21, a0), (0, a1), (0, a2), (10, h (h (h a0 0) 7) a1), (9, 0)] [r.1] r.2)))) else none) else none) else none) else (q_L 122 19 [(21, a0), (0, a1), (0, a2), (9, 0), (9, 0)] [] (sh, h)) :=
  (q_unL hL_X11_worth cu_X11_worth 400 16 _ _ _).trans rfl
set_option maxRecDepth 100000 in
theorem e_X11_worth_19 (a0 a1 a2 : Int) (sh : Int × (Int → Nat × Int)) (h : Int → Int → Int) : q_L 122 19 [(21, a0), (0, a1), (0, a2), (9, 0), (9, 0)] [] (sh, h) = (q_Cc 159 [(21, a0), (0, (-1000001))] (sh, h)).bind (fun r => q_L 122 25 [(21, a0), (0, a1), (0, a2), (9, 0), (9, 0)] [r.1] r.2) :=
  (q_unL hL_X11_worth cu_X11_worth 400 19 _ _ _).trans rfl
set_option maxRecDepth 100000 in
theorem e_X11_worth_25 (a0 a1 a2 b0 : Int) (sh : Int × (Int → Nat × Int)) (h : Int → Int → Int) : q_L 122 25 [(21, a0), (0, a1), (0, a2), (9, 0), (9, 0)] [(0, b0)] (sh, h) = some ((0, b0), (sh, h)) :=
  (q_unL hL_X11_worth cu_X11_worth 400 25 _ _ _).trans rfl
set_option maxRecDepth 100000 in
theorem e_X11_worth_57 (a0 a1 a2 a3 b0 : Int) (sh : Int × (Int → Nat × Int)) (h : Int → Int → Int) : q_L 122 57 [(21, a0), (0, a1), (0, a2), (10, a3), (9, 0)] [(0, b0)] (sh, h) = some ((0, b0), (sh, h)) :=
  (q_unL hL_X11_worth cu_X11_worth 400 57 _ _ _).trans rfl
set_option maxRecDepth 100000 in
theorem e_X11_worth_58 (a0 a1 a2 a3 : Int) (sh : Int × (Int → Nat × Int)) (h : Int → Int → Int) : q_L 122 58 [(21, a0), (0, a1), (0, a2), (10, a3), (9, 0)] [] (sh, h) = (q_Cc 3 [(10, a3)] (sh, q_up h a3 5 a2)).bind (fun r => q_L 122 73 [(21, a0), (0, a1), (0, a2), (10, a3), (0, h a3 5)] [] r.2) :=
  (q_unL hL_X11_worth cu_X11_worth 400 58 _ _ _).trans rfl
set_option maxRecDepth 100000 in
theorem e_X11_worth_73 (a0 a1 a2 a3 a4 : Int) (sh : Int × (Int → Nat × Int)) (h : Int → Int → Int) : q_L 122 73 [(21, a0), (0, a1), (0, a2), (10, a3), (0, a4)] [] (sh, h) = some ((0, a4), (sh, h)) :=
  (q_unL hL_X11_worth cu_X11_worth 400 73 _ _ _).trans rfl
def cu_X11_plan : List Nat := [0, 10, 19, 20, 32, 55]
theorem hL_X11_plan : q_P 123 = q_find P_X11_plan := rfl
theorem c_X11_plan (a0 a1 : Int) (s : q_M) : q_Cc 123 [(21, a0), (0, a1)] s = q_L 123 0 [(21, a0), (0, a1)] [] s := rfl
set_option maxRecDepth 100000 in
theorem e_X11_plan_0 (a0 a1 : Int) (sh : Int × (Int → Nat × Int)) (h : Int → Int → Int) : q_L 123 0 [(21, a0), (0, a1)] [] (sh, h) = if a1 = (-1 : Int) then (q_L 123 20 [(21, a0), (0, a1)] [] (sh, h)) else ((q_Cc 156 [(21, a0), (0, a1)] (sh, h)).bind (fun r => q_L 123 10 [(21, a0), (0, a1)] [r.1] r.2)) :=
  (q_unL hL_X11_plan cu_X11_plan 400 0 _ _ _).trans rfl
set_option maxRecDepth 100000 in
theorem e_X11_plan_10 (a0 a1 b0 : Int) (sh : Int × (Int → Nat × Int)) (h : Int → Int → Int) : q_L 123 10 [(21, a0), (0, a1)] [(0, b0)] (sh, h) = if b0 = 0 then (q_L 123 20 [(21, a0), (0, a1)] [] (sh, h)) else ((q_Cc 159 [(21, a0), (0, (-1000001))] (sh, h)).bind (fun r => q_L 123 19 [(21, a0), (0, a1)] [r.1] r.2)) :=
  (q_unL hL_X11_plan cu_X11_plan 400 10 _ _ _).trans rfl
set_option maxRecDepth 100000 in
theorem e_X11_plan_19 (a0 a1 b0 : Int) (sh : Int × (Int → Nat × Int)) (h : Int → Int → Int) : q_L 123 19 [(21, a0), (0, a1)] [(0, b0)] (sh, h) = some ((0, b0), (sh, h)) :=
  (q_unL hL_X11_plan cu_X11_plan 400 19 _ _ _).trans rfl
set_option maxRecDepth 100000 in
theorem e_X11_plan_20 (a0 a1 : Int) (sh : Int × (Int → Nat × Int)) (h : Int → Int → Int) : q_L 123 20 [(21, a0), (0, a1)] [] (sh, h) = if 0 ≤ h a0 3 then (if 0 ≤ h a0 0 then ((q_Cc 36 [(15, h a0 3), (20, h a0 0), (0, (-1))] (sh, h)).bind (fun r => q_L 123 32 [(21, a0), (0, a1)] [] r.2)) else none) else none :=
  (q_unL hL_X11_plan cu_X11_plan 400 20 _ _ _).trans rfl
set_option maxRecDepth 100000 in
theorem e_X11_plan_32 (a0 a1 : Int) (sh : Int × (Int → Nat × Int)) (h : Int → Int → Int) : q_L 123 32 [(21, a0), (0, a1)] [] (sh, h) = if a1 = (-1 : Int) then (if 0 ≤ h a0 3 then (q_L 123 55 [(21, a0), (0, a1)] [(0, h (h a0 3) 1)] (sh, h)) else none) else (if 0 ≤ h a0 3 then ((q_Cc 50 [(15, h a0 3), (0, a1)] (sh, h)).bind (fun r => q_L 123 55 [(21, a0), (0, a1)] [r.1] r.2)) else none) :=
  (q_unL hL_X11_plan cu_X11_plan 400 32 _ _ _).trans rfl
set_option maxRecDepth 100000 in
theorem e_X11_plan_55 (a0 a1 b0 : Int) (sh : Int × (Int → Nat × Int)) (h : Int → Int → Int) : q_L 123 55 [(21, a0), (0, a1)] [(0, b0)] (sh, h) = some ((0, b0), (sh, h)) :=
  (q_unL hL_X11_plan cu_X11_plan 400 55 _ _ _).trans rfl
def cu_X11_begins : List Nat := [0, 5, 14, 27, 35, 46, 50]
theorem hL_X11_begins : q_P 124 = q_find P_X11_begins := rfl
theorem c_X11_begins (a0 a1 : Int) (s : q_M) : q_Cc 124 [(21, a0), (0, a1)] s = q_L 124 0 [(21, a0), (0, a1), (9, 0)] [] s := rfl
set_option maxRecDepth 100000 in
theorem e_X11_begins_0 (a0 a1 : Int) (sh : Int × (Int → Nat × Int)) (h : Int → Int → Int) : q_L 124 0 [(21, a0), (0, a1), (9, 0)] [] (sh, h) = (q_Cc 156 [(21, a0), (0, a1)] (sh, h)).bind (fun r => q_L 124 5 [(21, a0), (0, a1), (9, 0)] [r.1] r.2) :=
  (q_unL hL_X11_begins cu_X11_begins 400 0 _ _ _).trans rfl
set_option maxRecDepth 100000 in
theorem e_X11_begins_5 (a0 a1 b0 : Int) (sh : Int × (Int → Nat × Int)) (h : Int → Int → Int) : q_L 124 5 [(21, a0), (0, a1), (9, 0)] [(0, b0)] (sh, h) = if b0 = 0 then (if 0 ≤ h a0 3 then (if 0 ≤ h a0 0 then ((q_Cc 36 [(15, h a0 3), (20, h a0 0), (0, (-1))] (sh, h)).bind (fun r => q_L 124 27 [(21, a0), (0, a1), (9, 0)] [] r.2)) else none) else none) else ((q_Cc 159 [(21, a0), (0, (-1000001))] (sh, h)).bind (fun r => q_L 124 14 [(21, a0), (0, a1), (9, 0)] [r.1] r.2)) :=
  (q_unL hL_X11_begins cu_X11_begins 400 5 _ _ _).trans rfl
set_option maxRecDepth 100000 in
theorem e_X11_begins_14 (a0 a1 b0 : Int) (sh : Int × (Int → Nat × Int)) (h : Int → Int → Int) : q_L 124 14 [(21, a0), (0, a1), (9, 0)] [(0, b0)] (sh, h) = some ((0, b0), (sh, h)) :=
  (q_unL hL_X11_begins cu_X11_begins 400 14 _ _ _).trans rfl
set_option maxRecDepth 100000 in
theorem e_X11_begins_27 (a0 a1 : Int) (sh : Int × (Int → Nat × Int)) (h : Int → Int → Int) : q_L 124 27 [(21, a0), (0, a1), (9, 0)] [] (sh, h) = if 0 ≤ h a0 3 then ((q_Cc 51 [(15, h a0 3), (0, a1)] (sh, h)).bind (fun r => q_L 124 35 [(21, a0), (0, a1), (9, 0)] [r.1] r.2)) else none :=
  (q_unL hL_X11_begins cu_X11_begins 400 27 _ _ _).trans rfl
set_option maxRecDepth 100000 in
theorem e_X11_begins_35 (a0 a1 b0 : Int) (sh : Int × (Int → Nat × Int)) (h : Int → Int → Int) : q_L 124 35 [(21, a0), (0, a1), (9, 0)] [(0, b0)] (sh, h) = if b0 < 0 then ((q_Cc 159 [(21, a0), (0, (-1000004))] (sh, h)).bind (fun r => q_L 124 46 [(21, a0), (0, a1), (0, b0)] [r.1] r.2)) else (q_L 124 50 [(21, a0), (0, a1), (0, b0)] [(0, b0)] (sh, h)) :=
  (q_unL hL_X11_begins cu_X11_begins 400 35 _ _ _).trans rfl
set_option maxRecDepth 100000 in
theorem e_X11_begins_46 (a0 a1 a2 b0 : Int) (sh : Int × (Int → Nat × Int)) (h : Int → Int → Int) : q_L 124 46 [(21, a0), (0, a1), (0, a2)] [(0, b0)] (sh, h) = q_L 124 50 [(21, a0), (0, a1), (0, a2)] [(0, b0)] (sh, h) :=
  (q_unL hL_X11_begins cu_X11_begins 400 46 _ _ _).trans rfl
set_option maxRecDepth 100000 in
theorem e_X11_begins_50 (a0 a1 a2 b0 : Int) (sh : Int × (Int → Nat × Int)) (h : Int → Int → Int) : q_L 124 50 [(21, a0), (0, a1), (0, a2)] [(0, b0)] (sh, h) = some ((0, b0), (sh, h)) :=
  (q_unL hL_X11_begins cu_X11_begins 400 50 _ _ _).trans rfl
def cu_X11_without : List Nat := [0, 5, 14, 36, 49]
theorem hL_X11_without : q_P 125 = q_find P_X11_without := rfl
theorem c_X11_without (a0 a1 : Int) (s : q_M) : q_Cc 125 [(21, a0), (0, a1)] s = q_L 125 0 [(21, a0), (0, a1)] [] s := rfl
set_option maxRecDepth 100000 in
theorem e_X11_without_0 (a0 a1 : Int) (sh : Int × (Int → Nat × Int)) (h : Int → Int → Int) : q_L 125 0 [(21, a0), (0, a1)] [] (sh, h) = (q_Cc 156 [(21, a0), (0, a1)] (sh, h)).bind (fun r => q_L 125 5 [(21, a0), (0, a1)] [r.1] r.2) :=
  (q_unL hL_X11_without cu_X11_without 400 0 _ _ _).trans rfl
set_option maxRecDepth 100000 in
theorem e_X11_without_5 (a0 a1 b0 : Int) (sh : Int × (Int → Nat × Int)) (h : Int → Int → Int) : q_L 125 5 [(21, a0), (0, a1)] [(0, b0)] (sh, h) = if b0 = 0 then (if 0 ≤ h a0 0 then (if 0 ≤ h (h a0 0) 7 then (if 0 ≤ a1 ∧ a1 < (sh.2 (h (h a0 0) 7)).2 ∧ 0 ≤ h (h (h a0 0) 7) a1 then (if (h (h (h (h a0 0) 7) a1) 6) = 0 then (if 0 ≤ h a0 3 then (if 0 ≤ h a0 0 then ((q_Cc 36 [(15, h a0 3), (20, h a0 0), (0, a1)] (sh, h)).bind (fun r => q_L 125 49 [(21, a0), (0, a1)] [] r.2)) else none) else none) else ((q_Cc 159 [(21, a0), (0, (-1000005))] (sh, h)).bind (fun r => q_L 125 36 [(21, a0), (0, a1)] [r.1] r.2))) else none) else none) else none) else ((q_Cc 159 [(21, a0), (0, (-1000001))] (sh, h)).bind (fun r => q_L 125 14 [(21, a0), (0, a1)] [r.1] r.2)) :=
  (q_unL hL_X11_without cu_X11_without 400 5 _ _ _).trans rfl
set_option maxRecDepth 100000 in
theorem e_X11_without_14 (a0 a1 b0 : Int) (sh : Int × (Int → Nat × Int)) (h : Int → Int → Int) : q_L 125 14 [(21, a0), (0, a1)] [(0, b0)] (sh, h) = some ((0, b0), (sh, h)) :=
  (q_unL hL_X11_without cu_X11_without 400 14 _ _ _).trans rfl
set_option maxRecDepth 100000 in
theorem e_X11_without_36 (a0 a1 b0 : Int) (sh : Int × (Int → Nat × Int)) (h : Int → Int → Int) : q_L 125 36 [(21, a0), (0, a1)] [(0, b0)] (sh, h) = some ((0, b0), (sh, h)) :=
  (q_unL hL_X11_without cu_X11_without 400 36 _ _ _).trans rfl
set_option maxRecDepth 100000 in
theorem e_X11_without_49 (a0 a1 : Int) (sh : Int × (Int → Nat × Int)) (h : Int → Int → Int) : q_L 125 49 [(21, a0), (0, a1)] [] (sh, h) = if 0 ≤ h a0 3 then (some ((0, h (h a0 3) 1), (sh, h))) else none :=
  (q_unL hL_X11_without cu_X11_without 400 49 _ _ _).trans rfl
def cu_X11_takes : List Nat := [0, 5, 16, 19, 25, 47, 60, 67, 81, 89]
theorem hL_X11_takes : q_P 126 = q_find P_X11_takes := rfl
theorem c_X11_takes (a0 a1 a2 : Int) (s : q_M) : q_Cc 126 [(21, a0), (0, a1), (0, a2)] s = q_L 126 0 [(21, a0), (0, a1), (0, a2), (9, 0)] [] s := rfl
set_option maxRecDepth 100000 in
theorem e_X11_takes_0 (a0 a1 a2 : Int) (sh : Int × (Int → Nat × Int)) (h : Int → Int → Int) : q_L 126 0 [(21, a0), (0, a1), (0, a2), (9, 0)] [] (sh, h) = (q_Cc 156 [(21, a0), (0, a1)] (sh, h)).bind (fun r => q_L 126 5 [(21, a0), (0, a1), (0, a2), (9, 0)] [r.1] r.2) :=
  (q_unL hL_X11_takes cu_X11_takes 400 0 _ _ _).trans rfl
set_option maxRecDepth 100000 in
theorem e_X11_takes_5 (a0 a1 a2 b0 : Int) (sh : Int × (Int → Nat × Int)) (h : Int → Int → Int) : q_L 126 5 [(21, a0), (0, a1), (0, a2), (9, 0)] [(0, b0)] (sh, h) = if b0 = 0 then ((q_Cc 153 [(0, a2), (0, 0), (0, 999)] (sh, h)).bind (fun r => q_L 126 16 [(21, a0), (0, a1), (0, a2), (9, 0)] [r.1] r.2)) else (q_L 126 19 [(21, a0), (0, a1), (0, a2), (9, 0)] [] (sh, h)) :=
  (q_unL hL_X11_takes cu_X11_takes 400 5 _ _ _).trans rfl
set_option maxRecDepth 100000 in
theorem e_X11_takes_16 (a0 a1 a2 b0 : Int) (sh : Int × (Int → Nat × Int)) (h : Int → Int → Int) : q_L 126 16 [(21, a0), (0, a1), (0, a2), (9, 0)] [(0, b0)] (sh, h) = if b0 = 0 then (if 0 ≤ h a0 0 then (if 0 ≤ h (h a0 0) 7 then (if 0 ≤ a1 ∧ a1 < (sh.2 (h (h a0 0) 7)).2 ∧ 0 ≤ h (h (h a0 0) 7) a1 then (if (h (h (h (h a0 0) 7) a1) 6) = 0 then (if 0 ≤ h a0 3 then (if 0 ≤ h a0 0 then ((q_Cc 36 [(15, h a0 3), (20, h a0 0), (0, (-1))] (sh, h)).bind (fun r => q_L 126 60 [(21, a0), (0, a1), (0, a2), (9, 0)] [] r.2)) else none) else none) else ((q_Cc 159 [(21, a0), (0, (-1000005))] (sh, h)).bind (fun r => q_L 126 47 [(21, a0), (0, a1), (0, a2), (9, 0)] [r.1] r.2))) else none) else none) else none) else (q_L 126 19 [(21, a0), (0, a1), (0, a2), (9, 0)] [] (sh, h)) :=
  (q_unL hL_X11_takes cu_X11_takes 400 16 _ _ _).trans rfl
set_option maxRecDepth 100000 in
theorem e_X11_takes_19 (a0 a1 a2 : Int) (sh : Int × (Int → Nat × Int)) (h : Int → Int → Int) : q_L 126 19 [(21, a0), (0, a1), (0, a2), (9, 0)] [] (sh, h) = (q_Cc 159 [(21, a0), (0, (-1000001))] (sh, h)).bind (fun r => q_L 126 25 [(21, a0), (0, a1), (0, a2), (9, 0)] [r.1] r.2) :=
  (q_unL hL_X11_takes cu_X11_takes 400 19 _ _ _).trans rfl
set_option maxRecDepth 100000 in
theorem e_X11_takes_25 (a0 a1 a2 b0 : Int) (sh : Int × (Int → Nat × Int)) (h : Int → Int → Int) : q_L 126 25 [(21, a0), (0, a1), (0, a2), (9, 0)] [(0, b0)] (sh, h) = some ((0, b0), (sh, h)) :=
  (q_unL hL_X11_takes cu_X11_takes 400 25 _ _ _).trans rfl
set_option maxRecDepth 100000 in
theorem e_X11_takes_47 (a0 a1 a2 b0 : Int) (sh : Int × (Int → Nat × Int)) (h : Int → Int → Int) : q_L 126 47 [(21, a0), (0, a1), (0, a2), (9, 0)] [(0, b0)] (sh, h) = some ((0, b0), (sh, h)) :=
  (q_unL hL_X11_takes cu_X11_takes 400 47 _ _ _).trans rfl
set_option maxRecDepth 100000 in
theorem e_X11_takes_60 (a0 a1 a2 : Int) (sh : Int × (Int → Nat × Int)) (h : Int → Int → Int) : q_L 126 60 [(21, a0), (0, a1), (0, a2), (9, 0)] [] (sh, h) = if 0 ≤ h a0 3 then ((q_Cc 52 [(15, h a0 3)] (sh, h)).bind (fun r => q_L 126 67 [(21, a0), (0, a1), (0, a2), (9, 0)] [r.1] r.2)) else none :=
  (q_unL hL_X11_takes cu_X11_takes 400 60 _ _ _).trans rfl
set_option maxRecDepth 100000 in
theorem e_X11_takes_67 (a0 a1 a2 b0 : Int) (sh : Int × (Int → Nat × Int)) (h : Int → Int → Int) : q_L 126 67 [(21, a0), (0, a1), (0, a2), (9, 0)] [(0, b0)] (sh, h) = if 0 ≤ h a0 3 then (if 0 ≤ h a0 0 then ((q_Cc 37 [(15, h a0 3), (20, h a0 0), (0, a1), (0, a2)] (sh, h)).bind (fun r => q_L 126 81 [(21, a0), (0, a1), (0, a2), (0, b0)] [] r.2)) else none) else none :=
  (q_unL hL_X11_takes cu_X11_takes 400 67 _ _ _).trans rfl
set_option maxRecDepth 100000 in
theorem e_X11_takes_81 (a0 a1 a2 a3 : Int) (sh : Int × (Int → Nat × Int)) (h : Int → Int → Int) : q_L 126 81 [(21, a0), (0, a1), (0, a2), (0, a3)] [] (sh, h) = if 0 ≤ h a0 3 then ((q_Cc 52 [(15, h a0 3)] (sh, h)).bind (fun r => q_L 126 89 [(21, a0), (0, a1), (0, a2), (0, a3)] [r.1, (0, a3)] r.2)) else none :=
  (q_unL hL_X11_takes cu_X11_takes 400 81 _ _ _).trans rfl
set_option maxRecDepth 100000 in
theorem e_X11_takes_89 (a0 a1 a2 a3 b0 b1 : Int) (sh : Int × (Int → Nat × Int)) (h : Int → Int → Int) : q_L 126 89 [(21, a0), (0, a1), (0, a2), (0, a3)] [(0, b1), (0, b0)] (sh, h) = some ((0, q_and b0 (q_xor b1 (-1 : Int))), (sh, h)) :=
  (q_unL hL_X11_takes cu_X11_takes 400 89 _ _ _).trans rfl
def cu_X11_bars : List Nat := [0, 5, 13, 21, 27, 58, 64, 86, 94, 105, 112, 113, 127, 135, 143, 158, 166, 174, 194, 195]
theorem hL_X11_bars : q_P 127 = q_find P_X11_bars := rfl
theorem c_X11_bars (a0 a1 a2 : Int) (s : q_M) : q_Cc 127 [(21, a0), (0, a1), (0, a2)] s = q_L 127 0 [(21, a0), (0, a1), (0, a2), (9, 0), (9, 0), (9, 0)] [] s := rfl
set_option maxRecDepth 100000 in
theorem e_X11_bars_0 (a0 a1 a2 : Int) (sh : Int × (Int → Nat × Int)) (h : Int → Int → Int) : q_L 127 0 [(21, a0), (0, a1), (0, a2), (9, 0), (9, 0), (9, 0)] [] (sh, h) = (q_Cc 156 [(21, a0), (0, a1)] (sh, h)).bind (fun r => q_L 127 5 [(21, a0), (0, a1), (0, a2), (9, 0), (9, 0), (9, 0)] [r.1] r.2) :=
  (q_unL hL_X11_bars cu_X11_bars 400 0 _ _ _).trans rfl
set_option maxRecDepth 100000 in
theorem e_X11_bars_5 (a0 a1 a2 b0 : Int) (sh : Int × (Int → Nat × Int)) (h : Int → Int → Int) : q_L 127 5 [(21, a0), (0, a1), (0, a2), (9, 0), (9, 0), (9, 0)] [(0, b0)] (sh, h) = if b0 = 0 then ((q_Cc 156 [(21, a0), (0, a2)] (sh, h)).bind (fun r => q_L 127 13 [(21, a0), (0, a1), (0, a2), (9, 0), (9, 0), (9, 0)] [r.1] r.2)) else (q_L 127 21 [(21, a0), (0, a1), (0, a2), (9, 0), (9, 0), (9, 0)] [] (sh, h)) :=
  (q_unL hL_X11_bars cu_X11_bars 400 5 _ _ _).trans rfl
set_option maxRecDepth 100000 in
theorem e_X11_bars_13 (a0 a1 a2 b0 : Int) (sh : Int × (Int → Nat × Int)) (h : Int → Int → Int) : q_L 127 13 [(21, a0), (0, a1), (0, a2), (9, 0), (9, 0), (9, 0)] [(0, b0)] (sh, h) = if b0 = 0 then (if a1 = a2 then (q_L 127 21 [(21, a0), (0, a1), (0, a2), (9, 0), (9, 0), (9, 0)] [] (sh, h)) else (if 0 ≤ h a0 0 then (if 0 ≤ h (h a0 0) 7 then (if 0 ≤ a1 ∧ a1 < (sh.2 (h (h a0 0) 7)).2 ∧ 0 ≤ h (h (h a0 0) 7) a1 then (if (h (h (h (h a0 0) 7) a1) 6) = 0 then (if 0 ≤ h a0 0 then (if 0 ≤ h (h a0 0) 7 then (if 0 ≤ a2 ∧ a2 < (sh.2 (h (h a0 0) 7)).2 ∧ 0 ≤ h (h (h a0 0) 7) a2 then (if (h (h (h (h a0 0) 7) a2) 6) = 0 then (if 0 ≤ h a0 3 then (if 0 ≤ h a0 0 then ((q_Cc 38 [(15, h a0 3), (20, h a0 0), (0, if a2 < a1 then a2 else a1), (0, if a1 < a2 then a2 else a1)] (sh, h)).bind (fun r => q_L 127 86 [(21, a0), (0, a1), (0, a2), (9, 0), (9, 0), (9, 0)] [] r.2)) else none) else none) else (q_L 127 58 [(21, a0), (0, a1), (0, a2), (9, 0), (9, 0), (9, 0)] [] (sh, h))) else none) else none) else none) else (q_L 127 58 [(21, a0), (0, a1), (0, a2), (9, 0), (9, 0), (9, 0)] [] (sh, h))) else none) else none) else none)) else (q_L 127 21 [(21, a0), (0, a1), (0, a2), (9, 0), (9, 0), (9, 0)] [] (sh, h)) :=
  (q_unL hL_X11_bars cu_X11_bars 400 13 _ _ _).trans rfl
set_option maxRecDepth 100000 in
theorem e_X11_bars_21 (a0 a1 a2 : Int) (sh : Int × (Int → Nat × Int)) (h : Int → Int → Int) : q_L 127 21 [(21, a0), (0, a1), (0, a2), (9, 0), (9, 0), (9, 0)] [] (sh, h) = (q_Cc 159 [(21, a0), (0, (-1000001))] (sh, h)).bind (fun r => q_L 127 27 [(21, a0), (0, a1), (0, a2), (9, 0), (9, 0), (9, 0)] [r.1] r.2) :=
  (q_unL hL_X11_bars cu_X11_bars 400 21 _ _ _).trans rfl
set_option maxRecDepth 100000 in
theorem e_X11_bars_27 (a0 a1 a2 b0 : Int) (sh : Int × (Int → Nat × Int)) (h : Int → Int → Int) : q_L 127 27 [(21, a0), (0, a1), (0, a2), (9, 0), (9, 0), (9, 0)] [(0, b0)] (sh, h) = some ((0, b0), (sh, h)) :=
  (q_unL hL_X11_bars cu_X11_bars 400 27 _ _ _).trans rfl
set_option maxRecDepth 100000 in
theorem e_X11_bars_58 (a0 a1 a2 : Int) (sh : Int × (Int → Nat × Int)) (h : Int → Int → Int) : q_L 127 58 [(21, a0), (0, a1), (0, a2), (9, 0), (9, 0), (9, 0)] [] (sh, h) = (q_Cc 159 [(21, a0), (0, (-1000005))] (sh, h)).bind (fun r => q_L 127 64 [(21, a0), (0, a1), (0, a2), (9, 0), (9, 0), (9, 0)] [r.1] r.2) :=
  (q_unL hL_X11_bars cu_X11_bars 400 58 _ _ _).trans rfl
set_option maxRecDepth 100000 in
theorem e_X11_bars_64 (a0 a1 a2 b0 : Int) (sh : Int × (Int → Nat × Int)) (h : Int → Int → Int) : q_L 127 64 [(21, a0), (0, a1), (0, a2), (9, 0), (9, 0), (9, 0)] [(0, b0)] (sh, h) = some ((0, b0), (sh, h)) :=
  (q_unL hL_X11_bars cu_X11_bars 400 64 _ _ _).trans rfl
set_option maxRecDepth 100000 in
theorem e_X11_bars_86 (a0 a1 a2 : Int) (sh : Int × (Int → Nat × Int)) (h : Int → Int → Int) : q_L 127 86 [(21, a0), (0, a1), (0, a2), (9, 0), (9, 0), (9, 0)] [] (sh, h) = if 0 ≤ h a0 3 then ((q_Cc 50 [(15, h a0 3), (0, a1)] (sh, h)).bind (fun r => q_L 127 94 [(21, a0), (0, a1), (0, a2), (9, 0), (9, 0), (9, 0)] [r.1] r.2)) else none :=
  (q_unL hL_X11_bars cu_X11_bars 400 86 _ _ _).trans rfl
set_option maxRecDepth 100000 in
theorem e_X11_bars_94 (a0 a1 a2 b0 : Int) (sh : Int × (Int → Nat × Int)) (h : Int → Int → Int) : q_L 127 94 [(21, a0), (0, a1), (0, a2), (9, 0), (9, 0), (9, 0)] [(0, b0)] (sh, h) = if b0 < 0 then (q_L 127 112 [(21, a0), (0, a1), (0, a2), (9, 0), (9, 0), (9, 0)] [] (sh, h)) else (if 0 ≤ h a0 3 then ((q_Cc 50 [(15, h a0 3), (0, a2)] (sh, h)).bind (fun r => q_L 127 105 [(21, a0), (0, a1), (0, a2), (9, 0), (9, 0), (9, 0)] [r.1] r.2)) else none) :=
  (q_unL hL_X11_bars cu_X11_bars 400 94 _ _ _).trans rfl
set_option maxRecDepth 100000 in
theorem e_X11_bars_105 (a0 a1 a2 b0 : Int) (sh : Int × (Int → Nat × Int)) (h : Int → Int → Int) : q_L 127 105 [(21, a0), (0, a1), (0, a2), (9, 0), (9, 0), (9, 0)] [(0, b0)] (sh, h) = if b0 < 0 then (q_L 127 112 [(21, a0), (0, a1), (0, a2), (9, 0), (9, 0), (9, 0)] [] (sh, h)) else (q_L 127 113 [(21, a0), (0, a1), (0, a2), (9, 0), (9, 0), (9, 0)] [(0, 1)] (sh, h)) :=
  (q_unL hL_X11_bars cu_X11_bars 400 105 _ _ _).trans rfl
set_option maxRecDepth 100000 in
theorem e_X11_bars_112 (a0 a1 a2 : Int) (sh : Int × (Int → Nat × Int)) (h : Int → Int → Int) : q_L 127 112 [(21, a0), (0, a1), (0, a2), (9, 0), (9, 0), (9, 0)] [] (sh, h) = q_L 127 113 [(21, a0), (0, a1), (0, a2), (9, 0), (9, 0), (9, 0)] [(0, 0)] (sh, h) :=
  (q_unL hL_X11_bars cu_X11_bars 400 112 _ _ _).trans rfl
set_option maxRecDepth 100000 in
theorem e_X11_bars_113 (a0 a1 a2 b0 : Int) (sh : Int × (Int → Nat × Int)) (h : Int → Int → Int) : q_L 127 113 [(21, a0), (0, a1), (0, a2), (9, 0), (9, 0), (9, 0)] [(0, b0)] (sh, h) = if 0 ≤ h a0 3 then (if 0 ≤ h a0 0 then ((q_Cc 38 [(15, h a0 3), (20, h a0 0), (0, a1), (0, (-1))] (sh, h)).bind (fun r => q_L 127 127 [(21, a0), (0, a1), (0, a2), (0, b0), (9, 0), (9, 0)] [] r.2)) else none) else none :=
  (q_unL hL_X11_bars cu_X11_bars 400 113 _ _ _).trans rfl
set_option maxRecDepth 100000 in
theorem e_X11_bars_127 (a0 a1 a2 a3 : Int) (sh : Int × (Int → Nat × Int)) (h : Int → Int → Int) : q_L 127 127 [(21, a0), (0, a1), (0, a2), (0, a3), (9, 0), (9, 0)] [] (sh, h) = if 0 ≤ h a0 3 then ((q_Cc 50 [(15, h a0 3), (0, a1)] (sh, h)).bind (fun r => q_L 127 135 [(21, a0), (0, a1), (0, a2), (0, a3), (9, 0), (9, 0)] [r.1] r.2)) else none :=
  (q_unL hL_X11_bars cu_X11_bars 400 127 _ _ _).trans rfl
set_option maxRecDepth 100000 in
theorem e_X11_bars_135 (a0 a1 a2 a3 b0 : Int) (sh : Int × (Int → Nat × Int)) (h : Int → Int → Int) : q_L 127 135 [(21, a0), (0, a1), (0, a2), (0, a3), (9, 0), (9, 0)] [(0, b0)] (sh, h) = if b0 < 0 then (q_L 127 143 [(21, a0), (0, a1), (0, a2), (0, a3), (9, 0), (9, 0)] [(0, 0)] (sh, h)) else (q_L 127 143 [(21, a0), (0, a1), (0, a2), (0, a3), (9, 0), (9, 0)] [(0, 1)] (sh, h)) :=
  (q_unL hL_X11_bars cu_X11_bars 400 135 _ _ _).trans rfl
set_option maxRecDepth 100000 in
theorem e_X11_bars_143 (a0 a1 a2 a3 b0 : Int) (sh : Int × (Int → Nat × Int)) (h : Int → Int → Int) : q_L 127 143 [(21, a0), (0, a1), (0, a2), (0, a3), (9, 0), (9, 0)] [(0, b0)] (sh, h) = if 0 ≤ h a0 3 then (if 0 ≤ h a0 0 then ((q_Cc 38 [(15, h a0 3), (20, h a0 0), (0, a2), (0, (-1))] (sh, h)).bind (fun r => q_L 127 158 [(21, a0), (0, a1), (0, a2), (0, a3), (0, b0), (9, 0)] [] r.2)) else none) else none :=
  (q_unL hL_X11_bars cu_X11_bars 400 143 _ _ _).trans rfl
set_option maxRecDepth 100000 in
theorem e_X11_bars_158 (a0 a1 a2 a3 a4 : Int) (sh : Int × (Int → Nat × Int)) (h : Int → Int → Int) : q_L 127 158 [(21, a0), (0, a1), (0, a2), (0, a3), (0, a4), (9, 0)] [] (sh, h) = if 0 ≤ h a0 3 then ((q_Cc 50 [(15, h a0 3), (0, a2)] (sh, h)).bind (fun r => q_L 127 166 [(21, a0), (0, a1), (0, a2), (0, a3), (0, a4), (9, 0)] [r.1] r.2)) else none :=
  (q_unL hL_X11_bars cu_X11_bars 400 158 _ _ _).trans rfl
set_option maxRecDepth 100000 in
theorem e_X11_bars_166 (a0 a1 a2 a3 a4 b0 : Int) (sh : Int × (Int → Nat × Int)) (h : Int → Int → Int) : q_L 127 166 [(21, a0), (0, a1), (0, a2), (0, a3), (0, a4), (9, 0)] [(0, b0)] (sh, h) = if b0 < 0 then (q_L 127 174 [(21, a0), (0, a1), (0, a2), (0, a3), (0, a4), (9, 0)] [(0, 0)] (sh, h)) else (q_L 127 174 [(21, a0), (0, a1), (0, a2), (0, a3), (0, a4), (9, 0)] [(0, 1)] (sh, h)) :=
  (q_unL hL_X11_bars cu_X11_bars 400 166 _ _ _).trans rfl
set_option maxRecDepth 100000 in
theorem e_X11_bars_174 (a0 a1 a2 a3 a4 b0 : Int) (sh : Int × (Int → Nat × Int)) (h : Int → Int → Int) : q_L 127 174 [(21, a0), (0, a1), (0, a2), (0, a3), (0, a4), (9, 0)] [(0, b0)] (sh, h) = if a3 = 0 then (if a4 = 0 then (q_L 127 194 [(21, a0), (0, a1), (0, a2), (0, a3), (0, a4), (0, b0)] [] (sh, h)) else (if b0 = 0 then (q_L 127 194 [(21, a0), (0, a1), (0, a2), (0, a3), (0, a4), (0, b0)] [] (sh, h)) else (q_L 127 195 [(21, a0), (0, a1), (0, a2), (0, a3), (0, a4), (0, b0)] [(0, 1)] (sh, h)))) else (q_L 127 194 [(21, a0), (0, a1), (0, a2), (0, a3), (0, a4), (0, b0)] [] (sh, h)) :=
  (q_unL hL_X11_bars cu_X11_bars 400 174 _ _ _).trans rfl
set_option maxRecDepth 100000 in
theorem e_X11_bars_194 (a0 a1 a2 a3 a4 a5 : Int) (sh : Int × (Int → Nat × Int)) (h : Int → Int → Int) : q_L 127 194 [(21, a0), (0, a1), (0, a2), (0, a3), (0, a4), (0, a5)] [] (sh, h) = q_L 127 195 [(21, a0), (0, a1), (0, a2), (0, a3), (0, a4), (0, a5)] [(0, 0)] (sh, h) :=
  (q_unL hL_X11_bars cu_X11_bars 400 194 _ _ _).trans rfl
set_option maxRecDepth 100000 in
theorem e_X11_bars_195 (a0 a1 a2 a3 a4 a5 b0 : Int) (sh : Int × (Int → Nat × Int)) (h : Int → Int → Int) : q_L 127 195 [(21, a0), (0, a1), (0, a2), (0, a3), (0, a4), (0, a5)] [(0, b0)] (sh, h) = some ((0, b0), (sh, h)) :=
  (q_unL hL_X11_bars cu_X11_bars 400 195 _ _ _).trans rfl
def cu_X11_judge : List Nat := [0, 4, 13, 25, 35, 48, 69, 72, 99, 108, 130]
theorem hL_X11_judge : q_P 128 = q_find P_X11_judge := rfl
theorem c_X11_judge (a0 a1 : Int) (s : q_M) : q_Cc 128 [(21, a0), (0, a1)] s = q_L 128 0 [(21, a0), (0, a1), (9, 0), (9, 0)] [] s := rfl
set_option maxRecDepth 100000 in
theorem e_X11_judge_0 (a0 a1 : Int) (sh : Int × (Int → Nat × Int)) (h : Int → Int → Int) : q_L 128 0 [(21, a0), (0, a1), (9, 0), (9, 0)] [] (sh, h) = (q_Cc 158 [(0, a1)] (sh, h)).bind (fun r => q_L 128 4 [(21, a0), (0, a1), (9, 0), (9, 0)] [r.1] r.2) :=
  (q_unL hL_X11_judge cu_X11_judge 400 0 _ _ _).trans rfl
set_option maxRecDepth 100000 in
theorem e_X11_judge_4 (a0 a1 b0 : Int) (sh : Int × (Int → Nat × Int)) (h : Int → Int → Int) : q_L 128 4 [(21, a0), (0, a1), (9, 0), (9, 0)] [(0, b0)] (sh, h) = if b0 = 0 then (if 0 ≤ h a0 5 then (if 0 ≤ a1 ∧ a1 < (sh.2 (h a0 5)).2 ∧ 0 ≤ h (h a0 5) a1 then ((q_Cc 65 [(17, h (h a0 5) a1)] (sh, h)).bind (fun r => q_L 128 25 [(21, a0), (0, a1), (17, h (h a0 5) a1), (9, 0)] [r.1] r.2)) else none) else none) else ((q_Cc 159 [(21, a0), (0, (-1000001))] (sh, h)).bind (fun r => q_L 128 13 [(21, a0), (0, a1), (9, 0), (9, 0)] [r.1] r.2)) :=
  (q_unL hL_X11_judge cu_X11_judge 400 4 _ _ _).trans rfl
set_option maxRecDepth 100000 in
theorem e_X11_judge_13 (a0 a1 b0 : Int) (sh : Int × (Int → Nat × Int)) (h : Int → Int → Int) : q_L 128 13 [(21, a0), (0, a1), (9, 0), (9, 0)] [(0, b0)] (sh, h) = some ((0, b0), (sh, h)) :=
  (q_unL hL_X11_judge cu_X11_judge 400 13 _ _ _).trans rfl
set_option maxRecDepth 100000 in
theorem e_X11_judge_25 (a0 a1 a2 b0 : Int) (sh : Int × (Int → Nat × Int)) (h : Int → Int → Int) : q_L 128 25 [(21, a0), (0, a1), (17, a2), (9, 0)] [(0, b0)] (sh, h) = if b0 = 0 then (if 0 ≤ h a0 3 then (if 0 ≤ h a0 0 then ((q_Cc 39 [(15, h a0 3), (20, h a0 0), (0, (-1))] (sh, h)).bind (fun r => q_L 128 48 [(21, a0), (0, a1), (17, a2), (9, 0)] [] r.2)) else none) else none) else ((q_Cc 159 [(21, a0), (0, (-1000006))] (sh, h)).bind (fun r => q_L 128 35 [(21, a0), (0, a1), (17, a2), (9, 0)] [r.1] r.2)) :=
  (q_unL hL_X11_judge cu_X11_judge 400 25 _ _ _).trans rfl
set_option maxRecDepth 100000 in
theorem e_X11_judge_35 (a0 a1 a2 b0 : Int) (sh : Int × (Int → Nat × Int)) (h : Int → Int → Int) : q_L 128 35 [(21, a0), (0, a1), (17, a2), (9, 0)] [(0, b0)] (sh, h) = some ((0, b0), (sh, h)) :=
  (q_unL hL_X11_judge cu_X11_judge 400 35 _ _ _).trans rfl
set_option maxRecDepth 100000 in
theorem e_X11_judge_48 (a0 a1 a2 : Int) (sh : Int × (Int → Nat × Int)) (h : Int → Int → Int) : q_L 128 48 [(21, a0), (0, a1), (17, a2), (9, 0)] [] (sh, h) = if 0 ≤ h a0 3 then (if (h a2 1) = (h (h a0 3) 0) then (q_L 128 72 [(21, a0), (0, a1), (17, a2), (0, 0)] [] (sh, h)) else ((q_Cc 159 [(21, a0), (0, (-1000007))] (sh, h)).bind (fun r => q_L 128 69 [(21, a0), (0, a1), (17, a2), (9, 0)] [r.1] r.2))) else none :=
  (q_unL hL_X11_judge cu_X11_judge 400 48 _ _ _).trans rfl
set_option maxRecDepth 100000 in
theorem e_X11_judge_69 (a0 a1 a2 b0 : Int) (sh : Int × (Int → Nat × Int)) (h : Int → Int → Int) : q_L 128 69 [(21, a0), (0, a1), (17, a2), (9, 0)] [(0, b0)] (sh, h) = some ((0, b0), (sh, h)) :=
  (q_unL hL_X11_judge cu_X11_judge 400 69 _ _ _).trans rfl
set_option maxRecDepth 100000 in
theorem e_X11_judge_72 (a0 a1 a2 a3 : Int) (sh : Int × (Int → Nat × Int)) (h : Int → Int → Int) : q_L 128 72 [(21, a0), (0, a1), (17, a2), (0, a3)] [] (sh, h) = if a3 < (h a2 1) then (if 0 ≤ h a2 2 then (if 0 ≤ a3 ∧ a3 < (sh.2 (h a2 2)).2 then (if 0 ≤ h a0 0 then ((q_Cc 153 [(0, h (h a2 2) a3), (0, (-1)), (0, q_sub (h (h a0 0) 1) (1 : Int))] (sh, h)).bind (fun r => q_L 128 99 [(21, a0), (0, a1), (17, a2), (0, a3)] [r.1] r.2)) else none) else none) else none) else (if 0 ≤ h a0 3 then (if 0 ≤ h a0 0 then (if 0 ≤ h a2 2 then ((q_Cc 49 [(15, h a0 3), (20, h a0 0), (30, h a2 2)] (sh, h)).bind (fun r => q_L 128 130 [(21, a0), (0, a1), (17, a2), (0, a3)] [r.1] r.2)) else none) else none) else none) :=
  (q_unL hL_X11_judge cu_X11_judge 400 72 _ _ _).trans rfl
set_option maxRecDepth 100000 in
theorem e_X11_judge_99 (a0 a1 a2 a3 b0 : Int) (sh : Int × (Int → Nat × Int)) (h : Int → Int → Int) : q_L 128 99 [(21, a0), (0, a1), (17, a2), (0, a3)] [(0, b0)] (sh, h) = if b0 = 0 then (q_L 128 72 [(21, a0), (0, a1), (17, a2), (0, q_w (a3 + 1))] [] (sh, h)) else ((q_Cc 159 [(21, a0), (0, (-1000001))] (sh, h)).bind (fun r => q_L 128 108 [(21, a0), (0, a1), (17, a2), (0, a3)] [r.1] r.2)) :=
  (q_unL hL_X11_judge cu_X11_judge 400 99 _ _ _).trans rfl
set_option maxRecDepth 100000 in
theorem e_X11_judge_108 (a0 a1 a2 a3 b0 : Int) (sh : Int × (Int → Nat × Int)) (h : Int → Int → Int) : q_L 128 108 [(21, a0), (0, a1), (17, a2), (0, a3)] [(0, b0)] (sh, h) = some ((0, b0), (sh, h)) :=
  (q_unL hL_X11_judge cu_X11_judge 400 108 _ _ _).trans rfl
set_option maxRecDepth 100000 in
theorem e_X11_judge_130 (a0 a1 a2 a3 b0 : Int) (sh : Int × (Int → Nat × Int)) (h : Int → Int → Int) : q_L 128 130 [(21, a0), (0, a1), (17, a2), (0, a3)] [(0, b0)] (sh, h) = some ((0, b0), (sh, h)) :=
  (q_unL hL_X11_judge cu_X11_judge 400 130 _ _ _).trans rfl
def cu_X11_hold : List Nat := [0, 12, 23]
theorem hL_X11_hold : q_P 129 = q_find P_X11_hold := rfl
theorem c_X11_hold (a0 : Int) (s : q_M) : q_Cc 129 [(21, a0)] s = q_L 129 0 [(21, a0)] [] s := rfl
set_option maxRecDepth 100000 in
theorem e_X11_hold_0 (a0 : Int) (sh : Int × (Int → Nat × Int)) (h : Int → Int → Int) : q_L 129 0 [(21, a0)] [] (sh, h) = if 0 ≤ h a0 3 then (if 0 ≤ h a0 0 then ((q_Cc 36 [(15, h a0 3), (20, h a0 0), (0, (-1))] (sh, h)).bind (fun r => q_L 129 12 [(21, a0)] [] r.2)) else none) else none :=
  (q_unL hL_X11_hold cu_X11_hold 400 0 _ _ _).trans rfl
set_option maxRecDepth 100000 in
theorem e_X11_hold_12 (a0 : Int) (sh : Int × (Int → Nat × Int)) (h : Int → Int → Int) : q_L 129 12 [(21, a0)] [] (sh, h) = if 0 ≤ h a0 3 then (if 0 ≤ h a0 0 then ((q_Cc 53 [(15, h a0 3), (20, h a0 0)] (sh, h)).bind (fun r => q_L 129 23 [(21, a0)] [r.1] r.2)) else none) else none :=
  (q_unL hL_X11_hold cu_X11_hold 400 12 _ _ _).trans rfl
set_option maxRecDepth 100000 in
theorem e_X11_hold_23 (a0 b0 : Int) (sh : Int × (Int → Nat × Int)) (h : Int → Int → Int) : q_L 129 23 [(21, a0)] [(0, b0)] (sh, h) = some ((0, b0), (sh, h)) :=
  (q_unL hL_X11_hold cu_X11_hold 400 23 _ _ _).trans rfl
def cu_X11_drop : List Nat := [0, 5, 14, 39, 49]
theorem hL_X11_drop : q_P 130 = q_find P_X11_drop := rfl
theorem c_X11_drop (a0 a1 : Int) (s : q_M) : q_Cc 130 [(21, a0), (0, a1)] s = q_L 130 0 [(21, a0), (0, a1), (9, 0), (9, 0)] [] s := rfl
set_option maxRecDepth 100000 in
theorem e_X11_drop_0 (a0 a1 : Int) (sh : Int × (Int → Nat × Int)) (h : Int → Int → Int) : q_L 130 0 [(21, a0), (0, a1), (9, 0), (9, 0)] [] (sh, h) = (q_Cc 156 [(21, a0), (0, a1)] (sh, h)).bind (fun r => q_L 130 5 [(21, a0), (0, a1), (9, 0), (9, 0)] [r.1] r.2) :=
  (q_unL hL_X11_drop cu_X11_drop 400 0 _ _ _).trans rfl
set_option maxRecDepth 100000 in
theorem e_X11_drop_5 (a0 a1 b0 : Int) (sh : Int × (Int → Nat × Int)) (h : Int → Int → Int) : q_L 130 5 [(21, a0), (0, a1), (9, 0), (9, 0)] [(0, b0)] (sh, h) = if b0 = 0 then (if 0 ≤ h a0 0 then (if 0 ≤ h (h a0 0) 7 then (if 0 ≤ a1 ∧ a1 < (sh.2 (h (h a0 0) 7)).2 ∧ 0 ≤ h (h (h a0 0) 7) a1 then (if (h (h (h (h a0 0) 7) a1) 6) = (1 : Int) then ((q_Cc 3 [(10, h (h (h a0 0) 7) a1)] (sh, h)).bind (fun r => q_L 130 49 [(21, a0), (0, a1), (10, h (h (h a0 0) 7) a1), (0, h (h (h (h a0 0) 7) a1) 7)] [] r.2)) else ((q_Cc 159 [(21, a0), (0, (-1000005))] (sh, h)).bind (fun r => q_L 130 39 [(21, a0), (0, a1), (10, h (h (h a0 0) 7) a1), (9, 0)] [r.1] r.2))) else none) else none) else none) else ((q_Cc 159 [(21, a0), (0, (-1000001))] (sh, h)).bind (fun r => q_L 130 14 [(21, a0), (0, a1), (9, 0), (9, 0)] [r.1] r.2)) :=
  (q_unL hL_X11_drop cu_X11_drop 400 5 _ _ _).trans rfl
set_option maxRecDepth 100000 in
theorem e_X11_drop_14 (a0 a1 b0 : Int) (sh : Int × (Int → Nat × Int)) (h : Int → Int → Int) : q_L 130 14 [(21, a0), (0, a1), (9, 0), (9, 0)] [(0, b0)] (sh, h) = some ((0, b0), (sh, h)) :=
  (q_unL hL_X11_drop cu_X11_drop 400 14 _ _ _).trans rfl
set_option maxRecDepth 100000 in
theorem e_X11_drop_39 (a0 a1 a2 b0 : Int) (sh : Int × (Int → Nat × Int)) (h : Int → Int → Int) : q_L 130 39 [(21, a0), (0, a1), (10, a2), (9, 0)] [(0, b0)] (sh, h) = some ((0, b0), (sh, h)) :=
  (q_unL hL_X11_drop cu_X11_drop 400 39 _ _ _).trans rfl
set_option maxRecDepth 100000 in
theorem e_X11_drop_49 (a0 a1 a2 a3 : Int) (sh : Int × (Int → Nat × Int)) (h : Int → Int → Int) : q_L 130 49 [(21, a0), (0, a1), (10, a2), (0, a3)] [] (sh, h) = some ((0, a3), (sh, h)) :=
  (q_unL hL_X11_drop cu_X11_drop 400 49 _ _ _).trans rfl
def cu_X11_run : List Nat := [0, 7, 16, 38, 41, 53]
theorem hL_X11_run : q_P 131 = q_find P_X11_run := rfl
theorem c_X11_run (a0 a1 : Int) (s : q_M) : q_Cc 131 [(21, a0), (0, a1)] s = q_L 131 0 [(21, a0), (0, a1), (9, 0)] [] s := rfl
set_option maxRecDepth 100000 in
theorem e_X11_run_0 (a0 a1 : Int) (sh : Int × (Int → Nat × Int)) (h : Int → Int → Int) : q_L 131 0 [(21, a0), (0, a1), (9, 0)] [] (sh, h) = (q_Cc 153 [(0, a1), (0, 1), (0, 100)] (sh, h)).bind (fun r => q_L 131 7 [(21, a0), (0, a1), (9, 0)] [r.1] r.2) :=
  (q_unL hL_X11_run cu_X11_run 400 0 _ _ _).trans rfl
set_option maxRecDepth 100000 in
theorem e_X11_run_7 (a0 a1 b0 : Int) (sh : Int × (Int → Nat × Int)) (h : Int → Int → Int) : q_L 131 7 [(21, a0), (0, a1), (9, 0)] [(0, b0)] (sh, h) = if b0 = 0 then (if 0 ≤ h a0 0 then (if (2000 : Int) < (q_add (h (h a0 0) 0) a1) then ((q_Cc 159 [(21, a0), (0, (-1000002))] (sh, h)).bind (fun r => q_L 131 38 [(21, a0), (0, a1), (9, 0)] [r.1] r.2)) else (q_L 131 41 [(21, a0), (0, a1), (0, 0)] [] (sh, h))) else none) else ((q_Cc 159 [(21, a0), (0, (-1000001))] (sh, h)).bind (fun r => q_L 131 16 [(21, a0), (0, a1), (9, 0)] [r.1] r.2)) :=
  (q_unL hL_X11_run cu_X11_run 400 7 _ _ _).trans rfl
set_option maxRecDepth 100000 in
theorem e_X11_run_16 (a0 a1 b0 : Int) (sh : Int × (Int → Nat × Int)) (h : Int → Int → Int) : q_L 131 16 [(21, a0), (0, a1), (9, 0)] [(0, b0)] (sh, h) = some ((0, b0), (sh, h)) :=
  (q_unL hL_X11_run cu_X11_run 400 16 _ _ _).trans rfl
set_option maxRecDepth 100000 in
theorem e_X11_run_38 (a0 a1 b0 : Int) (sh : Int × (Int → Nat × Int)) (h : Int → Int → Int) : q_L 131 38 [(21, a0), (0, a1), (9, 0)] [(0, b0)] (sh, h) = some ((0, b0), (sh, h)) :=
  (q_unL hL_X11_run cu_X11_run 400 38 _ _ _).trans rfl
set_option maxRecDepth 100000 in
theorem e_X11_run_41 (a0 a1 a2 : Int) (sh : Int × (Int → Nat × Int)) (h : Int → Int → Int) : q_L 131 41 [(21, a0), (0, a1), (0, a2)] [] (sh, h) = if a2 < a1 then (if 0 ≤ h a0 0 then ((q_Cc 98 [(20, h a0 0)] (sh, h)).bind (fun r => q_L 131 53 [(21, a0), (0, a1), (0, a2)] [r.1] r.2)) else none) else (if 0 ≤ h a0 0 then (some ((0, h (h a0 0) 0), (sh, h))) else none) :=
  (q_unL hL_X11_run cu_X11_run 400 41 _ _ _).trans rfl
set_option maxRecDepth 100000 in
theorem e_X11_run_53 (a0 a1 a2 b0 : Int) (sh : Int × (Int → Nat × Int)) (h : Int → Int → Int) : q_L 131 53 [(21, a0), (0, a1), (0, a2)] [(0, b0)] (sh, h) = q_L 131 41 [(21, a0), (0, a1), (0, q_w (a2 + 1))] [] (sh, h) :=
  (q_unL hL_X11_run cu_X11_run 400 53 _ _ _).trans rfl
def cu_X11_block : List Nat := [0, 5, 14, 17, 23, 50, 59, 111]
theorem hL_X11_block : q_P 132 = q_find P_X11_block := rfl
theorem c_X11_block (a0 a1 a2 a3 : Int) (s : q_M) : q_Cc 132 [(21, a0), (0, a1), (0, a2), (0, a3)] s = q_L 132 0 [(21, a0), (0, a1), (0, a2), (0, a3), (9, 0)] [] s := rfl
set_option maxRecDepth 100000 in
theorem e_X11_block_0 (a0 a1 a2 a3 : Int) (sh : Int × (Int → Nat × Int)) (h : Int → Int → Int) : q_L 132 0 [(21, a0), (0, a1), (0, a2), (0, a3), (9, 0)] [] (sh, h) = (q_Cc 155 [(21, a0), (0, a1)] (sh, h)).bind (fun r => q_L 132 5 [(21, a0), (0, a1), (0, a2), (0, a3), (9, 0)] [r.1] r.2) :=
  (q_unL hL_X11_block cu_X11_block 400 0 _ _ _).trans rfl
set_option maxRecDepth 100000 in
theorem e_X11_block_5 (a0 a1 a2 a3 b0 : Int) (sh : Int × (Int → Nat × Int)) (h : Int → Int → Int) : q_L 132 5 [(21, a0), (0, a1), (0, a2), (0, a3), (9, 0)] [(0, b0)] (sh, h) = if b0 = 0 then ((q_Cc 153 [(0, a3), (0, 0), (0, 2)] (sh, h)).bind (fun r => q_L 132 14 [(21, a0), (0, a1), (0, a2), (0, a3), (9, 0)] [r.1] r.2)) else (q_L 132 17 [(21, a0), (0, a1), (0, a2), (0, a3), (9, 0)] [] (sh, h)) :=
  (q_unL hL_X11_block cu_X11_block 400 5 _ _ _).trans rfl
set_option maxRecDepth 100000 in
theorem e_X11_block_14 (a0 a1 a2 a3 b0 : Int) (sh : Int × (Int → Nat × Int)) (h : Int → Int → Int) : q_L 132 14 [(21, a0), (0, a1), (0, a2), (0, a3), (9, 0)] [(0, b0)] (sh, h) = if b0 = 0 then (if 0 ≤ h a0 0 then (if 0 ≤ h (h a0 0) 6 then (if 0 ≤ a1 ∧ a1 < (sh.2 (h (h a0 0) 6)).2 ∧ 0 ≤ h (h (h a0 0) 6) a1 then (if 0 ≤ h (h (h (h a0 0) 6) a1) 5 then ((q_Cc 153 [(0, a2), (0, 0), (0, q_sub (h (h (h (h (h a0 0) 6) a1) 5) 1) (1 : Int))] (sh, h)).bind (fun r => q_L 132 50 [(21, a0), (0, a1), (0, a2), (0, a3), (11, h (h (h (h a0 0) 6) a1) 5)] [r.1] r.2)) else none) else none) else none) else none) else (q_L 132 17 [(21, a0), (0, a1), (0, a2), (0, a3), (9, 0)] [] (sh, h)) :=
  (q_unL hL_X11_block cu_X11_block 400 14 _ _ _).trans rfl
set_option maxRecDepth 100000 in
theorem e_X11_block_17 (a0 a1 a2 a3 : Int) (sh : Int × (Int → Nat × Int)) (h : Int → Int → Int) : q_L 132 17 [(21, a0), (0, a1), (0, a2), (0, a3), (9, 0)] [] (sh, h) = (q_Cc 159 [(21, a0), (0, (-1000001))] (sh, h)).bind (fun r => q_L 132 23 [(21, a0), (0, a1), (0, a2), (0, a3), (9, 0)] [r.1] r.2) :=
  (q_unL hL_X11_block cu_X11_block 400 17 _ _ _).trans rfl
set_option maxRecDepth 100000 in
theorem e_X11_block_23 (a0 a1 a2 a3 b0 : Int) (sh : Int × (Int → Nat × Int)) (h : Int → Int → Int) : q_L 132 23 [(21, a0), (0, a1), (0, a2), (0, a3), (9, 0)] [(0, b0)] (sh, h) = some ((0, b0), (sh, h)) :=
  (q_unL hL_X11_block cu_X11_block 400 23 _ _ _).trans rfl
set_option maxRecDepth 100000 in
theorem e_X11_block_50 (a0 a1 a2 a3 a4 b0 : Int) (sh : Int × (Int → Nat × Int)) (h : Int → Int → Int) : q_L 132 50 [(21, a0), (0, a1), (0, a2), (0, a3), (11, a4)] [(0, b0)] (sh, h) = if b0 = 0 then (if a3 = 0 then (if 0 ≤ h a4 6 then (if 0 ≤ a2 ∧ a2 < (sh.2 (h a4 6)).2 then (some ((0, h (h a4 6) a2), (sh, h))) else none) else none) else (if a3 = 1 then (if 0 ≤ h a4 7 then (if 0 ≤ a2 ∧ a2 < (sh.2 (h a4 7)).2 then (if (h (h a4 7) a2) < 0 then (q_L 132 111 [(21, a0), (0, a1), (0, a2), (0, a3), (11, a4)] [(0, 0)] (sh, h)) else (q_L 132 111 [(21, a0), (0, a1), (0, a2), (0, a3), (11, a4)] [(0, 1)] (sh, h))) else none) else none) else (if 0 ≤ h a4 7 then (if 0 ≤ a2 ∧ a2 < (sh.2 (h a4 7)).2 then (some ((0, h (h a4 7) a2), (sh, h))) else none) else none))) else ((q_Cc 159 [(21, a0), (0, (-1000004))] (sh, h)).bind (fun r => q_L 132 59 [(21, a0), (0, a1), (0, a2), (0, a3), (11, a4)] [r.1] r.2)) :=
  (q_unL hL_X11_block cu_X11_block 400 50 _ _ _).trans rfl
set_option maxRecDepth 100000 in
theorem e_X11_block_59 (a0 a1 a2 a3 a4 b0 : Int) (sh : Int × (Int → Nat × Int)) (h : Int → Int → Int) : q_L 132 59 [(21, a0), (0, a1), (0, a2), (0, a3), (11, a4)] [(0, b0)] (sh, h) = some ((0, b0), (sh, h)) :=
  (q_unL hL_X11_block cu_X11_block 400 59 _ _ _).trans rfl
set_option maxRecDepth 100000 in
theorem e_X11_block_111 (a0 a1 a2 a3 a4 b0 : Int) (sh : Int × (Int → Nat × Int)) (h : Int → Int → Int) : q_L 132 111 [(21, a0), (0, a1), (0, a2), (0, a3), (11, a4)] [(0, b0)] (sh, h) = some ((0, b0), (sh, h)) :=
  (q_unL hL_X11_block cu_X11_block 400 111 _ _ _).trans rfl
def cu_X11_name : List Nat := [0, 5, 12, 18, 49]
theorem hL_X11_name : q_P 133 = q_find P_X11_name := rfl
theorem c_X11_name (a0 a1 a2 : Int) (s : q_M) : q_Cc 133 [(21, a0), (0, a1), (0, a2)] s = q_L 133 0 [(21, a0), (0, a1), (0, a2), (9, 0)] [] s := rfl
set_option maxRecDepth 100000 in
theorem e_X11_name_0 (a0 a1 a2 : Int) (sh : Int × (Int → Nat × Int)) (h : Int → Int → Int) : q_L 133 0 [(21, a0), (0, a1), (0, a2), (9, 0)] [] (sh, h) = (q_Cc 155 [(21, a0), (0, a1)] (sh, h)).bind (fun r => q_L 133 5 [(21, a0), (0, a1), (0, a2), (9, 0)] [r.1] r.2) :=
  (q_unL hL_X11_name cu_X11_name 400 0 _ _ _).trans rfl
set_option maxRecDepth 100000 in
theorem e_X11_name_5 (a0 a1 a2 b0 : Int) (sh : Int × (Int → Nat × Int)) (h : Int → Int → Int) : q_L 133 5 [(21, a0), (0, a1), (0, a2), (9, 0)] [(0, b0)] (sh, h) = if b0 = 0 then (if a2 < 0 then (q_L 133 12 [(21, a0), (0, a1), (0, a2), (9, 0)] [] (sh, h)) else (if 0 ≤ h a0 0 then (if 0 ≤ h (h a0 0) 6 then (if 0 ≤ a1 ∧ a1 < (sh.2 (h (h a0 0) 6)).2 ∧ 0 ≤ h (h (h a0 0) 6) a1 then (if 0 ≤ h (h (h (h a0 0) 6) a1) 5 then (if 0 ≤ h a0 0 then ((q_Cc 17 [(11, h (h (h (h a0 0) 6) a1) 5), (0, a2), (0, q_sub (h (h a0 0) 0) (h (h (h (h a0 0) 6) a1) 1))] (sh, h)).bind (fun r => q_L 133 49 [(21, a0), (0, a1), (0, a2), (12, h (h (h a0 0) 6) a1)] [r.1] r.2)) else none) else none) else none) else none) else none)) else (q_L 133 12 [(21, a0), (0, a1), (0, a2), (9, 0)] [] (sh, h)) :=
  (q_unL hL_X11_name cu_X11_name 400 5 _ _ _).trans rfl
set_option maxRecDepth 100000 in
theorem e_X11_name_12 (a0 a1 a2 : Int) (sh : Int × (Int → Nat × Int)) (h : Int → Int → Int) : q_L 133 12 [(21, a0), (0, a1), (0, a2), (9, 0)] [] (sh, h) = (q_Cc 159 [(21, a0), (0, (-1000001))] (sh, h)).bind (fun r => q_L 133 18 [(21, a0), (0, a1), (0, a2), (9, 0)] [r.1] r.2) :=
  (q_unL hL_X11_name cu_X11_name 400 12 _ _ _).trans rfl
set_option maxRecDepth 100000 in
theorem e_X11_name_18 (a0 a1 a2 b0 : Int) (sh : Int × (Int → Nat × Int)) (h : Int → Int → Int) : q_L 133 18 [(21, a0), (0, a1), (0, a2), (9, 0)] [(0, b0)] (sh, h) = some ((0, b0), (sh, h)) :=
  (q_unL hL_X11_name cu_X11_name 400 18 _ _ _).trans rfl
set_option maxRecDepth 100000 in
theorem e_X11_name_49 (a0 a1 a2 a3 b0 : Int) (sh : Int × (Int → Nat × Int)) (h : Int → Int → Int) : q_L 133 49 [(21, a0), (0, a1), (0, a2), (12, a3)] [(0, b0)] (sh, h) = some ((0, b0), (sh, h)) :=
  (q_unL hL_X11_name cu_X11_name 400 49 _ _ _).trans rfl
def cu_X11_over : List Nat := [0, 5, 15, 18, 24, 48]
theorem hL_X11_over : q_P 134 = q_find P_X11_over := rfl
theorem c_X11_over (a0 a1 a2 : Int) (s : q_M) : q_Cc 134 [(21, a0), (0, a1), (0, a2)] s = q_L 134 0 [(21, a0), (0, a1), (0, a2), (9, 0)] [] s := rfl
set_option maxRecDepth 100000 in
theorem e_X11_over_0 (a0 a1 a2 : Int) (sh : Int × (Int → Nat × Int)) (h : Int → Int → Int) : q_L 134 0 [(21, a0), (0, a1), (0, a2), (9, 0)] [] (sh, h) = (q_Cc 155 [(21, a0), (0, a1)] (sh, h)).bind (fun r => q_L 134 5 [(21, a0), (0, a1), (0, a2), (9, 0)] [r.1] r.2) :=
  (q_unL hL_X11_over cu_X11_over 400 0 _ _ _).trans rfl
set_option maxRecDepth 100000 in
theorem e_X11_over_5 (a0 a1 a2 b0 : Int) (sh : Int × (Int → Nat × Int)) (h : Int → Int → Int) : q_L 134 5 [(21, a0), (0, a1), (0, a2), (9, 0)] [(0, b0)] (sh, h) = if b0 = 0 then ((q_Cc 153 [(0, a2), (0, 1), (0, 9)] (sh, h)).bind (fun r => q_L 134 15 [(21, a0), (0, a1), (0, a2), (9, 0)] [r.1] r.2)) else (q_L 134 18 [(21, a0), (0, a1), (0, a2), (9, 0)] [] (sh, h)) :=
  (q_unL hL_X11_over cu_X11_over 400 5 _ _ _).trans rfl
set_option maxRecDepth 100000 in
theorem e_X11_over_15 (a0 a1 a2 b0 : Int) (sh : Int × (Int → Nat × Int)) (h : Int → Int → Int) : q_L 134 15 [(21, a0), (0, a1), (0, a2), (9, 0)] [(0, b0)] (sh, h) = if b0 = 0 then (if 0 ≤ h a0 0 then (if 0 ≤ h (h a0 0) 6 then (if 0 ≤ a1 ∧ a1 < (sh.2 (h (h a0 0) 6)).2 ∧ 0 ≤ h (h (h a0 0) 6) a1 then (if 0 ≤ h (h (h (h a0 0) 6) a1) 5 then ((q_Cc 18 [(11, h (h (h (h a0 0) 6) a1) 5), (0, q_mul a2 (h (h (h (h a0 0) 6) a1) 2))] (sh, h)).bind (fun r => q_L 134 48 [(21, a0), (0, a1), (0, a2), (12, h (h (h a0 0) 6) a1)] [r.1] r.2)) else none) else none) else none) else none) else (q_L 134 18 [(21, a0), (0, a1), (0, a2), (9, 0)] [] (sh, h)) :=
  (q_unL hL_X11_over cu_X11_over 400 15 _ _ _).trans rfl
set_option maxRecDepth 100000 in
theorem e_X11_over_18 (a0 a1 a2 : Int) (sh : Int × (Int → Nat × Int)) (h : Int → Int → Int) : q_L 134 18 [(21, a0), (0, a1), (0, a2), (9, 0)] [] (sh, h) = (q_Cc 159 [(21, a0), (0, (-1000001))] (sh, h)).bind (fun r => q_L 134 24 [(21, a0), (0, a1), (0, a2), (9, 0)] [r.1] r.2) :=
  (q_unL hL_X11_over cu_X11_over 400 18 _ _ _).trans rfl
set_option maxRecDepth 100000 in
theorem e_X11_over_24 (a0 a1 a2 b0 : Int) (sh : Int × (Int → Nat × Int)) (h : Int → Int → Int) : q_L 134 24 [(21, a0), (0, a1), (0, a2), (9, 0)] [(0, b0)] (sh, h) = some ((0, b0), (sh, h)) :=
  (q_unL hL_X11_over cu_X11_over 400 24 _ _ _).trans rfl
set_option maxRecDepth 100000 in
theorem e_X11_over_48 (a0 a1 a2 a3 b0 : Int) (sh : Int × (Int → Nat × Int)) (h : Int → Int → Int) : q_L 134 48 [(21, a0), (0, a1), (0, a2), (12, a3)] [(0, b0)] (sh, h) = some ((0, b0), (sh, h)) :=
  (q_unL hL_X11_over cu_X11_over 400 48 _ _ _).trans rfl
def cu_X11_order : List Nat := [0, 5, 22, 25, 31, 60, 73]
theorem hL_X11_order : q_P 135 = q_find P_X11_order := rfl
theorem c_X11_order (a0 a1 a2 : Int) (s : q_M) : q_Cc 135 [(21, a0), (0, a1), (0, a2)] s = q_L 135 0 [(21, a0), (0, a1), (0, a2), (9, 0)] [] s := rfl
set_option maxRecDepth 100000 in
theorem e_X11_order_0 (a0 a1 a2 : Int) (sh : Int × (Int → Nat × Int)) (h : Int → Int → Int) : q_L 135 0 [(21, a0), (0, a1), (0, a2), (9, 0)] [] (sh, h) = (q_Cc 155 [(21, a0), (0, a1)] (sh, h)).bind (fun r => q_L 135 5 [(21, a0), (0, a1), (0, a2), (9, 0)] [r.1] r.2) :=
  (q_unL hL_X11_order cu_X11_order 400 0 _ _ _).trans rfl
set_option maxRecDepth 100000 in
theorem e_X11_order_5 (a0 a1 a2 b0 : Int) (sh : Int × (Int → Nat × Int)) (h : Int → Int → Int) : q_L 135 5 [(21, a0), (0, a1), (0, a2), (9, 0)] [(0, b0)] (sh, h) = if b0 = 0 then (if 0 ≤ h a0 0 then ((q_Cc 153 [(0, a2), (0, h (h a0 0) 0), (0, 2000)] (sh, h)).bind (fun r => q_L 135 22 [(21, a0), (0, a1), (0, a2), (9, 0)] [r.1] r.2)) else none) else (q_L 135 25 [(21, a0), (0, a1), (0, a2), (9, 0)] [] (sh, h)) :=
  (q_unL hL_X11_order cu_X11_order 400 5 _ _ _).trans rfl
set_option maxRecDepth 100000 in
theorem e_X11_order_22 (a0 a1 a2 b0 : Int) (sh : Int × (Int → Nat × Int)) (h : Int → Int → Int) : q_L 135 22 [(21, a0), (0, a1), (0, a2), (9, 0)] [(0, b0)] (sh, h) = if b0 = 0 then (if 0 ≤ h a0 0 then (if 0 ≤ h (h a0 0) 6 then (if 0 ≤ a1 ∧ a1 < (sh.2 (h (h a0 0) 6)).2 ∧ 0 ≤ h (h (h a0 0) 6) a1 then (if 0 ≤ h (h (h (h a0 0) 6) a1) 6 then (if (h (h (h (h (h a0 0) 6) a1) 6) 0) < (12 : Int) then (if 0 ≤ h a0 0 then ((q_Cc 31 [(14, h (h (h (h a0 0) 6) a1) 6), (0, h (h a0 0) 0), (0, a2)] (sh, h)).bind (fun r => q_L 135 73 [(21, a0), (0, a1), (0, a2), (14, h (h (h (h a0 0) 6) a1) 6)] [r.1] r.2)) else none) else ((q_Cc 159 [(21, a0), (0, (-1000002))] (sh, h)).bind (fun r => q_L 135 60 [(21, a0), (0, a1), (0, a2), (14, h (h (h (h a0 0) 6) a1) 6)] [r.1] r.2))) else none) else none) else none) else none) else (q_L 135 25 [(21, a0), (0, a1), (0, a2), (9, 0)] [] (sh, h)) :=
  (q_unL hL_X11_order cu_X11_order 400 22 _ _ _).trans rfl
set_option maxRecDepth 100000 in
theorem e_X11_order_25 (a0 a1 a2 : Int) (sh : Int × (Int → Nat × Int)) (h : Int → Int → Int) : q_L 135 25 [(21, a0), (0, a1), (0, a2), (9, 0)] [] (sh, h) = (q_Cc 159 [(21, a0), (0, (-1000001))] (sh, h)).bind (fun r => q_L 135 31 [(21, a0), (0, a1), (0, a2), (9, 0)] [r.1] r.2) :=
  (q_unL hL_X11_order cu_X11_order 400 25 _ _ _).trans rfl
set_option maxRecDepth 100000 in
theorem e_X11_order_31 (a0 a1 a2 b0 : Int) (sh : Int × (Int → Nat × Int)) (h : Int → Int → Int) : q_L 135 31 [(21, a0), (0, a1), (0, a2), (9, 0)] [(0, b0)] (sh, h) = some ((0, b0), (sh, h)) :=
  (q_unL hL_X11_order cu_X11_order 400 31 _ _ _).trans rfl
set_option maxRecDepth 100000 in
theorem e_X11_order_60 (a0 a1 a2 a3 b0 : Int) (sh : Int × (Int → Nat × Int)) (h : Int → Int → Int) : q_L 135 60 [(21, a0), (0, a1), (0, a2), (14, a3)] [(0, b0)] (sh, h) = some ((0, b0), (sh, h)) :=
  (q_unL hL_X11_order cu_X11_order 400 60 _ _ _).trans rfl
set_option maxRecDepth 100000 in
theorem e_X11_order_73 (a0 a1 a2 a3 b0 : Int) (sh : Int × (Int → Nat × Int)) (h : Int → Int → Int) : q_L 135 73 [(21, a0), (0, a1), (0, a2), (14, a3)] [(0, b0)] (sh, h) = some ((0, b0), (sh, h)) :=
  (q_unL hL_X11_order cu_X11_order 400 73 _ _ _).trans rfl
def cu_X11_again : List Nat := [0, 6, 15, 41, 50]
theorem hL_X11_again : q_P 136 = q_find P_X11_again := rfl
theorem c_X11_again (a0 a1 a2 : Int) (s : q_M) : q_Cc 136 [(21, a0), (0, a1), (0, a2)] s = q_L 136 0 [(21, a0), (0, a1), (0, a2), (9, 0)] [] s := rfl
set_option maxRecDepth 100000 in
theorem e_X11_again_0 (a0 a1 a2 : Int) (sh : Int × (Int → Nat × Int)) (h : Int → Int → Int) : q_L 136 0 [(21, a0), (0, a1), (0, a2), (9, 0)] [] (sh, h) = (q_Cc 157 [(21, a0), (0, a1), (0, a2)] (sh, h)).bind (fun r => q_L 136 6 [(21, a0), (0, a1), (0, a2), (9, 0)] [r.1] r.2) :=
  (q_unL hL_X11_again cu_X11_again 400 0 _ _ _).trans rfl
set_option maxRecDepth 100000 in
theorem e_X11_again_6 (a0 a1 a2 b0 : Int) (sh : Int × (Int → Nat × Int)) (h : Int → Int → Int) : q_L 136 6 [(21, a0), (0, a1), (0, a2), (9, 0)] [(0, b0)] (sh, h) = if b0 = 0 then (if 0 ≤ h a0 0 then (if 0 ≤ h (h a0 0) 6 then (if 0 ≤ a1 ∧ a1 < (sh.2 (h (h a0 0) 6)).2 ∧ 0 ≤ h (h (h a0 0) 6) a1 then (if 0 ≤ h (h (h (h a0 0) 6) a1) 6 then (if 0 ≤ h a0 0 then ((q_Cc 32 [(14, h (h (h (h a0 0) 6) a1) 6), (0, a2), (0, h (h a0 0) 0)] (sh, h)).bind (fun r => q_L 136 41 [(21, a0), (0, a1), (0, a2), (14, h (h (h (h a0 0) 6) a1) 6)] [r.1] r.2)) else none) else none) else none) else none) else none) else ((q_Cc 159 [(21, a0), (0, (-1000001))] (sh, h)).bind (fun r => q_L 136 15 [(21, a0), (0, a1), (0, a2), (9, 0)] [r.1] r.2)) :=
  (q_unL hL_X11_again cu_X11_again 400 6 _ _ _).trans rfl
set_option maxRecDepth 100000 in
theorem e_X11_again_15 (a0 a1 a2 b0 : Int) (sh : Int × (Int → Nat × Int)) (h : Int → Int → Int) : q_L 136 15 [(21, a0), (0, a1), (0, a2), (9, 0)] [(0, b0)] (sh, h) = some ((0, b0), (sh, h)) :=
  (q_unL hL_X11_again cu_X11_again 400 15 _ _ _).trans rfl
set_option maxRecDepth 100000 in
theorem e_X11_again_41 (a0 a1 a2 a3 b0 : Int) (sh : Int × (Int → Nat × Int)) (h : Int → Int → Int) : q_L 136 41 [(21, a0), (0, a1), (0, a2), (14, a3)] [(0, b0)] (sh, h) = if b0 = 0 then ((q_Cc 159 [(21, a0), (0, (-1000005))] (sh, h)).bind (fun r => q_L 136 50 [(21, a0), (0, a1), (0, a2), (14, a3)] [r.1] r.2)) else (if 0 ≤ h a3 2 then (if 0 ≤ h a0 0 then (if 0 ≤ a2 ∧ a2 < (sh.2 (h a3 2)).2 ∧ 0 ≤ (h a3 2) then (some ((0, 1), (sh, q_up h (h a3 2) a2 (h (h a0 0) 0)))) else none) else none) else none) :=
  (q_unL hL_X11_again cu_X11_again 400 41 _ _ _).trans rfl
set_option maxRecDepth 100000 in
theorem e_X11_again_50 (a0 a1 a2 a3 b0 : Int) (sh : Int × (Int → Nat × Int)) (h : Int → Int → Int) : q_L 136 50 [(21, a0), (0, a1), (0, a2), (14, a3)] [(0, b0)] (sh, h) = some ((0, b0), (sh, h)) :=
  (q_unL hL_X11_again cu_X11_again 400 50 _ _ _).trans rfl
def cu_X11_orderIs : List Nat := [0, 6, 15, 110]
theorem hL_X11_orderIs : q_P 137 = q_find P_X11_orderIs := rfl
theorem c_X11_orderIs (a0 a1 a2 a3 : Int) (s : q_M) : q_Cc 137 [(21, a0), (0, a1), (0, a2), (0, a3)] s = q_L 137 0 [(21, a0), (0, a1), (0, a2), (0, a3), (9, 0)] [] s := rfl
set_option maxRecDepth 100000 in
theorem e_X11_orderIs_0 (a0 a1 a2 a3 : Int) (sh : Int × (Int → Nat × Int)) (h : Int → Int → Int) : q_L 137 0 [(21, a0), (0, a1), (0, a2), (0, a3), (9, 0)] [] (sh, h) = (q_Cc 157 [(21, a0), (0, a1), (0, a2)] (sh, h)).bind (fun r => q_L 137 6 [(21, a0), (0, a1), (0, a2), (0, a3), (9, 0)] [r.1] r.2) :=
  (q_unL hL_X11_orderIs cu_X11_orderIs 400 0 _ _ _).trans rfl
set_option maxRecDepth 100000 in
theorem e_X11_orderIs_6 (a0 a1 a2 a3 b0 : Int) (sh : Int × (Int → Nat × Int)) (h : Int → Int → Int) : q_L 137 6 [(21, a0), (0, a1), (0, a2), (0, a3), (9, 0)] [(0, b0)] (sh, h) = if b0 = 0 then (if 0 ≤ h a0 0 then (if 0 ≤ h (h a0 0) 6 then (if 0 ≤ a1 ∧ a1 < (sh.2 (h (h a0 0) 6)).2 ∧ 0 ≤ h (h (h a0 0) 6) a1 then (if 0 ≤ h (h (h (h a0 0) 6) a1) 6 then (if a3 = 0 then (if 0 ≤ h (h (h (h (h a0 0) 6) a1) 6) 1 then (if 0 ≤ a2 ∧ a2 < (sh.2 (h (h (h (h (h a0 0) 6) a1) 6) 1)).2 then (some ((0, h (h (h (h (h (h a0 0) 6) a1) 6) 1) a2), (sh, h))) else none) else none) else (if a3 = 1 then (if 0 ≤ h (h (h (h (h a0 0) 6) a1) 6) 2 then (if 0 ≤ a2 ∧ a2 < (sh.2 (h (h (h (h (h a0 0) 6) a1) 6) 2)).2 then (some ((0, h (h (h (h (h (h a0 0) 6) a1) 6) 2) a2), (sh, h))) else none) else none) else (if a3 = 2 then (if 0 ≤ h (h (h (h (h a0 0) 6) a1) 6) 3 then (if 0 ≤ a2 ∧ a2 < (sh.2 (h (h (h (h (h a0 0) 6) a1) 6) 3)).2 then (some ((0, h (h (h (h (h (h a0 0) 6) a1) 6) 3) a2), (sh, h))) else none) else none) else (if a3 = 3 then (if 0 ≤ h (h (h (h (h a0 0) 6) a1) 6) 5 then (if 0 ≤ a2 ∧ a2 < (sh.2 (h (h (h (h (h a0 0) 6) a1) 6) 5)).2 then (some ((0, h (h (h (h (h (h a0 0) 6) a1) 6) 5) a2), (sh, h))) else none) else none) else (if a3 = 4 then (if 0 ≤ h (h (h (h (h a0 0) 6) a1) 6) 6 then (if 0 ≤ a2 ∧ a2 < (sh.2 (h (h (h (h (h a0 0) 6) a1) 6) 6)).2 then (some ((0, h (h (h (h (h (h a0 0) 6) a1) 6) 6) a2), (sh, h))) else none) else none) else ((q_Cc 159 [(21, a0), (0, (-1000001))] (sh, h)).bind (fun r => q_L 137 110 [(21, a0), (0, a1), (0, a2), (0, a3), (14, h (h (h (h a0 0) 6) a1) 6)] [r.1] r.2))))))) else none) else none) else none) else none) else ((q_Cc 159 [(21, a0), (0, (-1000001))] (sh, h)).bind (fun r => q_L 137 15 [(21, a0), (0, a1), (0, a2), (0, a3), (9, 0)] [r.1] r.2)) :=
  (q_unL hL_X11_orderIs cu_X11_orderIs 400 6 _ _ _).trans rfl
set_option maxRecDepth 100000 in
theorem e_X11_orderIs_15 (a0 a1 a2 a3 b0 : Int) (sh : Int × (Int → Nat × Int)) (h : Int → Int → Int) : q_L 137 15 [(21, a0), (0, a1), (0, a2), (0, a3), (9, 0)] [(0, b0)] (sh, h) = some ((0, b0), (sh, h)) :=
  (q_unL hL_X11_orderIs cu_X11_orderIs 400 15 _ _ _).trans rfl
set_option maxRecDepth 100000 in
theorem e_X11_orderIs_110 (a0 a1 a2 a3 a4 b0 : Int) (sh : Int × (Int → Nat × Int)) (h : Int → Int → Int) : q_L 137 110 [(21, a0), (0, a1), (0, a2), (0, a3), (14, a4)] [(0, b0)] (sh, h) = some ((0, b0), (sh, h)) :=
  (q_unL hL_X11_orderIs cu_X11_orderIs 400 110 _ _ _).trans rfl
def cu_X11_table : List Nat := [0, 5, 15, 25, 28, 34, 54]
theorem hL_X11_table : q_P 138 = q_find P_X11_table := rfl
theorem c_X11_table (a0 a1 a2 a3 a4 : Int) (s : q_M) : q_Cc 138 [(21, a0), (0, a1), (0, a2), (0, a3), (0, a4)] s = q_L 138 0 [(21, a0), (0, a1), (0, a2), (0, a3), (0, a4)] [] s := rfl
set_option maxRecDepth 100000 in
theorem e_X11_table_0 (a0 a1 a2 a3 a4 : Int) (sh : Int × (Int → Nat × Int)) (h : Int → Int → Int) : q_L 138 0 [(21, a0), (0, a1), (0, a2), (0, a3), (0, a4)] [] (sh, h) = (q_Cc 155 [(21, a0), (0, a1)] (sh, h)).bind (fun r => q_L 138 5 [(21, a0), (0, a1), (0, a2), (0, a3), (0, a4)] [r.1] r.2) :=
  (q_unL hL_X11_table cu_X11_table 400 0 _ _ _).trans rfl
set_option maxRecDepth 100000 in
theorem e_X11_table_5 (a0 a1 a2 a3 a4 b0 : Int) (sh : Int × (Int → Nat × Int)) (h : Int → Int → Int) : q_L 138 5 [(21, a0), (0, a1), (0, a2), (0, a3), (0, a4)] [(0, b0)] (sh, h) = if b0 = 0 then ((q_Cc 153 [(0, a2), (0, 0), (0, 7)] (sh, h)).bind (fun r => q_L 138 15 [(21, a0), (0, a1), (0, a2), (0, a3), (0, a4)] [r.1] r.2)) else (q_L 138 28 [(21, a0), (0, a1), (0, a2), (0, a3), (0, a4)] [] (sh, h)) :=
  (q_unL hL_X11_table cu_X11_table 400 5 _ _ _).trans rfl
set_option maxRecDepth 100000 in
theorem e_X11_table_15 (a0 a1 a2 a3 a4 b0 : Int) (sh : Int × (Int → Nat × Int)) (h : Int → Int → Int) : q_L 138 15 [(21, a0), (0, a1), (0, a2), (0, a3), (0, a4)] [(0, b0)] (sh, h) = if b0 = 0 then ((q_Cc 153 [(0, a3), (0, 0), (0, 7)] (sh, h)).bind (fun r => q_L 138 25 [(21, a0), (0, a1), (0, a2), (0, a3), (0, a4)] [r.1] r.2)) else (q_L 138 28 [(21, a0), (0, a1), (0, a2), (0, a3), (0, a4)] [] (sh, h)) :=
  (q_unL hL_X11_table cu_X11_table 400 15 _ _ _).trans rfl
set_option maxRecDepth 100000 in
theorem e_X11_table_25 (a0 a1 a2 a3 a4 b0 : Int) (sh : Int × (Int → Nat × Int)) (h : Int → Int → Int) : q_L 138 25 [(21, a0), (0, a1), (0, a2), (0, a3), (0, a4)] [(0, b0)] (sh, h) = if b0 = 0 then (if 0 ≤ h a0 0 then (if 0 ≤ h (h a0 0) 6 then (if 0 ≤ a1 ∧ a1 < (sh.2 (h (h a0 0) 6)).2 ∧ 0 ≤ h (h (h a0 0) 6) a1 then (if 0 ≤ h (h (h (h a0 0) 6) a1) 7 then ((q_Cc 72 [(18, h (h (h (h a0 0) 6) a1) 7), (0, a2), (0, a3), (0, a4)] (sh, h)).bind (fun r => q_L 138 54 [(21, a0), (0, a1), (0, a2), (0, a3), (0, a4)] [r.1] r.2)) else none) else none) else none) else none) else (q_L 138 28 [(21, a0), (0, a1), (0, a2), (0, a3), (0, a4)] [] (sh, h)) :=
  (q_unL hL_X11_table cu_X11_table 400 25 _ _ _).trans rfl
set_option maxRecDepth 100000 in
theorem e_X11_table_28 (a0 a1 a2 a3 a4 : Int) (sh : Int × (Int → Nat × Int)) (h : Int → Int → Int) : q_L 138 28 [(21, a0), (0, a1), (0, a2), (0, a3), (0, a4)] [] (sh, h) = (q_Cc 159 [(21, a0), (0, (-1000001))] (sh, h)).bind (fun r => q_L 138 34 [(21, a0), (0, a1), (0, a2), (0, a3), (0, a4)] [r.1] r.2) :=
  (q_unL hL_X11_table cu_X11_table 400 28 _ _ _).trans rfl
set_option maxRecDepth 100000 in
theorem e_X11_table_34 (a0 a1 a2 a3 a4 b0 : Int) (sh : Int × (Int → Nat × Int)) (h : Int → Int → Int) : q_L 138 34 [(21, a0), (0, a1), (0, a2), (0, a3), (0, a4)] [(0, b0)] (sh, h) = some ((0, b0), (sh, h)) :=
  (q_unL hL_X11_table cu_X11_table 400 34 _ _ _).trans rfl
set_option maxRecDepth 100000 in
theorem e_X11_table_54 (a0 a1 a2 a3 a4 b0 : Int) (sh : Int × (Int → Nat × Int)) (h : Int → Int → Int) : q_L 138 54 [(21, a0), (0, a1), (0, a2), (0, a3), (0, a4)] [(0, b0)] (sh, h) = some ((0, b0), (sh, h)) :=
  (q_unL hL_X11_table cu_X11_table 400 54 _ _ _).trans rfl
def cu_X11_silence : List Nat := [0, 5, 15, 18, 24, 41, 52, 56]
theorem hL_X11_silence : q_P 139 = q_find P_X11_silence := rfl
theorem c_X11_silence (a0 a1 a2 : Int) (s : q_M) : q_Cc 139 [(21, a0), (0, a1), (0, a2)] s = q_L 139 0 [(21, a0), (0, a1), (0, a2), (9, 0)] [] s := rfl
set_option maxRecDepth 100000 in
theorem e_X11_silence_0 (a0 a1 a2 : Int) (sh : Int × (Int → Nat × Int)) (h : Int → Int → Int) : q_L 139 0 [(21, a0), (0, a1), (0, a2), (9, 0)] [] (sh, h) = (q_Cc 155 [(21, a0), (0, a1)] (sh, h)).bind (fun r => q_L 139 5 [(21, a0), (0, a1), (0, a2), (9, 0)] [r.1] r.2) :=
  (q_unL hL_X11_silence cu_X11_silence 400 0 _ _ _).trans rfl
set_option maxRecDepth 100000 in
theorem e_X11_silence_5 (a0 a1 a2 b0 : Int) (sh : Int × (Int → Nat × Int)) (h : Int → Int → Int) : q_L 139 5 [(21, a0), (0, a1), (0, a2), (9, 0)] [(0, b0)] (sh, h) = if b0 = 0 then ((q_Cc 153 [(0, a2), (0, 0), (0, 7)] (sh, h)).bind (fun r => q_L 139 15 [(21, a0), (0, a1), (0, a2), (9, 0)] [r.1] r.2)) else (q_L 139 18 [(21, a0), (0, a1), (0, a2), (9, 0)] [] (sh, h)) :=
  (q_unL hL_X11_silence cu_X11_silence 400 5 _ _ _).trans rfl
set_option maxRecDepth 100000 in
theorem e_X11_silence_15 (a0 a1 a2 b0 : Int) (sh : Int × (Int → Nat × Int)) (h : Int → Int → Int) : q_L 139 15 [(21, a0), (0, a1), (0, a2), (9, 0)] [(0, b0)] (sh, h) = if b0 = 0 then (if 0 ≤ h a0 0 then (if 0 ≤ h (h a0 0) 6 then (if 0 ≤ a1 ∧ a1 < (sh.2 (h (h a0 0) 6)).2 ∧ 0 ≤ h (h (h a0 0) 6) a1 then (if 0 ≤ h (h (h (h a0 0) 6) a1) 7 then ((q_Cc 73 [(18, h (h (h (h a0 0) 6) a1) 7), (0, a2)] (sh, h)).bind (fun r => q_L 139 41 [(21, a0), (0, a1), (0, a2), (9, 0)] [r.1] r.2)) else none) else none) else none) else none) else (q_L 139 18 [(21, a0), (0, a1), (0, a2), (9, 0)] [] (sh, h)) :=
  (q_unL hL_X11_silence cu_X11_silence 400 15 _ _ _).trans rfl
set_option maxRecDepth 100000 in
theorem e_X11_silence_18 (a0 a1 a2 : Int) (sh : Int × (Int → Nat × Int)) (h : Int → Int → Int) : q_L 139 18 [(21, a0), (0, a1), (0, a2), (9, 0)] [] (sh, h) = (q_Cc 159 [(21, a0), (0, (-1000001))] (sh, h)).bind (fun r => q_L 139 24 [(21, a0), (0, a1), (0, a2), (9, 0)] [r.1] r.2) :=
  (q_unL hL_X11_silence cu_X11_silence 400 18 _ _ _).trans rfl
set_option maxRecDepth 100000 in
theorem e_X11_silence_24 (a0 a1 a2 b0 : Int) (sh : Int × (Int → Nat × Int)) (h : Int → Int → Int) : q_L 139 24 [(21, a0), (0, a1), (0, a2), (9, 0)] [(0, b0)] (sh, h) = some ((0, b0), (sh, h)) :=
  (q_unL hL_X11_silence cu_X11_silence 400 24 _ _ _).trans rfl
set_option maxRecDepth 100000 in
theorem e_X11_silence_41 (a0 a1 a2 b0 : Int) (sh : Int × (Int → Nat × Int)) (h : Int → Int → Int) : q_L 139 41 [(21, a0), (0, a1), (0, a2), (9, 0)] [(0, b0)] (sh, h) = if b0 < 0 then ((q_Cc 159 [(21, a0), (0, (-1000004))] (sh, h)).bind (fun r => q_L 139 52 [(21, a0), (0, a1), (0, a2), (0, b0)] [r.1] r.2)) else (q_L 139 56 [(21, a0), (0, a1), (0, a2), (0, b0)] [(0, b0)] (sh, h)) :=
  (q_unL hL_X11_silence cu_X11_silence 400 41 _ _ _).trans rfl
set_option maxRecDepth 100000 in
theorem e_X11_silence_52 (a0 a1 a2 a3 b0 : Int) (sh : Int × (Int → Nat × Int)) (h : Int → Int → Int) : q_L 139 52 [(21, a0), (0, a1), (0, a2), (0, a3)] [(0, b0)] (sh, h) = q_L 139 56 [(21, a0), (0, a1), (0, a2), (0, a3)] [(0, b0)] (sh, h) :=
  (q_unL hL_X11_silence cu_X11_silence 400 52 _ _ _).trans rfl
set_option maxRecDepth 100000 in
theorem e_X11_silence_56 (a0 a1 a2 a3 b0 : Int) (sh : Int × (Int → Nat × Int)) (h : Int → Int → Int) : q_L 139 56 [(21, a0), (0, a1), (0, a2), (0, a3)] [(0, b0)] (sh, h) = some ((0, b0), (sh, h)) :=
  (q_unL hL_X11_silence cu_X11_silence 400 56 _ _ _).trans rfl
def cu_X11_ever : List Nat := [0, 5, 14, 30]
theorem hL_X11_ever : q_P 140 = q_find P_X11_ever := rfl
theorem c_X11_ever (a0 a1 : Int) (s : q_M) : q_Cc 140 [(21, a0), (0, a1)] s = q_L 140 0 [(21, a0), (0, a1)] [] s := rfl
set_option maxRecDepth 100000 in
theorem e_X11_ever_0 (a0 a1 : Int) (sh : Int × (Int → Nat × Int)) (h : Int → Int → Int) : q_L 140 0 [(21, a0), (0, a1)] [] (sh, h) = (q_Cc 155 [(21, a0), (0, a1)] (sh, h)).bind (fun r => q_L 140 5 [(21, a0), (0, a1)] [r.1] r.2) :=
  (q_unL hL_X11_ever cu_X11_ever 400 0 _ _ _).trans rfl
set_option maxRecDepth 100000 in
theorem e_X11_ever_5 (a0 a1 b0 : Int) (sh : Int × (Int → Nat × Int)) (h : Int → Int → Int) : q_L 140 5 [(21, a0), (0, a1)] [(0, b0)] (sh, h) = if b0 = 0 then (if 0 ≤ h a0 0 then (if 0 ≤ h (h a0 0) 6 then (if 0 ≤ a1 ∧ a1 < (sh.2 (h (h a0 0) 6)).2 ∧ 0 ≤ h (h (h a0 0) 6) a1 then (if 0 ≤ h (h (h (h a0 0) 6) a1) 7 then ((q_Cc 74 [(18, h (h (h (h a0 0) 6) a1) 7)] (sh, h)).bind (fun r => q_L 140 30 [(21, a0), (0, a1)] [r.1] r.2)) else none) else none) else none) else none) else ((q_Cc 159 [(21, a0), (0, (-1000001))] (sh, h)).bind (fun r => q_L 140 14 [(21, a0), (0, a1)] [r.1] r.2)) :=
  (q_unL hL_X11_ever cu_X11_ever 400 5 _ _ _).trans rfl
set_option maxRecDepth 100000 in
theorem e_X11_ever_14 (a0 a1 b0 : Int) (sh : Int × (Int → Nat × Int)) (h : Int → Int → Int) : q_L 140 14 [(21, a0), (0, a1)] [(0, b0)] (sh, h) = some ((0, b0), (sh, h)) :=
  (q_unL hL_X11_ever cu_X11_ever 400 14 _ _ _).trans rfl
set_option maxRecDepth 100000 in
theorem e_X11_ever_30 (a0 a1 b0 : Int) (sh : Int × (Int → Nat × Int)) (h : Int → Int → Int) : q_L 140 30 [(21, a0), (0, a1)] [(0, b0)] (sh, h) = some ((0, b0), (sh, h)) :=
  (q_unL hL_X11_ever cu_X11_ever 400 30 _ _ _).trans rfl
def cu_X11_cell : List Nat := [0, 7, 17, 20, 26, 39]
theorem hL_X11_cell : q_P 141 = q_find P_X11_cell := rfl
theorem c_X11_cell (a0 a1 a2 : Int) (s : q_M) : q_Cc 141 [(21, a0), (0, a1), (0, a2)] s = q_L 141 0 [(21, a0), (0, a1), (0, a2)] [] s := rfl
set_option maxRecDepth 100000 in
theorem e_X11_cell_0 (a0 a1 a2 : Int) (sh : Int × (Int → Nat × Int)) (h : Int → Int → Int) : q_L 141 0 [(21, a0), (0, a1), (0, a2)] [] (sh, h) = (q_Cc 153 [(0, a1), (0, 0), (0, 63)] (sh, h)).bind (fun r => q_L 141 7 [(21, a0), (0, a1), (0, a2)] [r.1] r.2) :=
  (q_unL hL_X11_cell cu_X11_cell 400 0 _ _ _).trans rfl
set_option maxRecDepth 100000 in
theorem e_X11_cell_7 (a0 a1 a2 b0 : Int) (sh : Int × (Int → Nat × Int)) (h : Int → Int → Int) : q_L 141 7 [(21, a0), (0, a1), (0, a2)] [(0, b0)] (sh, h) = if b0 = 0 then ((q_Cc 153 [(0, a2), (0, 0), (0, 99)] (sh, h)).bind (fun r => q_L 141 17 [(21, a0), (0, a1), (0, a2)] [r.1] r.2)) else (q_L 141 20 [(21, a0), (0, a1), (0, a2)] [] (sh, h)) :=
  (q_unL hL_X11_cell cu_X11_cell 400 7 _ _ _).trans rfl
set_option maxRecDepth 100000 in
theorem e_X11_cell_17 (a0 a1 a2 b0 : Int) (sh : Int × (Int → Nat × Int)) (h : Int → Int → Int) : q_L 141 17 [(21, a0), (0, a1), (0, a2)] [(0, b0)] (sh, h) = if b0 = 0 then (if 0 ≤ h a0 0 then (if 0 ≤ h (h a0 0) 8 then ((q_Cc 57 [(16, h (h a0 0) 8), (0, a1), (0, a2)] (sh, h)).bind (fun r => q_L 141 39 [(21, a0), (0, a1), (0, a2)] [r.1] r.2)) else none) else none) else (q_L 141 20 [(21, a0), (0, a1), (0, a2)] [] (sh, h)) :=
  (q_unL hL_X11_cell cu_X11_cell 400 17 _ _ _).trans rfl
set_option maxRecDepth 100000 in
theorem e_X11_cell_20 (a0 a1 a2 : Int) (sh : Int × (Int → Nat × Int)) (h : Int → Int → Int) : q_L 141 20 [(21, a0), (0, a1), (0, a2)] [] (sh, h) = (q_Cc 159 [(21, a0), (0, (-1000001))] (sh, h)).bind (fun r => q_L 141 26 [(21, a0), (0, a1), (0, a2)] [r.1] r.2) :=
  (q_unL hL_X11_cell cu_X11_cell 400 20 _ _ _).trans rfl
set_option maxRecDepth 100000 in
theorem e_X11_cell_26 (a0 a1 a2 b0 : Int) (sh : Int × (Int → Nat × Int)) (h : Int → Int → Int) : q_L 141 26 [(21, a0), (0, a1), (0, a2)] [(0, b0)] (sh, h) = some ((0, b0), (sh, h)) :=
  (q_unL hL_X11_cell cu_X11_cell 400 26 _ _ _).trans rfl
set_option maxRecDepth 100000 in
theorem e_X11_cell_39 (a0 a1 a2 b0 : Int) (sh : Int × (Int → Nat × Int)) (h : Int → Int → Int) : q_L 141 39 [(21, a0), (0, a1), (0, a2)] [(0, b0)] (sh, h) = some ((0, b0), (sh, h)) :=
  (q_unL hL_X11_cell cu_X11_cell 400 39 _ _ _).trans rfl
def cu_X11_seek : List Nat := [0, 10, 21, 25]
theorem hL_X11_seek : q_P 142 = q_find P_X11_seek := rfl
theorem c_X11_seek (a0 : Int) (s : q_M) : q_Cc 142 [(21, a0)] s = q_L 142 0 [(21, a0), (9, 0)] [] s := rfl
set_option maxRecDepth 100000 in
theorem e_X11_seek_0 (a0 : Int) (sh : Int × (Int → Nat × Int)) (h : Int → Int → Int) : q_L 142 0 [(21, a0), (9, 0)] [] (sh, h) = if 0 ≤ h a0 0 then (if 0 ≤ h (h a0 0) 8 then ((q_Cc 58 [(16, h (h a0 0) 8)] (sh, h)).bind (fun r => q_L 142 10 [(21, a0), (9, 0)] [r.1] r.2)) else none) else none :=
  (q_unL hL_X11_seek cu_X11_seek 400 0 _ _ _).trans rfl
set_option maxRecDepth 100000 in
theorem e_X11_seek_10 (a0 b0 : Int) (sh : Int × (Int → Nat × Int)) (h : Int → Int → Int) : q_L 142 10 [(21, a0), (9, 0)] [(0, b0)] (sh, h) = if b0 < 0 then ((q_Cc 159 [(21, a0), (0, (-1000004))] (sh, h)).bind (fun r => q_L 142 21 [(21, a0), (0, b0)] [r.1] r.2)) else (q_L 142 25 [(21, a0), (0, b0)] [(0, b0)] (sh, h)) :=
  (q_unL hL_X11_seek cu_X11_seek 400 10 _ _ _).trans rfl
set_option maxRecDepth 100000 in
theorem e_X11_seek_21 (a0 a1 b0 : Int) (sh : Int × (Int → Nat × Int)) (h : Int → Int → Int) : q_L 142 21 [(21, a0), (0, a1)] [(0, b0)] (sh, h) = q_L 142 25 [(21, a0), (0, a1)] [(0, b0)] (sh, h) :=
  (q_unL hL_X11_seek cu_X11_seek 400 21 _ _ _).trans rfl
set_option maxRecDepth 100000 in
theorem e_X11_seek_25 (a0 a1 b0 : Int) (sh : Int × (Int → Nat × Int)) (h : Int → Int → Int) : q_L 142 25 [(21, a0), (0, a1)] [(0, b0)] (sh, h) = some ((0, b0), (sh, h)) :=
  (q_unL hL_X11_seek cu_X11_seek 400 25 _ _ _).trans rfl
