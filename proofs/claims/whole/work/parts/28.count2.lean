theorem k_broken {sh : Int × (Int → Nat × Int)} {h : Int → Int → Int} {w : Int} {G : Int → Int} (hs : Sh sh) (hp : Ptr h) (iw : isW w) (hr : RelW h w G) (wr : WFR G) : q_Cc 103 [(20, w)] (sh, h) = some ((0, sm (fun d => G (70 + d)) (G 1)), (sh, h)) := by
  have u1 := wr.nd
  have w0 := iw.b
  rw [c_X10_brokenDishes, e_X10_brokenDishes_0]
  refine lp (fun i (y : Int) => q_L 103 4 [(20, w), (0, y), (0, i)] [] (sh, h)) (fun i y => y = sm (fun d => G (70 + d)) i) (fun r => r = some ((0, sm (fun d => G (70 + d)) (G 1)), (sh, h))) (G 1) ?_ ?_ 0 0 (by omega) (by omega) rfl
  · intro i y i0 i1 hy
    subst hy
    have bd := sm_bnd (f := fun d => G (70 + d)) (a := 0) (b := 1) (n := i) i0 (fun j j0 j1 => wr.broken (d := j) j0 (by omega))
    have gi := wr.broken (d := i) i0 (by omega)
    refine Or.inl ⟨sm (fun d => G (70 + d)) (i + 1), ?_, rfl⟩
    rw [sm_succ i0, e_X10_brokenDishes_4]
    have : G (70 + i) = 0 ∨ G (70 + i) = 1 := by omega
    rcases this with e | e <;> simp (disch := omega) only [q_470, q_up_far, q_row_row, q_row_self, q_row_ne, q_up_ne, q_up_eq, q_rowup, ud_eq, ud_ne, q_add_id, q_sub_id, q_mul_id, q_w_eq, q_rem_n, q_div_n, ↓reduceIte, leT, leF, ltT, ltF, eqT, eqF, true_or, or_true, false_or, or_false, true_and, and_true, false_and, and_false, or_self, and_self, Option.bind_some, e, hr.nd wr, hr.broken wr, hp.w5 iw, hp.dish iw, hs.dishes iw, e_X10_brokenDishes_27, Int.add_zero]
  · intro y hy
    subst hy
    show q_L 103 4 _ _ _ = _
    rw [e_X10_brokenDishes_4]
    simp (disch := omega) only [q_470, q_up_far, q_row_row, q_row_self, q_row_ne, q_up_ne, q_up_eq, q_rowup, ud_eq, ud_ne, q_add_id, q_sub_id, q_mul_id, q_w_eq, q_rem_n, q_div_n, ↓reduceIte, leT, leF, ltT, ltF, eqT, eqF, true_or, or_true, false_or, or_false, true_and, and_true, false_and, and_false, or_self, and_self, Option.bind_some, hr.nd wr]
theorem r_brokenL {sh : Int × (Int → Nat × Int)} {h : Int → Int → Int} {z : Int} {G : Int → Int} (e0 : h 469 0 = 470) (l : (sh.2 470).2 = 1354) (hG : h 470 = G) (wr : WFR G) : q_L 254 77 [(22, 469), (0, z), (0, 0), (0, 0)] [] (sh, h) = some ((0, sm (fun d => G (70 + d)) (G 1)), (sh, h)) := by
  have u1 := wr.nd
  refine lp (fun i (y : Int) => q_L 254 77 [(22, 469), (0, z), (0, y), (0, i)] [] (sh, h)) (fun i y => y = sm (fun d => G (70 + d)) i) (fun r => r = some ((0, sm (fun d => G (70 + d)) (G 1)), (sh, h))) (G 1) ?_ ?_ 0 0 (by omega) (by omega) rfl
  · intro i y i0 i1 hy
    subst hy
    have bd := sm_bnd (f := fun d => G (70 + d)) (a := 0) (b := 1) (n := i) i0 (fun j j0 j1 => wr.broken (d := j) j0 (by omega))
    have gi := wr.broken (d := i) i0 (by omega)
    refine Or.inl ⟨sm (fun d => G (70 + d)) (i + 1), ?_, rfl⟩
    rw [sm_succ i0, e_X12_count_77]
    simp (disch := omega) only [q_470, q_up_far, q_row_row, q_row_self, q_row_ne, q_up_ne, q_up_eq, q_rowup, ud_eq, ud_ne, q_add_id, q_sub_id, q_mul_id, q_w_eq, q_rem_n, q_div_n, ↓reduceIte, leT, leF, ltT, ltF, eqT, eqF, true_or, or_true, false_or, or_false, true_and, and_true, false_and, and_false, or_self, and_self, Option.bind_some, e0, l, hG]
  · intro y hy
    subst hy
    show q_L 254 77 _ _ _ = _
    rw [e_X12_count_77]
    simp (disch := omega) only [q_470, q_up_far, q_row_row, q_row_self, q_row_ne, q_up_ne, q_up_eq, q_rowup, ud_eq, ud_ne, q_add_id, q_sub_id, q_mul_id, q_w_eq, q_rem_n, q_div_n, ↓reduceIte, leT, leF, ltT, ltF, eqT, eqF, true_or, or_true, false_or, or_false, true_and, and_true, false_and, and_false, or_self, and_self, Option.bind_some, e0, l, hG]
theorem k_askingsIn {sh : Int × (Int → Nat × Int)} {h : Int → Int → Int} {w s : Int} {G : Int → Int} (hs : Sh sh) (hp : Ptr h) (iw : isW w) (hr : RelW h w G) (wr : WFR G) : q_Cc 104 [(20, w), (0, s)] (sh, h) = some ((0, sm (fun a => if G (480 + a) = s then 1 else 0) (G 3)), (sh, h)) := by
  have u1 := wr.na
  have w0 := iw.b
  rw [c_X10_askingsIn, e_X10_askingsIn_0]
  refine lp (fun i (y : Int) => q_L 104 4 [(20, w), (0, s), (0, y), (0, i)] [] (sh, h)) (fun i y => y = sm (fun a => if G (480 + a) = s then 1 else 0) i) (fun r => r = some ((0, sm (fun a => if G (480 + a) = s then 1 else 0) (G 3)), (sh, h))) (G 3) ?_ ?_ 0 0 (by omega) (by omega) rfl
  · intro i y i0 i1 hy
    subst hy
    have bd := sm_bnd (f := fun a => if G (480 + a) = s then 1 else 0) (a := 0) (b := 1) (n := i) i0 (fun j j0 j1 => b01)
    refine Or.inl ⟨sm (fun a => if G (480 + a) = s then 1 else 0) (i + 1), ?_, rfl⟩
    rw [sm_succ i0, e_X10_askingsIn_4]
    by_cases e : G (480 + i) = s <;> simp (disch := omega) only [q_470, q_up_far, q_row_row, q_row_self, q_row_ne, q_up_ne, q_up_eq, q_rowup, ud_eq, ud_ne, q_add_id, q_sub_id, q_mul_id, q_w_eq, q_rem_n, q_div_n, ↓reduceIte, leT, leF, ltT, ltF, eqT, eqF, true_or, or_true, false_or, or_false, true_and, and_true, false_and, and_false, or_self, and_self, Option.bind_some, e, hr.na wr, hr.astate wr, hp.w7 iw, hp.ask iw, hs.asks iw, e_X10_askingsIn_28, Int.add_zero]
  · intro y hy
    subst hy
    show q_L 104 4 _ _ _ = _
    rw [e_X10_askingsIn_4]
    simp (disch := omega) only [q_470, q_up_far, q_row_row, q_row_self, q_row_ne, q_up_ne, q_up_eq, q_rowup, ud_eq, ud_ne, q_add_id, q_sub_id, q_mul_id, q_w_eq, q_rem_n, q_div_n, ↓reduceIte, leT, leF, ltT, ltF, eqT, eqF, true_or, or_true, false_or, or_false, true_and, and_true, false_and, and_false, or_self, and_self, Option.bind_some, hr.na wr]
theorem r_manyIn {sh : Int × (Int → Nat × Int)} {h : Int → Int → Int} {s : Int} {G : Int → Int} (e0 : h 469 0 = 470) (l : (sh.2 470).2 = 1354) (hG : h 470 = G) (wr : WFR G) : q_Cc 253 [(22, 469), (0, s)] (sh, h) = some ((0, sm (fun a => if G (480 + a) = s then 1 else 0) (G 3)), (sh, h)) := by
  have u1 := wr.na
  rw [c_X12_manyIn, e_X12_manyIn_0]
  refine lp (fun i (y : Int) => q_L 253 4 [(22, 469), (0, s), (0, y), (0, i)] [] (sh, h)) (fun i y => y = sm (fun a => if G (480 + a) = s then 1 else 0) i) (fun r => r = some ((0, sm (fun a => if G (480 + a) = s then 1 else 0) (G 3)), (sh, h))) (G 3) ?_ ?_ 0 0 (by omega) (by omega) rfl
  · intro i y i0 i1 hy
    subst hy
    have bd := sm_bnd (f := fun a => if G (480 + a) = s then 1 else 0) (a := 0) (b := 1) (n := i) i0 (fun j j0 j1 => b01)
    refine Or.inl ⟨sm (fun a => if G (480 + a) = s then 1 else 0) (i + 1), ?_, rfl⟩
    rw [sm_succ i0, e_X12_manyIn_4]
    by_cases e : G (480 + i) = s <;> simp (disch := omega) only [q_470, q_up_far, q_row_row, q_row_self, q_row_ne, q_up_ne, q_up_eq, q_rowup, ud_eq, ud_ne, q_add_id, q_sub_id, q_mul_id, q_w_eq, q_rem_n, q_div_n, ↓reduceIte, leT, leF, ltT, ltF, eqT, eqF, true_or, or_true, false_or, or_false, true_and, and_true, false_and, and_false, or_self, and_self, Option.bind_some, e0, l, hG, e, e_X12_manyIn_34, Int.add_zero]
  · intro y hy
    subst hy
    show q_L 253 4 _ _ _ = _
    rw [e_X12_manyIn_4]
    simp (disch := omega) only [q_470, q_up_far, q_row_row, q_row_self, q_row_ne, q_up_ne, q_up_eq, q_rowup, ud_eq, ud_ne, q_add_id, q_sub_id, q_mul_id, q_w_eq, q_rem_n, q_div_n, ↓reduceIte, leT, leF, ltT, ltF, eqT, eqF, true_or, or_true, false_or, or_false, true_and, and_true, false_and, and_false, or_self, and_self, Option.bind_some, e0, l, hG]
theorem k_allBlocks {sh : Int × (Int → Nat × Int)} {h : Int → Int → Int} {w : Int} {G : Int → Int} (hs : Sh sh) (hp : Ptr h) (iw : isW w) (hr : RelW h w G) (wr : WFR G) : q_Cc 105 [(20, w)] (sh, h) = some ((0, sm (fun c => G (108 + c)) (G 2)), (sh, h)) := by
  have u1 := wr.nc
  have w0 := iw.b
  rw [c_X10_allBlocks, e_X10_allBlocks_0]
  refine lp (fun i (y : Int) => q_L 105 4 [(20, w), (0, y), (0, i)] [] (sh, h)) (fun i y => y = sm (fun c => G (108 + c)) i) (fun r => r = some ((0, sm (fun c => G (108 + c)) (G 2)), (sh, h))) (G 2) ?_ ?_ 0 0 (by omega) (by omega) rfl
  · intro i y i0 i1 hy
    subst hy
    have bd := sm_bnd (f := fun c => G (108 + c)) (a := 0) (b := 12) (n := i) i0 (fun j j0 j1 => wr.blocks (d := j) j0 (by omega))
    have gi := wr.blocks (d := i) i0 (by omega)
    refine Or.inl ⟨sm (fun c => G (108 + c)) (i + 1), ?_, rfl⟩
    rw [sm_succ i0, e_X10_allBlocks_4]
    simp (disch := omega) only [q_470, q_up_far, q_row_row, q_row_self, q_row_ne, q_up_ne, q_up_eq, q_rowup, ud_eq, ud_ne, q_add_id, q_sub_id, q_mul_id, q_w_eq, q_rem_n, q_div_n, ↓reduceIte, leT, leF, ltT, ltF, eqT, eqF, true_or, or_true, false_or, or_false, true_and, and_true, false_and, and_false, or_self, and_self, Option.bind_some, hr.nc wr, hr.blocks wr, hp.w6 iw, hp.craft iw, hp.blocks iw, hs.crafts iw]
  · intro y hy
    subst hy
    show q_L 105 4 _ _ _ = _
    rw [e_X10_allBlocks_4]
    simp (disch := omega) only [q_470, q_up_far, q_row_row, q_row_self, q_row_ne, q_up_ne, q_up_eq, q_rowup, ud_eq, ud_ne, q_add_id, q_sub_id, q_mul_id, q_w_eq, q_rem_n, q_div_n, ↓reduceIte, leT, leF, ltT, ltF, eqT, eqF, true_or, or_true, false_or, or_false, true_and, and_true, false_and, and_false, or_self, and_self, Option.bind_some, hr.nc wr]
theorem r_allL {sh : Int × (Int → Nat × Int)} {h : Int → Int → Int} {z : Int} {G : Int → Int} (e0 : h 469 0 = 470) (l : (sh.2 470).2 = 1354) (hG : h 470 = G) (wr : WFR G) : q_L 254 143 [(22, 469), (0, z), (0, 0), (0, 0)] [] (sh, h) = some ((0, sm (fun c => G (108 + c)) (G 2)), (sh, h)) := by
  have u1 := wr.nc
  refine lp (fun i (y : Int) => q_L 254 143 [(22, 469), (0, z), (0, y), (0, i)] [] (sh, h)) (fun i y => y = sm (fun c => G (108 + c)) i) (fun r => r = some ((0, sm (fun c => G (108 + c)) (G 2)), (sh, h))) (G 2) ?_ ?_ 0 0 (by omega) (by omega) rfl
  · intro i y i0 i1 hy
    subst hy
    have bd := sm_bnd (f := fun c => G (108 + c)) (a := 0) (b := 12) (n := i) i0 (fun j j0 j1 => wr.blocks (d := j) j0 (by omega))
    have gi := wr.blocks (d := i) i0 (by omega)
    refine Or.inl ⟨sm (fun c => G (108 + c)) (i + 1), ?_, rfl⟩
    rw [sm_succ i0, e_X12_count_143]
    simp (disch := omega) only [q_470, q_up_far, q_row_row, q_row_self, q_row_ne, q_up_ne, q_up_eq, q_rowup, ud_eq, ud_ne, q_add_id, q_sub_id, q_mul_id, q_w_eq, q_rem_n, q_div_n, ↓reduceIte, leT, leF, ltT, ltF, eqT, eqF, true_or, or_true, false_or, or_false, true_and, and_true, false_and, and_false, or_self, and_self, Option.bind_some, e0, l, hG]
  · intro y hy
    subst hy
    show q_L 254 143 _ _ _ = _
    rw [e_X12_count_143]
    simp (disch := omega) only [q_470, q_up_far, q_row_row, q_row_self, q_row_ne, q_up_ne, q_up_eq, q_rowup, ud_eq, ud_ne, q_add_id, q_sub_id, q_mul_id, q_w_eq, q_rem_n, q_div_n, ↓reduceIte, leT, leF, ltT, ltF, eqT, eqF, true_or, or_true, false_or, or_false, true_and, and_true, false_and, and_false, or_self, and_self, Option.bind_some, e0, l, hG]
theorem k_left {sh : Int × (Int → Nat × Int)} {h : Int → Int → Int} {b : Int} {G : Int → Int} (b0 : 0 ≤ b) (p0 : h b 0 = b + 1) (l0 : (sh.2 (b + 1)).2 = 64) (ho : ∀ i, 0 ≤ i → i < 64 → h (b + 1) i = G (1226 + i)) (hx : ∀ i, 0 ≤ i → i < 64 → lb (h b 1) i = G (1290 + i)) (hg : ∀ i, 0 ≤ i → i < 64 → G (1290 + i) = 0 ∨ G (1290 + i) = 1) : q_Cc 59 [(16, b)] (sh, h) = some ((0, sm (fC G) 64), (sh, h)) := by
  rw [c_X6_left, e_X6_left_0]
  refine lp (fun i (y : Int) => q_L 59 4 [(16, b), (0, y), (0, i)] [] (sh, h)) (fun i y => y = sm (fC G) i) (fun r => r = some ((0, sm (fC G) 64), (sh, h))) 64 ?_ ?_ 0 0 (by omega) (by omega) rfl
  · intro i y i0 i1 hy
    subst hy
    have bd := sm_bnd (f := fC G) (a := 0) (b := 1) (n := i) i0 (fun j j0 j1 => b01)
    have open1 := k_isOpen (sh := sh) (h := h) (hx i i0 i1) (hg i i0 i1)
    refine Or.inl ⟨sm (fC G) (i + 1), ?_, rfl⟩
    rw [sm_succ i0, e_X6_left_4]
    unfold fC at bd ⊢
    rcases hg i i0 i1 with g0 | g0 <;> by_cases c : 0 < G (1226 + i) <;> simp (disch := omega) only [q_470, q_up_far, q_row_row, q_row_self, q_row_ne, q_up_ne, q_up_eq, q_rowup, ud_eq, ud_ne, q_add_id, q_sub_id, q_mul_id, q_w_eq, q_rem_n, q_div_n, ↓reduceIte, leT, leF, ltT, ltF, eqT, eqF, true_or, or_true, false_or, or_false, true_and, and_true, false_and, and_false, or_self, and_self, Option.bind_some, open1, p0, l0, ho, g0, e_X6_left_18, e_X6_left_33, Int.reduceSub, Int.add_zero]
  · intro y hy
    subst hy
    show q_L 59 4 _ _ _ = _
    rw [e_X6_left_4]
    simp (disch := omega) only [q_470, q_up_far, q_row_row, q_row_self, q_row_ne, q_up_ne, q_up_eq, q_rowup, ud_eq, ud_ne, q_add_id, q_sub_id, q_mul_id, q_w_eq, q_rem_n, q_div_n, ↓reduceIte, leT, leF, ltT, ltF, eqT, eqF, true_or, or_true, false_or, or_false, true_and, and_true, false_and, and_false, or_self, and_self, Option.bind_some, ]
theorem r_leftL {sh : Int × (Int → Nat × Int)} {h : Int → Int → Int} {z : Int} {G : Int → Int} (e0 : h 469 0 = 470) (l : (sh.2 470).2 = 1354) (hG : h 470 = G) : q_L 254 175 [(22, 469), (0, z), (0, 0), (0, 0)] [] (sh, h) = some ((0, sm (fC G) 64), (sh, h)) := by
  refine lp (fun i (y : Int) => q_L 254 175 [(22, 469), (0, z), (0, y), (0, i)] [] (sh, h)) (fun i y => y = sm (fC G) i) (fun r => r = some ((0, sm (fC G) 64), (sh, h))) 64 ?_ ?_ 0 0 (by omega) (by omega) rfl
  · intro i y i0 i1 hy
    subst hy
    have bd := sm_bnd (f := fC G) (a := 0) (b := 1) (n := i) i0 (fun j j0 j1 => b01)
    refine Or.inl ⟨sm (fC G) (i + 1), ?_, rfl⟩
    rw [sm_succ i0, e_X12_count_175]
    unfold fC at bd ⊢
    by_cases g0 : G (1290 + i) = 0 <;> by_cases c : 0 < G (1226 + i) <;> simp (disch := omega) only [q_470, q_up_far, q_row_row, q_row_self, q_row_ne, q_up_ne, q_up_eq, q_rowup, ud_eq, ud_ne, q_add_id, q_sub_id, q_mul_id, q_w_eq, q_rem_n, q_div_n, ↓reduceIte, leT, leF, ltT, ltF, eqT, eqF, true_or, or_true, false_or, or_false, true_and, and_true, false_and, and_false, or_self, and_self, Option.bind_some, e0, l, hG, g0, e_X12_count_212, e_X12_count_213, Int.add_zero]
  · intro y hy
    subst hy
    show q_L 254 175 _ _ _ = _
    rw [e_X12_count_175]
    simp (disch := omega) only [q_470, q_up_far, q_row_row, q_row_self, q_row_ne, q_up_ne, q_up_eq, q_rowup, ud_eq, ud_ne, q_add_id, q_sub_id, q_mul_id, q_w_eq, q_rem_n, q_div_n, ↓reduceIte, leT, leF, ltT, ltF, eqT, eqF, true_or, or_true, false_or, or_false, true_and, and_true, false_and, and_false, or_self, and_self, Option.bind_some, ]
theorem st_count (k : Int) : Step 151 254 [(0, k)] := by
  intro sh h hs ho hi
  obtain ⟨w, G, hw1, iw, ew, hG, hp, hr, wf, hh⟩ := hi.opn
  have wr := wf.1
  have u0 := wr.hour; have u1 := wr.nd; have u2 := wr.nc; have u3 := wr.na
  by_cases v1 : 0 ≤ k ∧ k ≤ 12
  · have : k = 0 ∨ k = 1 ∨ k = 2 ∨ k = 3 ∨ k = 4 ∨ k = 5 ∨ k = 6 ∨ k = 7 ∨ k = 8 ∨ k = 9 ∨ k = 10 ∨ k = 11 ∨ k = 12 := by omega
    rcases this with rfl | rfl | rfl | rfl | rfl | rfl | rfl | rfl | rfl | rfl | rfl | rfl | rfl
    · refine ⟨G 1, h, h, ?_, ?_, hi, fun k hk => ⟨rfl, rfl⟩⟩
      · simp (disch := omega) only [q_470, q_up_far, q_row_row, q_row_self, q_row_ne, q_up_ne, q_up_eq, q_rowup, ud_eq, ud_ne, q_add_id, q_sub_id, q_mul_id, q_w_eq, q_rem_n, q_div_n, ↓reduceIte, leT, leF, ltT, ltF, eqT, eqF, true_or, or_true, false_or, or_false, true_and, and_true, false_and, and_false, or_self, and_self, Option.bind_some, ew, hp.w4 iw, hp.w5 iw, hp.w6 iw, hp.w7 iw, hp.w8 iw, hp.dish iw, hp.craft iw, hp.ask iw, hp.t6, hs.rains iw, hs.dishes iw, hs.crafts iw, hs.asks iw, hs.k468, hr.hour wr, hr.nd wr, hr.nc wr, hr.na wr, c_X11_count, e_X11_count_0, e_X11_count_83, e_X11_count_108, e_X11_count_117, e_X11_count_126, e_X11_count_135, e_X11_count_144, e_X11_count_168, e_X11_count_179, e_X11_count_186]
      · simp (disch := omega) only [q_470, q_up_far, q_row_row, q_row_self, q_row_ne, q_up_ne, q_up_eq, q_rowup, ud_eq, ud_ne, q_add_id, q_sub_id, q_mul_id, q_w_eq, q_rem_n, q_div_n, ↓reduceIte, leT, leF, ltT, ltF, eqT, eqF, true_or, or_true, false_or, or_false, true_and, and_true, false_and, and_false, or_self, and_self, Option.bind_some, hp.m0, hp.m6, hs.k470, hs.k474, hG, c_X12_count, e_X12_count_0]
    · refine ⟨sm (fun d => G (70 + d)) (G 1), h, h, ?_, ?_, hi, fun k hk => ⟨rfl, rfl⟩⟩
      · simp (disch := omega) only [q_470, q_up_far, q_row_row, q_row_self, q_row_ne, q_up_ne, q_up_eq, q_rowup, ud_eq, ud_ne, q_add_id, q_sub_id, q_mul_id, q_w_eq, q_rem_n, q_div_n, ↓reduceIte, leT, leF, ltT, ltF, eqT, eqF, true_or, or_true, false_or, or_false, true_and, and_true, false_and, and_false, or_self, and_self, Option.bind_some, ew, hp.w4 iw, hp.w5 iw, hp.w6 iw, hp.w7 iw, hp.w8 iw, hp.dish iw, hp.craft iw, hp.ask iw, hp.t6, hs.rains iw, hs.dishes iw, hs.crafts iw, hs.asks iw, hs.k468, hr.hour wr, hr.nd wr, hr.nc wr, hr.na wr, k_broken hs hp iw hr wr, c_X11_count, e_X11_count_0, e_X11_count_83, e_X11_count_108, e_X11_count_117, e_X11_count_126, e_X11_count_135, e_X11_count_144, e_X11_count_168, e_X11_count_179, e_X11_count_186]
      · simp (disch := omega) only [q_470, q_up_far, q_row_row, q_row_self, q_row_ne, q_up_ne, q_up_eq, q_rowup, ud_eq, ud_ne, q_add_id, q_sub_id, q_mul_id, q_w_eq, q_rem_n, q_div_n, ↓reduceIte, leT, leF, ltT, ltF, eqT, eqF, true_or, or_true, false_or, or_false, true_and, and_true, false_and, and_false, or_self, and_self, Option.bind_some, hp.m0, hp.m6, hs.k470, hs.k474, hG, r_brokenL hp.m0 hs.k470 hG wr, c_X12_count, e_X12_count_0]
    · refine ⟨G 2, h, h, ?_, ?_, hi, fun k hk => ⟨rfl, rfl⟩⟩
      · simp (disch := omega) only [q_470, q_up_far, q_row_row, q_row_self, q_row_ne, q_up_ne, q_up_eq, q_rowup, ud_eq, ud_ne, q_add_id, q_sub_id, q_mul_id, q_w_eq, q_rem_n, q_div_n, ↓reduceIte, leT, leF, ltT, ltF, eqT, eqF, true_or, or_true, false_or, or_false, true_and, and_true, false_and, and_false, or_self, and_self, Option.bind_some, ew, hp.w4 iw, hp.w5 iw, hp.w6 iw, hp.w7 iw, hp.w8 iw, hp.dish iw, hp.craft iw, hp.ask iw, hp.t6, hs.rains iw, hs.dishes iw, hs.crafts iw, hs.asks iw, hs.k468, hr.hour wr, hr.nd wr, hr.nc wr, hr.na wr, c_X11_count, e_X11_count_0, e_X11_count_83, e_X11_count_108, e_X11_count_117, e_X11_count_126, e_X11_count_135, e_X11_count_144, e_X11_count_168, e_X11_count_179, e_X11_count_186]
      · simp (disch := omega) only [q_470, q_up_far, q_row_row, q_row_self, q_row_ne, q_up_ne, q_up_eq, q_rowup, ud_eq, ud_ne, q_add_id, q_sub_id, q_mul_id, q_w_eq, q_rem_n, q_div_n, ↓reduceIte, leT, leF, ltT, ltF, eqT, eqF, true_or, or_true, false_or, or_false, true_and, and_true, false_and, and_false, or_self, and_self, Option.bind_some, hp.m0, hp.m6, hs.k470, hs.k474, hG, c_X12_count, e_X12_count_0]
    · refine ⟨G 3, h, h, ?_, ?_, hi, fun k hk => ⟨rfl, rfl⟩⟩
      · simp (disch := omega) only [q_470, q_up_far, q_row_row, q_row_self, q_row_ne, q_up_ne, q_up_eq, q_rowup, ud_eq, ud_ne, q_add_id, q_sub_id, q_mul_id, q_w_eq, q_rem_n, q_div_n, ↓reduceIte, leT, leF, ltT, ltF, eqT, eqF, true_or, or_true, false_or, or_false, true_and, and_true, false_and, and_false, or_self, and_self, Option.bind_some, ew, hp.w4 iw, hp.w5 iw, hp.w6 iw, hp.w7 iw, hp.w8 iw, hp.dish iw, hp.craft iw, hp.ask iw, hp.t6, hs.rains iw, hs.dishes iw, hs.crafts iw, hs.asks iw, hs.k468, hr.hour wr, hr.nd wr, hr.nc wr, hr.na wr, c_X11_count, e_X11_count_0, e_X11_count_83, e_X11_count_108, e_X11_count_117, e_X11_count_126, e_X11_count_135, e_X11_count_144, e_X11_count_168, e_X11_count_179, e_X11_count_186]
      · simp (disch := omega) only [q_470, q_up_far, q_row_row, q_row_self, q_row_ne, q_up_ne, q_up_eq, q_rowup, ud_eq, ud_ne, q_add_id, q_sub_id, q_mul_id, q_w_eq, q_rem_n, q_div_n, ↓reduceIte, leT, leF, ltT, ltF, eqT, eqF, true_or, or_true, false_or, or_false, true_and, and_true, false_and, and_false, or_self, and_self, Option.bind_some, hp.m0, hp.m6, hs.k470, hs.k474, hG, c_X12_count, e_X12_count_0]
    · refine ⟨sm (fun a => if G (480 + a) = 0 then 1 else 0) (G 3), h, h, ?_, ?_, hi, fun k hk => ⟨rfl, rfl⟩⟩
      · simp (disch := omega) only [q_470, q_up_far, q_row_row, q_row_self, q_row_ne, q_up_ne, q_up_eq, q_rowup, ud_eq, ud_ne, q_add_id, q_sub_id, q_mul_id, q_w_eq, q_rem_n, q_div_n, ↓reduceIte, leT, leF, ltT, ltF, eqT, eqF, true_or, or_true, false_or, or_false, true_and, and_true, false_and, and_false, or_self, and_self, Option.bind_some, ew, hp.w4 iw, hp.w5 iw, hp.w6 iw, hp.w7 iw, hp.w8 iw, hp.dish iw, hp.craft iw, hp.ask iw, hp.t6, hs.rains iw, hs.dishes iw, hs.crafts iw, hs.asks iw, hs.k468, hr.hour wr, hr.nd wr, hr.nc wr, hr.na wr, k_askingsIn hs hp iw hr wr, c_X11_count, e_X11_count_0, e_X11_count_83, e_X11_count_108, e_X11_count_117, e_X11_count_126, e_X11_count_135, e_X11_count_144, e_X11_count_168, e_X11_count_179, e_X11_count_186]
      · simp (disch := omega) only [q_470, q_up_far, q_row_row, q_row_self, q_row_ne, q_up_ne, q_up_eq, q_rowup, ud_eq, ud_ne, q_add_id, q_sub_id, q_mul_id, q_w_eq, q_rem_n, q_div_n, ↓reduceIte, leT, leF, ltT, ltF, eqT, eqF, true_or, or_true, false_or, or_false, true_and, and_true, false_and, and_false, or_self, and_self, Option.bind_some, hp.m0, hp.m6, hs.k470, hs.k474, hG, r_manyIn hp.m0 hs.k470 hG wr, c_X12_count, e_X12_count_0, e_X12_count_121, e_X12_count_128, Int.reduceSub]
    · refine ⟨sm (fun a => if G (480 + a) = 1 then 1 else 0) (G 3), h, h, ?_, ?_, hi, fun k hk => ⟨rfl, rfl⟩⟩
      · simp (disch := omega) only [q_470, q_up_far, q_row_row, q_row_self, q_row_ne, q_up_ne, q_up_eq, q_rowup, ud_eq, ud_ne, q_add_id, q_sub_id, q_mul_id, q_w_eq, q_rem_n, q_div_n, ↓reduceIte, leT, leF, ltT, ltF, eqT, eqF, true_or, or_true, false_or, or_false, true_and, and_true, false_and, and_false, or_self, and_self, Option.bind_some, ew, hp.w4 iw, hp.w5 iw, hp.w6 iw, hp.w7 iw, hp.w8 iw, hp.dish iw, hp.craft iw, hp.ask iw, hp.t6, hs.rains iw, hs.dishes iw, hs.crafts iw, hs.asks iw, hs.k468, hr.hour wr, hr.nd wr, hr.nc wr, hr.na wr, k_askingsIn hs hp iw hr wr, c_X11_count, e_X11_count_0, e_X11_count_83, e_X11_count_108, e_X11_count_117, e_X11_count_126, e_X11_count_135, e_X11_count_144, e_X11_count_168, e_X11_count_179, e_X11_count_186]
      · simp (disch := omega) only [q_470, q_up_far, q_row_row, q_row_self, q_row_ne, q_up_ne, q_up_eq, q_rowup, ud_eq, ud_ne, q_add_id, q_sub_id, q_mul_id, q_w_eq, q_rem_n, q_div_n, ↓reduceIte, leT, leF, ltT, ltF, eqT, eqF, true_or, or_true, false_or, or_false, true_and, and_true, false_and, and_false, or_self, and_self, Option.bind_some, hp.m0, hp.m6, hs.k470, hs.k474, hG, r_manyIn hp.m0 hs.k470 hG wr, c_X12_count, e_X12_count_0, e_X12_count_121, e_X12_count_128, Int.reduceSub]
    · refine ⟨sm (fun a => if G (480 + a) = 2 then 1 else 0) (G 3), h, h, ?_, ?_, hi, fun k hk => ⟨rfl, rfl⟩⟩
      · simp (disch := omega) only [q_470, q_up_far, q_row_row, q_row_self, q_row_ne, q_up_ne, q_up_eq, q_rowup, ud_eq, ud_ne, q_add_id, q_sub_id, q_mul_id, q_w_eq, q_rem_n, q_div_n, ↓reduceIte, leT, leF, ltT, ltF, eqT, eqF, true_or, or_true, false_or, or_false, true_and, and_true, false_and, and_false, or_self, and_self, Option.bind_some, ew, hp.w4 iw, hp.w5 iw, hp.w6 iw, hp.w7 iw, hp.w8 iw, hp.dish iw, hp.craft iw, hp.ask iw, hp.t6, hs.rains iw, hs.dishes iw, hs.crafts iw, hs.asks iw, hs.k468, hr.hour wr, hr.nd wr, hr.nc wr, hr.na wr, k_askingsIn hs hp iw hr wr, c_X11_count, e_X11_count_0, e_X11_count_83, e_X11_count_108, e_X11_count_117, e_X11_count_126, e_X11_count_135, e_X11_count_144, e_X11_count_168, e_X11_count_179, e_X11_count_186]
      · simp (disch := omega) only [q_470, q_up_far, q_row_row, q_row_self, q_row_ne, q_up_ne, q_up_eq, q_rowup, ud_eq, ud_ne, q_add_id, q_sub_id, q_mul_id, q_w_eq, q_rem_n, q_div_n, ↓reduceIte, leT, leF, ltT, ltF, eqT, eqF, true_or, or_true, false_or, or_false, true_and, and_true, false_and, and_false, or_self, and_self, Option.bind_some, hp.m0, hp.m6, hs.k470, hs.k474, hG, r_manyIn hp.m0 hs.k470 hG wr, c_X12_count, e_X12_count_0, e_X12_count_121, e_X12_count_128, Int.reduceSub]
    · refine ⟨sm (fun a => if G (480 + a) = 3 then 1 else 0) (G 3), h, h, ?_, ?_, hi, fun k hk => ⟨rfl, rfl⟩⟩
      · simp (disch := omega) only [q_470, q_up_far, q_row_row, q_row_self, q_row_ne, q_up_ne, q_up_eq, q_rowup, ud_eq, ud_ne, q_add_id, q_sub_id, q_mul_id, q_w_eq, q_rem_n, q_div_n, ↓reduceIte, leT, leF, ltT, ltF, eqT, eqF, true_or, or_true, false_or, or_false, true_and, and_true, false_and, and_false, or_self, and_self, Option.bind_some, ew, hp.w4 iw, hp.w5 iw, hp.w6 iw, hp.w7 iw, hp.w8 iw, hp.dish iw, hp.craft iw, hp.ask iw, hp.t6, hs.rains iw, hs.dishes iw, hs.crafts iw, hs.asks iw, hs.k468, hr.hour wr, hr.nd wr, hr.nc wr, hr.na wr, k_askingsIn hs hp iw hr wr, c_X11_count, e_X11_count_0, e_X11_count_83, e_X11_count_108, e_X11_count_117, e_X11_count_126, e_X11_count_135, e_X11_count_144, e_X11_count_168, e_X11_count_179, e_X11_count_186]
      · simp (disch := omega) only [q_470, q_up_far, q_row_row, q_row_self, q_row_ne, q_up_ne, q_up_eq, q_rowup, ud_eq, ud_ne, q_add_id, q_sub_id, q_mul_id, q_w_eq, q_rem_n, q_div_n, ↓reduceIte, leT, leF, ltT, ltF, eqT, eqF, true_or, or_true, false_or, or_false, true_and, and_true, false_and, and_false, or_self, and_self, Option.bind_some, hp.m0, hp.m6, hs.k470, hs.k474, hG, r_manyIn hp.m0 hs.k470 hG wr, c_X12_count, e_X12_count_0, e_X12_count_121, e_X12_count_128, Int.reduceSub]
    · refine ⟨sm (fun a => if G (480 + a) = 4 then 1 else 0) (G 3), h, h, ?_, ?_, hi, fun k hk => ⟨rfl, rfl⟩⟩
      · simp (disch := omega) only [q_470, q_up_far, q_row_row, q_row_self, q_row_ne, q_up_ne, q_up_eq, q_rowup, ud_eq, ud_ne, q_add_id, q_sub_id, q_mul_id, q_w_eq, q_rem_n, q_div_n, ↓reduceIte, leT, leF, ltT, ltF, eqT, eqF, true_or, or_true, false_or, or_false, true_and, and_true, false_and, and_false, or_self, and_self, Option.bind_some, ew, hp.w4 iw, hp.w5 iw, hp.w6 iw, hp.w7 iw, hp.w8 iw, hp.dish iw, hp.craft iw, hp.ask iw, hp.t6, hs.rains iw, hs.dishes iw, hs.crafts iw, hs.asks iw, hs.k468, hr.hour wr, hr.nd wr, hr.nc wr, hr.na wr, k_askingsIn hs hp iw hr wr, c_X11_count, e_X11_count_0, e_X11_count_83, e_X11_count_108, e_X11_count_117, e_X11_count_126, e_X11_count_135, e_X11_count_144, e_X11_count_168, e_X11_count_179, e_X11_count_186]
      · simp (disch := omega) only [q_470, q_up_far, q_row_row, q_row_self, q_row_ne, q_up_ne, q_up_eq, q_rowup, ud_eq, ud_ne, q_add_id, q_sub_id, q_mul_id, q_w_eq, q_rem_n, q_div_n, ↓reduceIte, leT, leF, ltT, ltF, eqT, eqF, true_or, or_true, false_or, or_false, true_and, and_true, false_and, and_false, or_self, and_self, Option.bind_some, hp.m0, hp.m6, hs.k470, hs.k474, hG, r_manyIn hp.m0 hs.k470 hG wr, c_X12_count, e_X12_count_0, e_X12_count_121, e_X12_count_128, Int.reduceSub]
    · refine ⟨G 0, h, h, ?_, ?_, hi, fun k hk => ⟨rfl, rfl⟩⟩
      · simp (disch := omega) only [q_470, q_up_far, q_row_row, q_row_self, q_row_ne, q_up_ne, q_up_eq, q_rowup, ud_eq, ud_ne, q_add_id, q_sub_id, q_mul_id, q_w_eq, q_rem_n, q_div_n, ↓reduceIte, leT, leF, ltT, ltF, eqT, eqF, true_or, or_true, false_or, or_false, true_and, and_true, false_and, and_false, or_self, and_self, Option.bind_some, ew, hp.w4 iw, hp.w5 iw, hp.w6 iw, hp.w7 iw, hp.w8 iw, hp.dish iw, hp.craft iw, hp.ask iw, hp.t6, hs.rains iw, hs.dishes iw, hs.crafts iw, hs.asks iw, hs.k468, hr.hour wr, hr.nd wr, hr.nc wr, hr.na wr, c_X11_count, e_X11_count_0, e_X11_count_83, e_X11_count_108, e_X11_count_117, e_X11_count_126, e_X11_count_135, e_X11_count_144, e_X11_count_168, e_X11_count_179, e_X11_count_186]
      · simp (disch := omega) only [q_470, q_up_far, q_row_row, q_row_self, q_row_ne, q_up_ne, q_up_eq, q_rowup, ud_eq, ud_ne, q_add_id, q_sub_id, q_mul_id, q_w_eq, q_rem_n, q_div_n, ↓reduceIte, leT, leF, ltT, ltF, eqT, eqF, true_or, or_true, false_or, or_false, true_and, and_true, false_and, and_false, or_self, and_self, Option.bind_some, hp.m0, hp.m6, hs.k470, hs.k474, hG, c_X12_count, e_X12_count_0]
    · have t1 := hi.2.2.2.2.2.1.1
      refine ⟨h 469 5, h, h, ?_, ?_, hi, fun k hk => ⟨rfl, rfl⟩⟩
      · simp (disch := omega) only [q_470, q_up_far, q_row_row, q_row_self, q_row_ne, q_up_ne, q_up_eq, q_rowup, ud_eq, ud_ne, q_add_id, q_sub_id, q_mul_id, q_w_eq, q_rem_n, q_div_n, ↓reduceIte, leT, leF, ltT, ltF, eqT, eqF, true_or, or_true, false_or, or_false, true_and, and_true, false_and, and_false, or_self, and_self, Option.bind_some, ew, hp.w4 iw, hp.w5 iw, hp.w6 iw, hp.w7 iw, hp.w8 iw, hp.dish iw, hp.craft iw, hp.ask iw, hp.t6, hs.rains iw, hs.dishes iw, hs.crafts iw, hs.asks iw, hs.k468, hr.hour wr, hr.nd wr, hr.nc wr, hr.na wr, hp.t4, t1, c_X11_count, e_X11_count_0, e_X11_count_83, e_X11_count_108, e_X11_count_117, e_X11_count_126, e_X11_count_135, e_X11_count_144, e_X11_count_168, e_X11_count_179, e_X11_count_186]
      · simp (disch := omega) only [q_470, q_up_far, q_row_row, q_row_self, q_row_ne, q_up_ne, q_up_eq, q_rowup, ud_eq, ud_ne, q_add_id, q_sub_id, q_mul_id, q_w_eq, q_rem_n, q_div_n, ↓reduceIte, leT, leF, ltT, ltF, eqT, eqF, true_or, or_true, false_or, or_false, true_and, and_true, false_and, and_false, or_self, and_self, Option.bind_some, hp.m0, hp.m6, hs.k470, hs.k474, hG, c_X12_count, e_X12_count_0]
    · refine ⟨sm (fun c => G (108 + c)) (G 2), h, h, ?_, ?_, hi, fun k hk => ⟨rfl, rfl⟩⟩
      · simp (disch := omega) only [q_470, q_up_far, q_row_row, q_row_self, q_row_ne, q_up_ne, q_up_eq, q_rowup, ud_eq, ud_ne, q_add_id, q_sub_id, q_mul_id, q_w_eq, q_rem_n, q_div_n, ↓reduceIte, leT, leF, ltT, ltF, eqT, eqF, true_or, or_true, false_or, or_false, true_and, and_true, false_and, and_false, or_self, and_self, Option.bind_some, ew, hp.w4 iw, hp.w5 iw, hp.w6 iw, hp.w7 iw, hp.w8 iw, hp.dish iw, hp.craft iw, hp.ask iw, hp.t6, hs.rains iw, hs.dishes iw, hs.crafts iw, hs.asks iw, hs.k468, hr.hour wr, hr.nd wr, hr.nc wr, hr.na wr, k_allBlocks hs hp iw hr wr, c_X11_count, e_X11_count_0, e_X11_count_83, e_X11_count_108, e_X11_count_117, e_X11_count_126, e_X11_count_135, e_X11_count_144, e_X11_count_168, e_X11_count_179, e_X11_count_186]
      · simp (disch := omega) only [q_470, q_up_far, q_row_row, q_row_self, q_row_ne, q_up_ne, q_up_eq, q_rowup, ud_eq, ud_ne, q_add_id, q_sub_id, q_mul_id, q_w_eq, q_rem_n, q_div_n, ↓reduceIte, leT, leF, ltT, ltF, eqT, eqF, true_or, or_true, false_or, or_false, true_and, and_true, false_and, and_false, or_self, and_self, Option.bind_some, hp.m0, hp.m6, hs.k470, hs.k474, hG, r_allL hp.m0 hs.k470 hG wr, c_X12_count, e_X12_count_0]
    · have hg : ∀ i, 0 ≤ i → i < 64 → G (1290 + i) = 0 ∨ G (1290 + i) = 1 := fun i a b => by have := wr.seen (d := i) a b; omega
      have kb := k_left (sh := sh) (h := h) (b := w + 5) (G := G) (by omega) (by rw [hp.odds iw]; omega) (by rw [show w + 5 + 1 = w + 6 by omega]; exact hs.odds iw) (fun i a b => by rw [show w + 5 + 1 = w + 6 by omega]; exact hr.odds wr i a b) hr.2.2 hg
      refine ⟨sm (fC G) 64, h, h, ?_, ?_, hi, fun k hk => ⟨rfl, rfl⟩⟩
      · simp (disch := omega) only [q_470, q_up_far, q_row_row, q_row_self, q_row_ne, q_up_ne, q_up_eq, q_rowup, ud_eq, ud_ne, q_add_id, q_sub_id, q_mul_id, q_w_eq, q_rem_n, q_div_n, ↓reduceIte, leT, leF, ltT, ltF, eqT, eqF, true_or, or_true, false_or, or_false, true_and, and_true, false_and, and_false, or_self, and_self, Option.bind_some, ew, hp.w4 iw, hp.w5 iw, hp.w6 iw, hp.w7 iw, hp.w8 iw, hp.dish iw, hp.craft iw, hp.ask iw, hp.t6, hs.rains iw, hs.dishes iw, hs.crafts iw, hs.asks iw, hs.k468, hr.hour wr, hr.nd wr, hr.nc wr, hr.na wr, kb, c_X11_count, e_X11_count_0, e_X11_count_83, e_X11_count_108, e_X11_count_117, e_X11_count_126, e_X11_count_135, e_X11_count_144, e_X11_count_168, e_X11_count_179, e_X11_count_186]
      · simp (disch := omega) only [q_470, q_up_far, q_row_row, q_row_self, q_row_ne, q_up_ne, q_up_eq, q_rowup, ud_eq, ud_ne, q_add_id, q_sub_id, q_mul_id, q_w_eq, q_rem_n, q_div_n, ↓reduceIte, leT, leF, ltT, ltF, eqT, eqF, true_or, or_true, false_or, or_false, true_and, and_true, false_and, and_false, or_self, and_self, Option.bind_some, hp.m0, hp.m6, hs.k470, hs.k474, hG, r_leftL hp.m0 hs.k470 hG, c_X12_count, e_X12_count_0]
  · have v2 : k < 0 ∨ 12 < k := by omega
    refine ⟨-1000001, (q_up h 468 0 (q_add (h 468 0) 1)), q_up (q_up h 468 0 (q_add (h 468 0) 1)) 474 0 (q_add (h 474 0) 1), ?_, ?_, hi.find 0 (by decide) (by decide), fun k hk => ⟨by rw [q_up_far (by omega), q_up_far (by omega)], by rw [q_up_far (by omega)]⟩⟩
    · simp (disch := omega) only [q_470, q_up_far, q_row_row, q_row_self, q_row_ne, q_up_ne, q_up_eq, q_rowup, ud_eq, ud_ne, q_add_id, q_sub_id, q_mul_id, q_w_eq, q_rem_n, q_div_n, ↓reduceIte, leT, leF, ltT, ltF, eqT, eqF, true_or, or_true, false_or, or_false, true_and, and_true, false_and, and_false, or_self, and_self, Option.bind_some, ew, hp.w4 iw, hp.w5 iw, hp.w6 iw, hp.w7 iw, hp.w8 iw, hp.dish iw, hp.craft iw, hp.ask iw, hp.t6, hs.rains iw, hs.dishes iw, hs.crafts iw, hs.asks iw, hs.k468, hr.hour wr, hr.nd wr, hr.nc wr, hr.na wr, k_X11_outside, k_f0 hp.t6 hs.k468, c_X11_count, e_X11_count_0, e_X11_count_83, e_X11_count_108, e_X11_count_117, e_X11_count_126, e_X11_count_135, e_X11_count_144, e_X11_count_168, e_X11_count_179, e_X11_count_186]
    · simp (disch := omega) only [q_470, q_up_far, q_row_row, q_row_self, q_row_ne, q_up_ne, q_up_eq, q_rowup, ud_eq, ud_ne, q_add_id, q_sub_id, q_mul_id, q_w_eq, q_rem_n, q_div_n, ↓reduceIte, leT, leF, ltT, ltF, eqT, eqF, true_or, or_true, false_or, or_false, true_and, and_true, false_and, and_false, or_self, and_self, Option.bind_some, hp.m0, hp.m6, hs.k470, hs.k474, hG, k_X12_in, k_g0 (sh := sh) (h := (q_up h 468 0 (q_add (h 468 0) 1))) (by rw [q_up_far (by decide)]; exact hp.m6) hs.k474, c_X12_count, e_X12_count_0, e_X12_count_229]
