/-! counts -/
theorem b01 {p : Prop} [Decidable p] : 0 ≤ (if p then (1 : Int) else 0) ∧ (if p then (1 : Int) else 0) ≤ 1 := by split <;> omega
theorem k_held {sh : Int × (Int → Nat × Int)} {h : Int → Int → Int} {b n : Int} (b0 : 0 ≤ b) (p7 : h b 7 = b + 2) (l7 : (sh.2 (b + 2)).2 = 12) (en : h b 1 = n) (n0 : 0 ≤ n) (n1 : n ≤ 12) : q_Cc 11 [(11, b)] (sh, h) = some ((0, sm (fun k => if h (b + 2) k < 0 then 1 else 0) n), (sh, h)) := by
  rw [c_X1_held, e_X1_held_0]
  refine lp (fun i (y : Int) => q_L 11 4 [(11, b), (0, y), (0, i)] [] (sh, h)) (fun i y => y = sm (fun k => if h (b + 2) k < 0 then 1 else 0) i) (fun r => r = some ((0, sm (fun k => if h (b + 2) k < 0 then 1 else 0) n), (sh, h))) n ?_ ?_ 0 0 (by omega) (by omega) rfl
  · intro i y i0 i1 hy
    subst hy
    have bd := sm_bnd (f := fun k => if h (b + 2) k < 0 then 1 else 0) (a := 0) (b := 1) (n := i) i0 (fun j j0 j1 => b01)
    refine Or.inl ⟨sm (fun k => if h (b + 2) k < 0 then 1 else 0) (i + 1), ?_, rfl⟩
    rw [sm_succ i0, e_X1_held_4]
    by_cases c : h (b + 2) i < 0 <;> simp (disch := omega) only [q_470, q_up_far, q_row_row, q_row_self, q_row_ne, q_up_ne, q_up_eq, q_rowup, ud_eq, ud_ne, q_add_id, q_sub_id, q_mul_id, q_w_eq, q_rem_n, q_div_n, ↓reduceIte, leT, leF, ltT, ltF, eqT, eqF, true_or, or_true, false_or, or_false, true_and, and_true, false_and, and_false, or_self, and_self, Option.bind_some, p7, l7, en, e_X1_held_24, Int.add_zero]
  · intro y hy
    subst hy
    show q_L 11 4 _ _ _ = _
    rw [e_X1_held_4]
    simp (disch := omega) only [q_470, q_up_far, q_row_row, q_row_self, q_row_ne, q_up_ne, q_up_eq, q_rowup, ud_eq, ud_ne, q_add_id, q_sub_id, q_mul_id, q_w_eq, q_rem_n, q_div_n, ↓reduceIte, leT, leF, ltT, ltF, eqT, eqF, true_or, or_true, false_or, or_false, true_and, and_true, false_and, and_false, or_self, and_self, Option.bind_some, en]
def heldF (G : Int → Int) (c : Int) : Int := sm (fun k => if G (300 + 12 * c + k) < 0 then 1 else 0) (G (108 + c))
theorem k_held2 {sh : Int × (Int → Nat × Int)} {h : Int → Int → Int} {w c : Int} {G : Int → Int} (hs : Sh sh) (hp : Ptr h) (iw : isW w) (hr : RelW h w G) (wr : WFR G) (c0 : 0 ≤ c) (c1 : c < G 2) : q_Cc 11 [(11, w + 13 + 15 * c + 3)] (sh, h) = some ((0, heldF G c), (sh, h)) := by
  have u2 := wr.nc
  have w0 := iw.b
  have r1 := wr.blocks (d := c) (by omega) (by omega)
  have e5 : w + 13 + 15 * c + 3 + 2 = w + 13 + 15 * c + 5 := by omega
  rw [k_held (n := G (108 + c)) (by omega) (by rw [hp.bsent iw c (by omega) (by omega)]; omega) (by rw [e5]; exact hs.c5 iw c (by omega) (by omega)) (hr.blocks wr c c0 c1) r1.1 r1.2]
  unfold heldF
  rw [e5, sm_congr (fun k k0 k1 => by rw [hr.bsent wr c k c0 c1 k0 k1])]
theorem r_heldL {sh : Int × (Int → Nat × Int)} {h : Int → Int → Int} {c z : Int} {G : Int → Int} (e0 : h 469 0 = 470) (l : (sh.2 470).2 = 1354) (hG : h 470 = G) (wr : WFR G) (c0 : 0 ≤ c) (c1 : c < 8) : q_L 175 35 [(22, 469), (0, c), (0, z), (0, 0), (0, 0)] [] (sh, h) = some ((0, heldF G c), (sh, h)) := by
  have r1 := wr.blocks (d := c) (by omega) (by omega)
  unfold heldF
  refine lp (fun i (y : Int) => q_L 175 35 [(22, 469), (0, c), (0, z), (0, y), (0, i)] [] (sh, h)) (fun i y => y = sm (fun k => if G (300 + 12 * c + k) < 0 then 1 else 0) i) (fun r => r = some ((0, sm (fun k => if G (300 + 12 * c + k) < 0 then 1 else 0) (G (108 + c))), (sh, h))) (G (108 + c)) ?_ ?_ 0 0 (by omega) (by omega) rfl
  · intro i y i0 i1 hy
    subst hy
    have bd := sm_bnd (f := fun k => if G (300 + 12 * c + k) < 0 then 1 else 0) (a := 0) (b := 1) (n := i) i0 (fun j j0 j1 => b01)
    refine Or.inl ⟨sm (fun k => if G (300 + 12 * c + k) < 0 then 1 else 0) (i + 1), ?_, rfl⟩
    rw [sm_succ i0, e_X12_craftIs_35]
    by_cases c : G (300 + 12 * c + i) < 0 <;> simp (disch := omega) only [q_470, q_up_far, q_row_row, q_row_self, q_row_ne, q_up_ne, q_up_eq, q_rowup, ud_eq, ud_ne, q_add_id, q_sub_id, q_mul_id, q_w_eq, q_rem_n, q_div_n, ↓reduceIte, leT, leF, ltT, ltF, eqT, eqF, true_or, or_true, false_or, or_false, true_and, and_true, false_and, and_false, or_self, and_self, Option.bind_some, e0, l, hG, e_X12_craftIs_74, Int.add_zero]
  · intro y hy
    subst hy
    show q_L 175 35 _ _ _ = _
    rw [e_X12_craftIs_35]
    simp (disch := omega) only [q_470, q_up_far, q_row_row, q_row_self, q_row_ne, q_up_ne, q_up_eq, q_rowup, ud_eq, ud_ne, q_add_id, q_sub_id, q_mul_id, q_w_eq, q_rem_n, q_div_n, ↓reduceIte, leT, leF, ltT, ltF, eqT, eqF, true_or, or_true, false_or, or_false, true_and, and_true, false_and, and_false, or_self, and_self, Option.bind_some, e0, l, hG]
theorem st_craftIs (c k : Int) : Step 112 175 [(0, c), (0, k)] := by
  intro sh h hs ho hi
  obtain ⟨w, G, hw1, iw, ew, hG, hp, hr, wf, hh⟩ := hi.opn
  have wr := wf.1
  have u0 := wr.hour; have u1 := wr.nd; have u2 := wr.nc; have u3 := wr.na
  by_cases v1 : 0 ≤ c ∧ c < G 2
  · by_cases v2 : 0 ≤ k ∧ k ≤ 10
    · by_cases k5 : k = 5
      · subst k5
        have kh := k_held2 hs hp iw hr wr v1.1 v1.2
        have rh := r_heldL (z := 5) hp.m0 hs.k470 hG wr v1.1 (by omega)
        refine ⟨heldF G c, h, h, ?_, ?_, hi, fun k hk => ⟨rfl, rfl⟩⟩
        · simp (disch := omega) only [q_470, q_up_far, q_row_row, q_row_self, q_row_ne, q_up_ne, q_up_eq, q_rowup, ud_eq, ud_ne, q_add_id, q_sub_id, q_mul_id, q_w_eq, q_rem_n, q_div_n, ↓reduceIte, leT, leF, ltT, ltF, eqT, eqF, true_or, or_true, false_or, or_false, true_and, and_true, false_and, and_false, or_self, and_self, Option.bind_some, ew, hp.w4 iw, hp.w5 iw, hp.w6 iw, hp.w7 iw, hp.w8 iw, hp.dish iw, hp.craft iw, hp.ask iw, hp.t6, hs.rains iw, hs.dishes iw, hs.crafts iw, hs.asks iw, hs.k468, hr.hour wr, hr.nd wr, hr.nc wr, hr.na wr, kh, hp.blocks iw, k_X11_outside, c_X11_craftIs, e_X11_craftIs_0, e_X11_craftIs_5, e_X11_craftIs_14, e_X11_craftIs_122, e_X11_craftIs_169, c_X11_noCraft, e_X11_noCraft_0, e_X11_noCraft_14]
        · simp (disch := omega) only [q_470, q_up_far, q_row_row, q_row_self, q_row_ne, q_up_ne, q_up_eq, q_rowup, ud_eq, ud_ne, q_add_id, q_sub_id, q_mul_id, q_w_eq, q_rem_n, q_div_n, ↓reduceIte, leT, leF, ltT, ltF, eqT, eqF, true_or, or_true, false_or, or_false, true_and, and_true, false_and, and_false, or_self, and_self, Option.bind_some, hp.m0, hp.m6, hs.k470, hs.k474, hG, rh, k_X12_in, c_X12_craftIs, e_X12_craftIs_0, e_X12_craftIs_5, e_X12_craftIs_15, c_X12_isCraft, e_X12_isCraft_0, e_X12_isCraft_13]
      · have : k = 0 ∨ k = 1 ∨ k = 2 ∨ k = 3 ∨ k = 4 ∨ k = 6 ∨ k = 7 ∨ k = 8 ∨ k = 9 ∨ k = 10 := by omega
        rcases this with rfl | rfl | rfl | rfl | rfl | rfl | rfl | rfl | rfl | rfl
        · refine ⟨G (76 + c), h, h, ?_, ?_, hi, fun k hk => ⟨rfl, rfl⟩⟩
          · simp (disch := omega) only [q_470, q_up_far, q_row_row, q_row_self, q_row_ne, q_up_ne, q_up_eq, q_rowup, ud_eq, ud_ne, q_add_id, q_sub_id, q_mul_id, q_w_eq, q_rem_n, q_div_n, ↓reduceIte, leT, leF, ltT, ltF, eqT, eqF, true_or, or_true, false_or, or_false, true_and, and_true, false_and, and_false, or_self, and_self, Option.bind_some, ew, hp.w4 iw, hp.w5 iw, hp.w6 iw, hp.w7 iw, hp.w8 iw, hp.dish iw, hp.craft iw, hp.ask iw, hp.t6, hs.rains iw, hs.dishes iw, hs.crafts iw, hs.asks iw, hs.k468, hr.hour wr, hr.nd wr, hr.nc wr, hr.na wr, hr.loud wr, hp.blocks iw, hp.orders iw, k_X11_outside, c_X11_craftIs, e_X11_craftIs_0, e_X11_craftIs_5, e_X11_craftIs_14, e_X11_craftIs_122, e_X11_craftIs_169, c_X11_noCraft, e_X11_noCraft_0, e_X11_noCraft_14]
          · simp (disch := omega) only [q_470, q_up_far, q_row_row, q_row_self, q_row_ne, q_up_ne, q_up_eq, q_rowup, ud_eq, ud_ne, q_add_id, q_sub_id, q_mul_id, q_w_eq, q_rem_n, q_div_n, ↓reduceIte, leT, leF, ltT, ltF, eqT, eqF, true_or, or_true, false_or, or_false, true_and, and_true, false_and, and_false, or_self, and_self, Option.bind_some, hp.m0, hp.m6, hs.k470, hs.k474, hG, k_X12_in, c_X12_craftIs, e_X12_craftIs_0, e_X12_craftIs_5, e_X12_craftIs_15, e_X12_craftIs_104, c_X12_isCraft, e_X12_isCraft_0, e_X12_isCraft_13, Int.reduceMul, Int.reduceAdd, Int.reduceSub]
        · refine ⟨G (84 + c), h, h, ?_, ?_, hi, fun k hk => ⟨rfl, rfl⟩⟩
          · simp (disch := omega) only [q_470, q_up_far, q_row_row, q_row_self, q_row_ne, q_up_ne, q_up_eq, q_rowup, ud_eq, ud_ne, q_add_id, q_sub_id, q_mul_id, q_w_eq, q_rem_n, q_div_n, ↓reduceIte, leT, leF, ltT, ltF, eqT, eqF, true_or, or_true, false_or, or_false, true_and, and_true, false_and, and_false, or_self, and_self, Option.bind_some, ew, hp.w4 iw, hp.w5 iw, hp.w6 iw, hp.w7 iw, hp.w8 iw, hp.dish iw, hp.craft iw, hp.ask iw, hp.t6, hs.rains iw, hs.dishes iw, hs.crafts iw, hs.asks iw, hs.k468, hr.hour wr, hr.nd wr, hr.nc wr, hr.na wr, hr.far wr, hp.blocks iw, hp.orders iw, k_X11_outside, c_X11_craftIs, e_X11_craftIs_0, e_X11_craftIs_5, e_X11_craftIs_14, e_X11_craftIs_122, e_X11_craftIs_169, c_X11_noCraft, e_X11_noCraft_0, e_X11_noCraft_14]
          · simp (disch := omega) only [q_470, q_up_far, q_row_row, q_row_self, q_row_ne, q_up_ne, q_up_eq, q_rowup, ud_eq, ud_ne, q_add_id, q_sub_id, q_mul_id, q_w_eq, q_rem_n, q_div_n, ↓reduceIte, leT, leF, ltT, ltF, eqT, eqF, true_or, or_true, false_or, or_false, true_and, and_true, false_and, and_false, or_self, and_self, Option.bind_some, hp.m0, hp.m6, hs.k470, hs.k474, hG, k_X12_in, c_X12_craftIs, e_X12_craftIs_0, e_X12_craftIs_5, e_X12_craftIs_15, e_X12_craftIs_104, c_X12_isCraft, e_X12_isCraft_0, e_X12_isCraft_13, Int.reduceMul, Int.reduceAdd, Int.reduceSub]
        · refine ⟨G (92 + c), h, h, ?_, ?_, hi, fun k hk => ⟨rfl, rfl⟩⟩
          · simp (disch := omega) only [q_470, q_up_far, q_row_row, q_row_self, q_row_ne, q_up_ne, q_up_eq, q_rowup, ud_eq, ud_ne, q_add_id, q_sub_id, q_mul_id, q_w_eq, q_rem_n, q_div_n, ↓reduceIte, leT, leF, ltT, ltF, eqT, eqF, true_or, or_true, false_or, or_false, true_and, and_true, false_and, and_false, or_self, and_self, Option.bind_some, ew, hp.w4 iw, hp.w5 iw, hp.w6 iw, hp.w7 iw, hp.w8 iw, hp.dish iw, hp.craft iw, hp.ask iw, hp.t6, hs.rains iw, hs.dishes iw, hs.crafts iw, hs.asks iw, hs.k468, hr.hour wr, hr.nd wr, hr.nc wr, hr.na wr, hr.room wr, hp.blocks iw, hp.orders iw, k_X11_outside, c_X11_craftIs, e_X11_craftIs_0, e_X11_craftIs_5, e_X11_craftIs_14, e_X11_craftIs_122, e_X11_craftIs_169, c_X11_noCraft, e_X11_noCraft_0, e_X11_noCraft_14]
          · simp (disch := omega) only [q_470, q_up_far, q_row_row, q_row_self, q_row_ne, q_up_ne, q_up_eq, q_rowup, ud_eq, ud_ne, q_add_id, q_sub_id, q_mul_id, q_w_eq, q_rem_n, q_div_n, ↓reduceIte, leT, leF, ltT, ltF, eqT, eqF, true_or, or_true, false_or, or_false, true_and, and_true, false_and, and_false, or_self, and_self, Option.bind_some, hp.m0, hp.m6, hs.k470, hs.k474, hG, k_X12_in, c_X12_craftIs, e_X12_craftIs_0, e_X12_craftIs_5, e_X12_craftIs_15, e_X12_craftIs_104, c_X12_isCraft, e_X12_isCraft_0, e_X12_isCraft_13, Int.reduceMul, Int.reduceAdd, Int.reduceSub]
        · refine ⟨G (100 + c), h, h, ?_, ?_, hi, fun k hk => ⟨rfl, rfl⟩⟩
          · simp (disch := omega) only [q_470, q_up_far, q_row_row, q_row_self, q_row_ne, q_up_ne, q_up_eq, q_rowup, ud_eq, ud_ne, q_add_id, q_sub_id, q_mul_id, q_w_eq, q_rem_n, q_div_n, ↓reduceIte, leT, leF, ltT, ltF, eqT, eqF, true_or, or_true, false_or, or_false, true_and, and_true, false_and, and_false, or_self, and_self, Option.bind_some, ew, hp.w4 iw, hp.w5 iw, hp.w6 iw, hp.w7 iw, hp.w8 iw, hp.dish iw, hp.craft iw, hp.ask iw, hp.t6, hs.rains iw, hs.dishes iw, hs.crafts iw, hs.asks iw, hs.k468, hr.hour wr, hr.nd wr, hr.nc wr, hr.na wr, hr.rate wr, hp.blocks iw, hp.orders iw, k_X11_outside, c_X11_craftIs, e_X11_craftIs_0, e_X11_craftIs_5, e_X11_craftIs_14, e_X11_craftIs_122, e_X11_craftIs_169, c_X11_noCraft, e_X11_noCraft_0, e_X11_noCraft_14]
          · simp (disch := omega) only [q_470, q_up_far, q_row_row, q_row_self, q_row_ne, q_up_ne, q_up_eq, q_rowup, ud_eq, ud_ne, q_add_id, q_sub_id, q_mul_id, q_w_eq, q_rem_n, q_div_n, ↓reduceIte, leT, leF, ltT, ltF, eqT, eqF, true_or, or_true, false_or, or_false, true_and, and_true, false_and, and_false, or_self, and_self, Option.bind_some, hp.m0, hp.m6, hs.k470, hs.k474, hG, k_X12_in, c_X12_craftIs, e_X12_craftIs_0, e_X12_craftIs_5, e_X12_craftIs_15, e_X12_craftIs_104, c_X12_isCraft, e_X12_isCraft_0, e_X12_isCraft_13, Int.reduceMul, Int.reduceAdd, Int.reduceSub]
        · refine ⟨G (108 + c), h, h, ?_, ?_, hi, fun k hk => ⟨rfl, rfl⟩⟩
          · simp (disch := omega) only [q_470, q_up_far, q_row_row, q_row_self, q_row_ne, q_up_ne, q_up_eq, q_rowup, ud_eq, ud_ne, q_add_id, q_sub_id, q_mul_id, q_w_eq, q_rem_n, q_div_n, ↓reduceIte, leT, leF, ltT, ltF, eqT, eqF, true_or, or_true, false_or, or_false, true_and, and_true, false_and, and_false, or_self, and_self, Option.bind_some, ew, hp.w4 iw, hp.w5 iw, hp.w6 iw, hp.w7 iw, hp.w8 iw, hp.dish iw, hp.craft iw, hp.ask iw, hp.t6, hs.rains iw, hs.dishes iw, hs.crafts iw, hs.asks iw, hs.k468, hr.hour wr, hr.nd wr, hr.nc wr, hr.na wr, hr.blocks wr, hp.blocks iw, hp.orders iw, k_X11_outside, c_X11_craftIs, e_X11_craftIs_0, e_X11_craftIs_5, e_X11_craftIs_14, e_X11_craftIs_122, e_X11_craftIs_169, c_X11_noCraft, e_X11_noCraft_0, e_X11_noCraft_14]
          · simp (disch := omega) only [q_470, q_up_far, q_row_row, q_row_self, q_row_ne, q_up_ne, q_up_eq, q_rowup, ud_eq, ud_ne, q_add_id, q_sub_id, q_mul_id, q_w_eq, q_rem_n, q_div_n, ↓reduceIte, leT, leF, ltT, ltF, eqT, eqF, true_or, or_true, false_or, or_false, true_and, and_true, false_and, and_false, or_self, and_self, Option.bind_some, hp.m0, hp.m6, hs.k470, hs.k474, hG, k_X12_in, c_X12_craftIs, e_X12_craftIs_0, e_X12_craftIs_5, e_X12_craftIs_15, e_X12_craftIs_104, c_X12_isCraft, e_X12_isCraft_0, e_X12_isCraft_13, Int.reduceMul, Int.reduceAdd, Int.reduceSub]
        · refine ⟨G (116 + c), h, h, ?_, ?_, hi, fun k hk => ⟨rfl, rfl⟩⟩
          · simp (disch := omega) only [q_470, q_up_far, q_row_row, q_row_self, q_row_ne, q_up_ne, q_up_eq, q_rowup, ud_eq, ud_ne, q_add_id, q_sub_id, q_mul_id, q_w_eq, q_rem_n, q_div_n, ↓reduceIte, leT, leF, ltT, ltF, eqT, eqF, true_or, or_true, false_or, or_false, true_and, and_true, false_and, and_false, or_self, and_self, Option.bind_some, ew, hp.w4 iw, hp.w5 iw, hp.w6 iw, hp.w7 iw, hp.w8 iw, hp.dish iw, hp.craft iw, hp.ask iw, hp.t6, hs.rains iw, hs.dishes iw, hs.crafts iw, hs.asks iw, hs.k468, hr.hour wr, hr.nd wr, hr.nc wr, hr.na wr, hr.made wr, hp.blocks iw, hp.orders iw, k_X11_outside, c_X11_craftIs, e_X11_craftIs_0, e_X11_craftIs_5, e_X11_craftIs_14, e_X11_craftIs_122, e_X11_craftIs_169, c_X11_noCraft, e_X11_noCraft_0, e_X11_noCraft_14]
          · simp (disch := omega) only [q_470, q_up_far, q_row_row, q_row_self, q_row_ne, q_up_ne, q_up_eq, q_rowup, ud_eq, ud_ne, q_add_id, q_sub_id, q_mul_id, q_w_eq, q_rem_n, q_div_n, ↓reduceIte, leT, leF, ltT, ltF, eqT, eqF, true_or, or_true, false_or, or_false, true_and, and_true, false_and, and_false, or_self, and_self, Option.bind_some, hp.m0, hp.m6, hs.k470, hs.k474, hG, k_X12_in, c_X12_craftIs, e_X12_craftIs_0, e_X12_craftIs_5, e_X12_craftIs_15, e_X12_craftIs_104, c_X12_isCraft, e_X12_isCraft_0, e_X12_isCraft_13, Int.reduceMul, Int.reduceAdd, Int.reduceSub]
        · refine ⟨G (124 + c), h, h, ?_, ?_, hi, fun k hk => ⟨rfl, rfl⟩⟩
          · simp (disch := omega) only [q_470, q_up_far, q_row_row, q_row_self, q_row_ne, q_up_ne, q_up_eq, q_rowup, ud_eq, ud_ne, q_add_id, q_sub_id, q_mul_id, q_w_eq, q_rem_n, q_div_n, ↓reduceIte, leT, leF, ltT, ltF, eqT, eqF, true_or, or_true, false_or, or_false, true_and, and_true, false_and, and_false, or_self, and_self, Option.bind_some, ew, hp.w4 iw, hp.w5 iw, hp.w6 iw, hp.w7 iw, hp.w8 iw, hp.dish iw, hp.craft iw, hp.ask iw, hp.t6, hs.rains iw, hs.dishes iw, hs.crafts iw, hs.asks iw, hs.k468, hr.hour wr, hr.nd wr, hr.nc wr, hr.na wr, hr.had wr, hp.blocks iw, hp.orders iw, k_X11_outside, c_X11_craftIs, e_X11_craftIs_0, e_X11_craftIs_5, e_X11_craftIs_14, e_X11_craftIs_122, e_X11_craftIs_169, c_X11_noCraft, e_X11_noCraft_0, e_X11_noCraft_14]
          · simp (disch := omega) only [q_470, q_up_far, q_row_row, q_row_self, q_row_ne, q_up_ne, q_up_eq, q_rowup, ud_eq, ud_ne, q_add_id, q_sub_id, q_mul_id, q_w_eq, q_rem_n, q_div_n, ↓reduceIte, leT, leF, ltT, ltF, eqT, eqF, true_or, or_true, false_or, or_false, true_and, and_true, false_and, and_false, or_self, and_self, Option.bind_some, hp.m0, hp.m6, hs.k470, hs.k474, hG, k_X12_in, c_X12_craftIs, e_X12_craftIs_0, e_X12_craftIs_5, e_X12_craftIs_15, e_X12_craftIs_104, c_X12_isCraft, e_X12_isCraft_0, e_X12_isCraft_13, Int.reduceMul, Int.reduceAdd, Int.reduceSub]
        · refine ⟨G (132 + c), h, h, ?_, ?_, hi, fun k hk => ⟨rfl, rfl⟩⟩
          · simp (disch := omega) only [q_470, q_up_far, q_row_row, q_row_self, q_row_ne, q_up_ne, q_up_eq, q_rowup, ud_eq, ud_ne, q_add_id, q_sub_id, q_mul_id, q_w_eq, q_rem_n, q_div_n, ↓reduceIte, leT, leF, ltT, ltF, eqT, eqF, true_or, or_true, false_or, or_false, true_and, and_true, false_and, and_false, or_self, and_self, Option.bind_some, ew, hp.w4 iw, hp.w5 iw, hp.w6 iw, hp.w7 iw, hp.w8 iw, hp.dish iw, hp.craft iw, hp.ask iw, hp.t6, hs.rains iw, hs.dishes iw, hs.crafts iw, hs.asks iw, hs.k468, hr.hour wr, hr.nd wr, hr.nc wr, hr.na wr, hr.dropped wr, hp.blocks iw, hp.orders iw, k_X11_outside, c_X11_craftIs, e_X11_craftIs_0, e_X11_craftIs_5, e_X11_craftIs_14, e_X11_craftIs_122, e_X11_craftIs_169, c_X11_noCraft, e_X11_noCraft_0, e_X11_noCraft_14]
          · simp (disch := omega) only [q_470, q_up_far, q_row_row, q_row_self, q_row_ne, q_up_ne, q_up_eq, q_rowup, ud_eq, ud_ne, q_add_id, q_sub_id, q_mul_id, q_w_eq, q_rem_n, q_div_n, ↓reduceIte, leT, leF, ltT, ltF, eqT, eqF, true_or, or_true, false_or, or_false, true_and, and_true, false_and, and_false, or_self, and_self, Option.bind_some, hp.m0, hp.m6, hs.k470, hs.k474, hG, k_X12_in, c_X12_craftIs, e_X12_craftIs_0, e_X12_craftIs_5, e_X12_craftIs_15, e_X12_craftIs_104, c_X12_isCraft, e_X12_isCraft_0, e_X12_isCraft_13, Int.reduceMul, Int.reduceAdd, Int.reduceSub]
        · refine ⟨G (140 + c), h, h, ?_, ?_, hi, fun k hk => ⟨rfl, rfl⟩⟩
          · simp (disch := omega) only [q_470, q_up_far, q_row_row, q_row_self, q_row_ne, q_up_ne, q_up_eq, q_rowup, ud_eq, ud_ne, q_add_id, q_sub_id, q_mul_id, q_w_eq, q_rem_n, q_div_n, ↓reduceIte, leT, leF, ltT, ltF, eqT, eqF, true_or, or_true, false_or, or_false, true_and, and_true, false_and, and_false, or_self, and_self, Option.bind_some, ew, hp.w4 iw, hp.w5 iw, hp.w6 iw, hp.w7 iw, hp.w8 iw, hp.dish iw, hp.craft iw, hp.ask iw, hp.t6, hs.rains iw, hs.dishes iw, hs.crafts iw, hs.asks iw, hs.k468, hr.hour wr, hr.nd wr, hr.nc wr, hr.na wr, hr.lost wr, hp.blocks iw, hp.orders iw, k_X11_outside, c_X11_craftIs, e_X11_craftIs_0, e_X11_craftIs_5, e_X11_craftIs_14, e_X11_craftIs_122, e_X11_craftIs_169, c_X11_noCraft, e_X11_noCraft_0, e_X11_noCraft_14]
          · simp (disch := omega) only [q_470, q_up_far, q_row_row, q_row_self, q_row_ne, q_up_ne, q_up_eq, q_rowup, ud_eq, ud_ne, q_add_id, q_sub_id, q_mul_id, q_w_eq, q_rem_n, q_div_n, ↓reduceIte, leT, leF, ltT, ltF, eqT, eqF, true_or, or_true, false_or, or_false, true_and, and_true, false_and, and_false, or_self, and_self, Option.bind_some, hp.m0, hp.m6, hs.k470, hs.k474, hG, k_X12_in, c_X12_craftIs, e_X12_craftIs_0, e_X12_craftIs_5, e_X12_craftIs_15, e_X12_craftIs_104, c_X12_isCraft, e_X12_isCraft_0, e_X12_isCraft_13, Int.reduceMul, Int.reduceAdd, Int.reduceSub]
        · refine ⟨G (148 + c), h, h, ?_, ?_, hi, fun k hk => ⟨rfl, rfl⟩⟩
          · simp (disch := omega) only [q_470, q_up_far, q_row_row, q_row_self, q_row_ne, q_up_ne, q_up_eq, q_rowup, ud_eq, ud_ne, q_add_id, q_sub_id, q_mul_id, q_w_eq, q_rem_n, q_div_n, ↓reduceIte, leT, leF, ltT, ltF, eqT, eqF, true_or, or_true, false_or, or_false, true_and, and_true, false_and, and_false, or_self, and_self, Option.bind_some, ew, hp.w4 iw, hp.w5 iw, hp.w6 iw, hp.w7 iw, hp.w8 iw, hp.dish iw, hp.craft iw, hp.ask iw, hp.t6, hs.rains iw, hs.dishes iw, hs.crafts iw, hs.asks iw, hs.k468, hr.hour wr, hr.nd wr, hr.nc wr, hr.na wr, hr.orders wr, hp.blocks iw, hp.orders iw, k_X11_outside, c_X11_craftIs, e_X11_craftIs_0, e_X11_craftIs_5, e_X11_craftIs_14, e_X11_craftIs_122, e_X11_craftIs_169, c_X11_noCraft, e_X11_noCraft_0, e_X11_noCraft_14]
          · simp (disch := omega) only [q_470, q_up_far, q_row_row, q_row_self, q_row_ne, q_up_ne, q_up_eq, q_rowup, ud_eq, ud_ne, q_add_id, q_sub_id, q_mul_id, q_w_eq, q_rem_n, q_div_n, ↓reduceIte, leT, leF, ltT, ltF, eqT, eqF, true_or, or_true, false_or, or_false, true_and, and_true, false_and, and_false, or_self, and_self, Option.bind_some, hp.m0, hp.m6, hs.k470, hs.k474, hG, k_X12_in, c_X12_craftIs, e_X12_craftIs_0, e_X12_craftIs_5, e_X12_craftIs_15, e_X12_craftIs_104, c_X12_isCraft, e_X12_isCraft_0, e_X12_isCraft_13, Int.reduceMul, Int.reduceAdd, Int.reduceSub]
    · have v3 : k < 0 ∨ 10 < k := by omega
      refine ⟨-1000001, (q_up h 468 0 (q_add (h 468 0) 1)), q_up (q_up h 468 0 (q_add (h 468 0) 1)) 474 0 (q_add (h 474 0) 1), ?_, ?_, hi.find 0 (by decide) (by decide), fun k hk => ⟨by rw [q_up_far (by omega), q_up_far (by omega)], by rw [q_up_far (by omega)]⟩⟩
      · simp (disch := omega) only [q_470, q_up_far, q_row_row, q_row_self, q_row_ne, q_up_ne, q_up_eq, q_rowup, ud_eq, ud_ne, q_add_id, q_sub_id, q_mul_id, q_w_eq, q_rem_n, q_div_n, ↓reduceIte, leT, leF, ltT, ltF, eqT, eqF, true_or, or_true, false_or, or_false, true_and, and_true, false_and, and_false, or_self, and_self, Option.bind_some, ew, hp.w4 iw, hp.w5 iw, hp.w6 iw, hp.w7 iw, hp.w8 iw, hp.dish iw, hp.craft iw, hp.ask iw, hp.t6, hs.rains iw, hs.dishes iw, hs.crafts iw, hs.asks iw, hs.k468, hr.hour wr, hr.nd wr, hr.nc wr, hr.na wr, k_X11_outside, k_f0 hp.t6 hs.k468, c_X11_craftIs, e_X11_craftIs_0, e_X11_craftIs_5, e_X11_craftIs_14, e_X11_craftIs_122, e_X11_craftIs_169, c_X11_noCraft, e_X11_noCraft_0, e_X11_noCraft_14]
      · simp (disch := omega) only [q_470, q_up_far, q_row_row, q_row_self, q_row_ne, q_up_ne, q_up_eq, q_rowup, ud_eq, ud_ne, q_add_id, q_sub_id, q_mul_id, q_w_eq, q_rem_n, q_div_n, ↓reduceIte, leT, leF, ltT, ltF, eqT, eqF, true_or, or_true, false_or, or_false, true_and, and_true, false_and, and_false, or_self, and_self, Option.bind_some, hp.m0, hp.m6, hs.k470, hs.k474, hG, k_X12_in, k_g0 (sh := sh) (h := (q_up h 468 0 (q_add (h 468 0) 1))) (by rw [q_up_far (by decide)]; exact hp.m6) hs.k474, c_X12_craftIs, e_X12_craftIs_0, e_X12_craftIs_5, e_X12_craftIs_15, e_X12_craftIs_18, e_X12_craftIs_24, c_X12_isCraft, e_X12_isCraft_0, e_X12_isCraft_13]
  · refine ⟨-1000001, (q_up h 468 0 (q_add (h 468 0) 1)), q_up (q_up h 468 0 (q_add (h 468 0) 1)) 474 0 (q_add (h 474 0) 1), ?_, ?_, hi.find 0 (by decide) (by decide), fun k hk => ⟨by rw [q_up_far (by omega), q_up_far (by omega)], by rw [q_up_far (by omega)]⟩⟩
    · simp (disch := omega) only [q_470, q_up_far, q_row_row, q_row_self, q_row_ne, q_up_ne, q_up_eq, q_rowup, ud_eq, ud_ne, q_add_id, q_sub_id, q_mul_id, q_w_eq, q_rem_n, q_div_n, ↓reduceIte, leT, leF, ltT, ltF, eqT, eqF, true_or, or_true, false_or, or_false, true_and, and_true, false_and, and_false, or_self, and_self, Option.bind_some, ew, hp.w4 iw, hp.w5 iw, hp.w6 iw, hp.w7 iw, hp.w8 iw, hp.dish iw, hp.craft iw, hp.ask iw, hp.t6, hs.rains iw, hs.dishes iw, hs.crafts iw, hs.asks iw, hs.k468, hr.hour wr, hr.nd wr, hr.nc wr, hr.na wr, k_X11_outside, k_f0 hp.t6 hs.k468, c_X11_craftIs, e_X11_craftIs_0, e_X11_craftIs_5, e_X11_craftIs_14, e_X11_craftIs_122, e_X11_craftIs_169, c_X11_noCraft, e_X11_noCraft_0, e_X11_noCraft_14]
    · simp (disch := omega) only [q_470, q_up_far, q_row_row, q_row_self, q_row_ne, q_up_ne, q_up_eq, q_rowup, ud_eq, ud_ne, q_add_id, q_sub_id, q_mul_id, q_w_eq, q_rem_n, q_div_n, ↓reduceIte, leT, leF, ltT, ltF, eqT, eqF, true_or, or_true, false_or, or_false, true_and, and_true, false_and, and_false, or_self, and_self, Option.bind_some, hp.m0, hp.m6, hs.k470, hs.k474, hG, k_X12_in, k_g0 (sh := sh) (h := (q_up h 468 0 (q_add (h 468 0) 1))) (by rw [q_up_far (by decide)]; exact hp.m6) hs.k474, c_X12_craftIs, e_X12_craftIs_0, e_X12_craftIs_5, e_X12_craftIs_15, e_X12_craftIs_18, e_X12_craftIs_24, c_X12_isCraft, e_X12_isCraft_0, e_X12_isCraft_13]
/-! which asking runs on a dish -/
def rF (G : Int → Int) (d : Int) : Nat → Int
  | 0 => -1
  | n + 1 => if G (480 + n) = 2 ∧ G (494 + n) = d then n else rF G d n
theorem rF_b (G : Int → Int) (d : Int) : ∀ n : Nat, (rF G d n = -1 ∧ ∀ i : Int, 0 ≤ i → i < n → ¬ (G (480 + i) = 2 ∧ G (494 + i) = d)) ∨ (0 ≤ rF G d n ∧ rF G d n < n ∧ G (480 + rF G d n) = 2 ∧ G (494 + rF G d n) = d) := by
  intro n
  induction n with
  | zero => left; exact ⟨rfl, fun i h0 h1 => by omega⟩
  | succ n ih =>
    unfold rF
    split
    · right
      rename_i e
      exact ⟨by omega, by omega, e.1, e.2⟩
    · rename_i e
      rcases ih with ⟨h1, h2⟩ | ⟨h1, h2, h3, h4⟩
      · left
        refine ⟨h1, ?_⟩
        intro i i0 i1 hh
        by_cases ei : i = n
        · subst ei; exact e hh
        · exact h2 i i0 (by omega) hh
      · right
        exact ⟨h1, by omega, h3, h4⟩
/-- on a dish runs one at most -/
def uq (G : Int → Int) : Prop := ∀ a b, 0 ≤ a → a < G 3 → 0 ≤ b → b < G 3 → G (480 + a) = 2 → G (480 + b) = 2 → G (494 + a) = G (494 + b) → a = b
theorem WF.uq {G : Int → Int} (wf : WF G) : uq G := by
  have key : ∀ a b, 0 ≤ a → a < b → b < G 3 → G (480 + a) = 2 → G (480 + b) = 2 → G (494 + a) = G (494 + b) → False := by
    intro a b a0 ab b1 sa sb dd
    have h1 := wf.2.2.2.1 a b a0 ab b1 (Or.inr sa) (Or.inr sb) dd
    have h2 := (wf.2.2.1 a a0 (by omega)).2.2.2.2 sa
    have h3 := (wf.2.2.1 b (by omega) b1).2.2.2.2 sb
    omega
  intro a b a0 a1 b0 b1 sa sb dd
  rcases Int.lt_trichotomy a b with z | z | z
  · exact (key a b a0 z b1 sa sb dd).elim
  · exact z
  · exact (key b a b0 z a1 sb sa dd.symm).elim
theorem k_runningOn {sh : Int × (Int → Nat × Int)} {h : Int → Int → Int} {w d : Int} {G : Int → Int} (hs : Sh sh) (hp : Ptr h) (iw : isW w) (hr : RelW h w G) (wr : WFR G) (hu : uq G) : q_Cc 97 [(20, w), (0, d)] (sh, h) = some ((0, rF G d (G 3).toNat), (sh, h)) := by
  have u3 := wr.na
  have w0 := iw.b
  have sp := rF_b G d (G 3).toNat
  rw [Int.toNat_of_nonneg u3.1] at sp
  rw [c_X10_runningOn, e_X10_runningOn_0]
  refine lp (fun i (_ : Unit) => q_L 97 2 [(20, w), (0, d), (0, i)] [] (sh, h)) (fun i _ => ∀ j, 0 ≤ j → j < i → ¬ (G (480 + j) = 2 ∧ G (494 + j) = d)) (fun r => r = some ((0, rF G d (G 3).toNat), (sh, h))) (G 3) ?_ ?_ 0 () (by omega) (by omega) (fun j _ _ => by omega)
  · intro i _ i0 i1 hI
    by_cases c1 : G (480 + i) = 2
    · by_cases c2 : G (494 + i) = d
      · right
        have e : rF G d (G 3).toNat = i := by
          rcases sp with ⟨s1, s2⟩ | ⟨s1, s2, s3, s4⟩
          · exact (s2 i i0 i1 ⟨c1, c2⟩).elim
          · exact hu _ _ s1 s2 i0 i1 s3 c1 (by rw [s4, c2])
        show q_L 97 2 _ _ _ = _
        rw [e, e_X10_runningOn_2]
        simp (disch := omega) only [q_470, q_up_far, q_row_row, q_row_self, q_row_ne, q_up_ne, q_up_eq, q_rowup, ud_eq, ud_ne, q_add_id, q_sub_id, q_mul_id, q_w_eq, q_rem_n, q_div_n, ↓reduceIte, leT, leF, ltT, ltF, eqT, eqF, true_or, or_true, false_or, or_false, true_and, and_true, false_and, and_false, or_self, and_self, Option.bind_some, hr.na wr, hr.astate wr, hr.adish wr, hp.w7 iw, hp.ask iw, hs.asks iw]
      · left
        refine ⟨(), ?_, ?_⟩
        · rw [e_X10_runningOn_2]
          simp (disch := omega) only [q_470, q_up_far, q_row_row, q_row_self, q_row_ne, q_up_ne, q_up_eq, q_rowup, ud_eq, ud_ne, q_add_id, q_sub_id, q_mul_id, q_w_eq, q_rem_n, q_div_n, ↓reduceIte, leT, leF, ltT, ltF, eqT, eqF, true_or, or_true, false_or, or_false, true_and, and_true, false_and, and_false, or_self, and_self, Option.bind_some, hr.na wr, hr.astate wr, hr.adish wr, hp.w7 iw, hp.ask iw, hs.asks iw, e_X10_runningOn_38]
        · intro j j0 j1
          by_cases e : j = i
          · subst e; exact fun hh => c2 hh.2
          · exact hI j j0 (by omega)
    · left
      refine ⟨(), ?_, ?_⟩
      · rw [e_X10_runningOn_2]
        simp (disch := omega) only [q_470, q_up_far, q_row_row, q_row_self, q_row_ne, q_up_ne, q_up_eq, q_rowup, ud_eq, ud_ne, q_add_id, q_sub_id, q_mul_id, q_w_eq, q_rem_n, q_div_n, ↓reduceIte, leT, leF, ltT, ltF, eqT, eqF, true_or, or_true, false_or, or_false, true_and, and_true, false_and, and_false, or_self, and_self, Option.bind_some, hr.na wr, hr.astate wr, hr.adish wr, hp.w7 iw, hp.ask iw, hs.asks iw, e_X10_runningOn_38]
      · intro j j0 j1
        by_cases e : j = i
        · subst e; exact fun hh => c1 hh.1
        · exact hI j j0 (by omega)
  · intro _ hI
    have e : rF G d (G 3).toNat = -1 := by
      rcases sp with ⟨s1, s2⟩ | ⟨s1, s2, s3, s4⟩
      · exact s1
      · exact (hI _ s1 s2 ⟨s3, s4⟩).elim
    show q_L 97 2 _ _ _ = _
    rw [e, e_X10_runningOn_2]
    simp (disch := omega) only [q_470, q_up_far, q_row_row, q_row_self, q_row_ne, q_up_ne, q_up_eq, q_rowup, ud_eq, ud_ne, q_add_id, q_sub_id, q_mul_id, q_w_eq, q_rem_n, q_div_n, ↓reduceIte, leT, leF, ltT, ltF, eqT, eqF, true_or, or_true, false_or, or_false, true_and, and_true, false_and, and_false, or_self, and_self, Option.bind_some, hr.na wr]
theorem r_running {sh : Int × (Int → Nat × Int)} {h : Int → Int → Int} {d : Int} {G : Int → Int} (e0 : h 469 0 = 470) (l : (sh.2 470).2 = 1354) (hG : h 470 = G) (wr : WFR G) : q_Cc 172 [(22, 469), (0, d)] (sh, h) = some ((0, rF G d (G 3).toNat), (sh, h)) := by
  have u3 := wr.na
  rw [c_X12_running, e_X12_running_0]
  refine lp (fun i (y : Int) => q_L 172 4 [(22, 469), (0, d), (0, y), (0, i)] [] (sh, h)) (fun i y => y = rF G d i.toNat) (fun r => r = some ((0, rF G d (G 3).toNat), (sh, h))) (G 3) ?_ ?_ 0 (-1) (by omega) (by omega) rfl
  · intro i y i0 i1 hy
    subst hy
    have ei : (i.toNat : Int) = i := Int.toNat_of_nonneg i0
    have es : (i + 1).toNat = i.toNat + 1 := by omega
    have bs : rF G d (i.toNat + 1) = if G (480 + i) = 2 ∧ G (494 + i) = d then i else rF G d i.toNat := by
      show (if G (480 + (i.toNat : Int)) = 2 ∧ G (494 + (i.toNat : Int)) = d then (i.toNat : Int) else rF G d i.toNat) = _
      rw [ei]
    refine Or.inl ⟨rF G d (i + 1).toNat, ?_, rfl⟩
    rw [es, bs, e_X12_running_4]
    by_cases c1 : G (480 + i) = 2 <;> by_cases c2 : G (494 + i) = d <;> simp (disch := omega) only [q_470, q_up_far, q_row_row, q_row_self, q_row_ne, q_up_ne, q_up_eq, q_rowup, ud_eq, ud_ne, q_add_id, q_sub_id, q_mul_id, q_w_eq, q_rem_n, q_div_n, ↓reduceIte, leT, leF, ltT, ltF, eqT, eqF, true_or, or_true, false_or, or_false, true_and, and_true, false_and, and_false, or_self, and_self, Option.bind_some, e0, l, hG, e_X12_running_46, e_X12_running_47]
  · intro y hy
    subst hy
    show q_L 172 4 _ _ _ = _
    rw [e_X12_running_4]
    simp (disch := omega) only [q_470, q_up_far, q_row_row, q_row_self, q_row_ne, q_up_ne, q_up_eq, q_rowup, ud_eq, ud_ne, q_add_id, q_sub_id, q_mul_id, q_w_eq, q_rem_n, q_div_n, ↓reduceIte, leT, leF, ltT, ltF, eqT, eqF, true_or, or_true, false_or, or_false, true_and, and_true, false_and, and_false, or_self, and_self, Option.bind_some, e0, l, hG]
theorem st_dishIs (d k : Int) : Step 110 173 [(0, d), (0, k)] := by
  intro sh h hs ho hi
  obtain ⟨w, G, hw1, iw, ew, hG, hp, hr, wf, hh⟩ := hi.opn
  have wr := wf.1
  have u0 := wr.hour; have u1 := wr.nd; have u2 := wr.nc; have u3 := wr.na
  by_cases v1 : 0 ≤ d ∧ d < G 1
  · have r4 := wr.broken (d := d) (by omega) (by omega)
    by_cases v2 : 0 ≤ k ∧ k ≤ 4
    · have : k = 0 ∨ k = 1 ∨ k = 2 ∨ k = 3 ∨ k = 4 := by omega
      rcases this with rfl | rfl | rfl | rfl | rfl
      · refine ⟨G (52 + d), h, h, ?_, ?_, hi, fun k hk => ⟨rfl, rfl⟩⟩
        · simp (disch := omega) only [q_470, q_up_far, q_row_row, q_row_self, q_row_ne, q_up_ne, q_up_eq, q_rowup, ud_eq, ud_ne, q_add_id, q_sub_id, q_mul_id, q_w_eq, q_rem_n, q_div_n, ↓reduceIte, leT, leF, ltT, ltF, eqT, eqF, true_or, or_true, false_or, or_false, true_and, and_true, false_and, and_false, or_self, and_self, Option.bind_some, ew, hp.w4 iw, hp.w5 iw, hp.w6 iw, hp.w7 iw, hp.w8 iw, hp.dish iw, hp.craft iw, hp.ask iw, hp.t6, hs.rains iw, hs.dishes iw, hs.crafts iw, hs.asks iw, hs.k468, hr.hour wr, hr.nd wr, hr.nc wr, hr.na wr, hr.place wr, k_X11_outside, c_X11_dishIs, e_X11_dishIs_0, e_X11_dishIs_5, e_X11_dishIs_14, e_X11_dishIs_87, e_X11_dishIs_96, e_X11_dishIs_103, c_X11_noDish, e_X11_noDish_0, e_X11_noDish_14]
        · simp (disch := omega) only [q_470, q_up_far, q_row_row, q_row_self, q_row_ne, q_up_ne, q_up_eq, q_rowup, ud_eq, ud_ne, q_add_id, q_sub_id, q_mul_id, q_w_eq, q_rem_n, q_div_n, ↓reduceIte, leT, leF, ltT, ltF, eqT, eqF, true_or, or_true, false_or, or_false, true_and, and_true, false_and, and_false, or_self, and_self, Option.bind_some, hp.m0, hp.m6, hs.k470, hs.k474, hG, k_X12_in, c_X12_dishIs, e_X12_dishIs_0, e_X12_dishIs_5, e_X12_dishIs_14, e_X12_dishIs_17, e_X12_dishIs_23, e_X12_dishIs_34, e_X12_dishIs_51, c_X12_isDish, e_X12_isDish_0, e_X12_isDish_13, Int.reduceMul, Int.reduceAdd]
      · refine ⟨G (58 + d), h, h, ?_, ?_, hi, fun k hk => ⟨rfl, rfl⟩⟩
        · simp (disch := omega) only [q_470, q_up_far, q_row_row, q_row_self, q_row_ne, q_up_ne, q_up_eq, q_rowup, ud_eq, ud_ne, q_add_id, q_sub_id, q_mul_id, q_w_eq, q_rem_n, q_div_n, ↓reduceIte, leT, leF, ltT, ltF, eqT, eqF, true_or, or_true, false_or, or_false, true_and, and_true, false_and, and_false, or_self, and_self, Option.bind_some, ew, hp.w4 iw, hp.w5 iw, hp.w6 iw, hp.w7 iw, hp.w8 iw, hp.dish iw, hp.craft iw, hp.ask iw, hp.t6, hs.rains iw, hs.dishes iw, hs.crafts iw, hs.asks iw, hs.k468, hr.hour wr, hr.nd wr, hr.nc wr, hr.na wr, hr.size wr, k_X11_outside, c_X11_dishIs, e_X11_dishIs_0, e_X11_dishIs_5, e_X11_dishIs_14, e_X11_dishIs_87, e_X11_dishIs_96, e_X11_dishIs_103, c_X11_noDish, e_X11_noDish_0, e_X11_noDish_14]
        · simp (disch := omega) only [q_470, q_up_far, q_row_row, q_row_self, q_row_ne, q_up_ne, q_up_eq, q_rowup, ud_eq, ud_ne, q_add_id, q_sub_id, q_mul_id, q_w_eq, q_rem_n, q_div_n, ↓reduceIte, leT, leF, ltT, ltF, eqT, eqF, true_or, or_true, false_or, or_false, true_and, and_true, false_and, and_false, or_self, and_self, Option.bind_some, hp.m0, hp.m6, hs.k470, hs.k474, hG, k_X12_in, c_X12_dishIs, e_X12_dishIs_0, e_X12_dishIs_5, e_X12_dishIs_14, e_X12_dishIs_17, e_X12_dishIs_23, e_X12_dishIs_34, e_X12_dishIs_51, c_X12_isDish, e_X12_isDish_0, e_X12_isDish_13, Int.reduceMul, Int.reduceAdd]
      · refine ⟨G (64 + d), h, h, ?_, ?_, hi, fun k hk => ⟨rfl, rfl⟩⟩
        · simp (disch := omega) only [q_470, q_up_far, q_row_row, q_row_self, q_row_ne, q_up_ne, q_up_eq, q_rowup, ud_eq, ud_ne, q_add_id, q_sub_id, q_mul_id, q_w_eq, q_rem_n, q_div_n, ↓reduceIte, leT, leF, ltT, ltF, eqT, eqF, true_or, or_true, false_or, or_false, true_and, and_true, false_and, and_false, or_self, and_self, Option.bind_some, ew, hp.w4 iw, hp.w5 iw, hp.w6 iw, hp.w7 iw, hp.w8 iw, hp.dish iw, hp.craft iw, hp.ask iw, hp.t6, hs.rains iw, hs.dishes iw, hs.crafts iw, hs.asks iw, hs.k468, hr.hour wr, hr.nd wr, hr.nc wr, hr.na wr, hr.turn wr, k_X11_outside, c_X11_dishIs, e_X11_dishIs_0, e_X11_dishIs_5, e_X11_dishIs_14, e_X11_dishIs_87, e_X11_dishIs_96, e_X11_dishIs_103, c_X11_noDish, e_X11_noDish_0, e_X11_noDish_14]
        · simp (disch := omega) only [q_470, q_up_far, q_row_row, q_row_self, q_row_ne, q_up_ne, q_up_eq, q_rowup, ud_eq, ud_ne, q_add_id, q_sub_id, q_mul_id, q_w_eq, q_rem_n, q_div_n, ↓reduceIte, leT, leF, ltT, ltF, eqT, eqF, true_or, or_true, false_or, or_false, true_and, and_true, false_and, and_false, or_self, and_self, Option.bind_some, hp.m0, hp.m6, hs.k470, hs.k474, hG, k_X12_in, c_X12_dishIs, e_X12_dishIs_0, e_X12_dishIs_5, e_X12_dishIs_14, e_X12_dishIs_17, e_X12_dishIs_23, e_X12_dishIs_34, e_X12_dishIs_51, c_X12_isDish, e_X12_isDish_0, e_X12_isDish_13, Int.reduceMul, Int.reduceAdd]
      · have : G (70 + d) = 0 ∨ G (70 + d) = 1 := by omega
        rcases this with e | e
        · refine ⟨0, h, h, ?_, ?_, hi, fun k hk => ⟨rfl, rfl⟩⟩
          · simp (disch := omega) only [q_470, q_up_far, q_row_row, q_row_self, q_row_ne, q_up_ne, q_up_eq, q_rowup, ud_eq, ud_ne, q_add_id, q_sub_id, q_mul_id, q_w_eq, q_rem_n, q_div_n, ↓reduceIte, leT, leF, ltT, ltF, eqT, eqF, true_or, or_true, false_or, or_false, true_and, and_true, false_and, and_false, or_self, and_self, Option.bind_some, ew, hp.w4 iw, hp.w5 iw, hp.w6 iw, hp.w7 iw, hp.w8 iw, hp.dish iw, hp.craft iw, hp.ask iw, hp.t6, hs.rains iw, hs.dishes iw, hs.crafts iw, hs.asks iw, hs.k468, hr.hour wr, hr.nd wr, hr.nc wr, hr.na wr, e, hr.broken wr, k_X11_outside, c_X11_dishIs, e_X11_dishIs_0, e_X11_dishIs_5, e_X11_dishIs_14, e_X11_dishIs_87, e_X11_dishIs_96, e_X11_dishIs_103, c_X11_noDish, e_X11_noDish_0, e_X11_noDish_14]
          · simp (disch := omega) only [q_470, q_up_far, q_row_row, q_row_self, q_row_ne, q_up_ne, q_up_eq, q_rowup, ud_eq, ud_ne, q_add_id, q_sub_id, q_mul_id, q_w_eq, q_rem_n, q_div_n, ↓reduceIte, leT, leF, ltT, ltF, eqT, eqF, true_or, or_true, false_or, or_false, true_and, and_true, false_and, and_false, or_self, and_self, Option.bind_some, hp.m0, hp.m6, hs.k470, hs.k474, hG, e, k_X12_in, c_X12_dishIs, e_X12_dishIs_0, e_X12_dishIs_5, e_X12_dishIs_14, e_X12_dishIs_17, e_X12_dishIs_23, e_X12_dishIs_34, e_X12_dishIs_51, c_X12_isDish, e_X12_isDish_0, e_X12_isDish_13, Int.reduceMul, Int.reduceAdd]
        · refine ⟨1, h, h, ?_, ?_, hi, fun k hk => ⟨rfl, rfl⟩⟩
          · simp (disch := omega) only [q_470, q_up_far, q_row_row, q_row_self, q_row_ne, q_up_ne, q_up_eq, q_rowup, ud_eq, ud_ne, q_add_id, q_sub_id, q_mul_id, q_w_eq, q_rem_n, q_div_n, ↓reduceIte, leT, leF, ltT, ltF, eqT, eqF, true_or, or_true, false_or, or_false, true_and, and_true, false_and, and_false, or_self, and_self, Option.bind_some, ew, hp.w4 iw, hp.w5 iw, hp.w6 iw, hp.w7 iw, hp.w8 iw, hp.dish iw, hp.craft iw, hp.ask iw, hp.t6, hs.rains iw, hs.dishes iw, hs.crafts iw, hs.asks iw, hs.k468, hr.hour wr, hr.nd wr, hr.nc wr, hr.na wr, e, hr.broken wr, k_X11_outside, c_X11_dishIs, e_X11_dishIs_0, e_X11_dishIs_5, e_X11_dishIs_14, e_X11_dishIs_87, e_X11_dishIs_96, e_X11_dishIs_103, c_X11_noDish, e_X11_noDish_0, e_X11_noDish_14]
          · simp (disch := omega) only [q_470, q_up_far, q_row_row, q_row_self, q_row_ne, q_up_ne, q_up_eq, q_rowup, ud_eq, ud_ne, q_add_id, q_sub_id, q_mul_id, q_w_eq, q_rem_n, q_div_n, ↓reduceIte, leT, leF, ltT, ltF, eqT, eqF, true_or, or_true, false_or, or_false, true_and, and_true, false_and, and_false, or_self, and_self, Option.bind_some, hp.m0, hp.m6, hs.k470, hs.k474, hG, e, k_X12_in, c_X12_dishIs, e_X12_dishIs_0, e_X12_dishIs_5, e_X12_dishIs_14, e_X12_dishIs_17, e_X12_dishIs_23, e_X12_dishIs_34, e_X12_dishIs_51, c_X12_isDish, e_X12_isDish_0, e_X12_isDish_13, Int.reduceMul, Int.reduceAdd]
      · refine ⟨rF G d (G 3).toNat, h, h, ?_, ?_, hi, fun k hk => ⟨rfl, rfl⟩⟩
        · simp (disch := omega) only [q_470, q_up_far, q_row_row, q_row_self, q_row_ne, q_up_ne, q_up_eq, q_rowup, ud_eq, ud_ne, q_add_id, q_sub_id, q_mul_id, q_w_eq, q_rem_n, q_div_n, ↓reduceIte, leT, leF, ltT, ltF, eqT, eqF, true_or, or_true, false_or, or_false, true_and, and_true, false_and, and_false, or_self, and_self, Option.bind_some, ew, hp.w4 iw, hp.w5 iw, hp.w6 iw, hp.w7 iw, hp.w8 iw, hp.dish iw, hp.craft iw, hp.ask iw, hp.t6, hs.rains iw, hs.dishes iw, hs.crafts iw, hs.asks iw, hs.k468, hr.hour wr, hr.nd wr, hr.nc wr, hr.na wr, k_runningOn hs hp iw hr wr wf.uq, k_X11_outside, c_X11_dishIs, e_X11_dishIs_0, e_X11_dishIs_5, e_X11_dishIs_14, e_X11_dishIs_87, e_X11_dishIs_96, e_X11_dishIs_103, c_X11_noDish, e_X11_noDish_0, e_X11_noDish_14]
        · simp (disch := omega) only [q_470, q_up_far, q_row_row, q_row_self, q_row_ne, q_up_ne, q_up_eq, q_rowup, ud_eq, ud_ne, q_add_id, q_sub_id, q_mul_id, q_w_eq, q_rem_n, q_div_n, ↓reduceIte, leT, leF, ltT, ltF, eqT, eqF, true_or, or_true, false_or, or_false, true_and, and_true, false_and, and_false, or_self, and_self, Option.bind_some, hp.m0, hp.m6, hs.k470, hs.k474, hG, r_running hp.m0 hs.k470 hG wr, k_X12_in, c_X12_dishIs, e_X12_dishIs_0, e_X12_dishIs_5, e_X12_dishIs_14, e_X12_dishIs_17, e_X12_dishIs_23, e_X12_dishIs_34, e_X12_dishIs_51, c_X12_isDish, e_X12_isDish_0, e_X12_isDish_13]
    · have v3 : k < 0 ∨ 4 < k := by omega
      refine ⟨-1000001, (q_up h 468 0 (q_add (h 468 0) 1)), q_up (q_up h 468 0 (q_add (h 468 0) 1)) 474 0 (q_add (h 474 0) 1), ?_, ?_, hi.find 0 (by decide) (by decide), fun k hk => ⟨by rw [q_up_far (by omega), q_up_far (by omega)], by rw [q_up_far (by omega)]⟩⟩
      · simp (disch := omega) only [q_470, q_up_far, q_row_row, q_row_self, q_row_ne, q_up_ne, q_up_eq, q_rowup, ud_eq, ud_ne, q_add_id, q_sub_id, q_mul_id, q_w_eq, q_rem_n, q_div_n, ↓reduceIte, leT, leF, ltT, ltF, eqT, eqF, true_or, or_true, false_or, or_false, true_and, and_true, false_and, and_false, or_self, and_self, Option.bind_some, ew, hp.w4 iw, hp.w5 iw, hp.w6 iw, hp.w7 iw, hp.w8 iw, hp.dish iw, hp.craft iw, hp.ask iw, hp.t6, hs.rains iw, hs.dishes iw, hs.crafts iw, hs.asks iw, hs.k468, hr.hour wr, hr.nd wr, hr.nc wr, hr.na wr, k_X11_outside, k_f0 hp.t6 hs.k468, c_X11_dishIs, e_X11_dishIs_0, e_X11_dishIs_5, e_X11_dishIs_14, e_X11_dishIs_87, e_X11_dishIs_96, e_X11_dishIs_103, c_X11_noDish, e_X11_noDish_0, e_X11_noDish_14]
      · simp (disch := omega) only [q_470, q_up_far, q_row_row, q_row_self, q_row_ne, q_up_ne, q_up_eq, q_rowup, ud_eq, ud_ne, q_add_id, q_sub_id, q_mul_id, q_w_eq, q_rem_n, q_div_n, ↓reduceIte, leT, leF, ltT, ltF, eqT, eqF, true_or, or_true, false_or, or_false, true_and, and_true, false_and, and_false, or_self, and_self, Option.bind_some, hp.m0, hp.m6, hs.k470, hs.k474, hG, k_X12_in, k_g0 (sh := sh) (h := (q_up h 468 0 (q_add (h 468 0) 1))) (by rw [q_up_far (by decide)]; exact hp.m6) hs.k474, c_X12_dishIs, e_X12_dishIs_0, e_X12_dishIs_5, e_X12_dishIs_14, e_X12_dishIs_17, e_X12_dishIs_23, e_X12_dishIs_34, e_X12_dishIs_51, c_X12_isDish, e_X12_isDish_0, e_X12_isDish_13]
  · refine ⟨-1000001, (q_up h 468 0 (q_add (h 468 0) 1)), q_up (q_up h 468 0 (q_add (h 468 0) 1)) 474 0 (q_add (h 474 0) 1), ?_, ?_, hi.find 0 (by decide) (by decide), fun k hk => ⟨by rw [q_up_far (by omega), q_up_far (by omega)], by rw [q_up_far (by omega)]⟩⟩
    · simp (disch := omega) only [q_470, q_up_far, q_row_row, q_row_self, q_row_ne, q_up_ne, q_up_eq, q_rowup, ud_eq, ud_ne, q_add_id, q_sub_id, q_mul_id, q_w_eq, q_rem_n, q_div_n, ↓reduceIte, leT, leF, ltT, ltF, eqT, eqF, true_or, or_true, false_or, or_false, true_and, and_true, false_and, and_false, or_self, and_self, Option.bind_some, ew, hp.w4 iw, hp.w5 iw, hp.w6 iw, hp.w7 iw, hp.w8 iw, hp.dish iw, hp.craft iw, hp.ask iw, hp.t6, hs.rains iw, hs.dishes iw, hs.crafts iw, hs.asks iw, hs.k468, hr.hour wr, hr.nd wr, hr.nc wr, hr.na wr, k_X11_outside, k_f0 hp.t6 hs.k468, c_X11_dishIs, e_X11_dishIs_0, e_X11_dishIs_5, e_X11_dishIs_14, e_X11_dishIs_87, e_X11_dishIs_96, e_X11_dishIs_103, c_X11_noDish, e_X11_noDish_0, e_X11_noDish_14]
    · simp (disch := omega) only [q_470, q_up_far, q_row_row, q_row_self, q_row_ne, q_up_ne, q_up_eq, q_rowup, ud_eq, ud_ne, q_add_id, q_sub_id, q_mul_id, q_w_eq, q_rem_n, q_div_n, ↓reduceIte, leT, leF, ltT, ltF, eqT, eqF, true_or, or_true, false_or, or_false, true_and, and_true, false_and, and_false, or_self, and_self, Option.bind_some, hp.m0, hp.m6, hs.k470, hs.k474, hG, k_X12_in, k_g0 (sh := sh) (h := (q_up h 468 0 (q_add (h 468 0) 1))) (by rw [q_up_far (by decide)]; exact hp.m6) hs.k474, c_X12_dishIs, e_X12_dishIs_0, e_X12_dishIs_5, e_X12_dishIs_14, e_X12_dishIs_17, e_X12_dishIs_23, e_X12_dishIs_34, e_X12_dishIs_51, c_X12_isDish, e_X12_isDish_0, e_X12_isDish_13]
