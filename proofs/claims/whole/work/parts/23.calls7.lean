/-- the reference carries numbers -/
theorem l_carry {sh : Int × (Int → Nat × Int)} {h : Int → Int → Int} {s f t o n : Int} (s0 : 0 ≤ s) (s1 : s < 4) (f0 : 0 ≤ f) (n0 : 0 ≤ n) (fn : f + n ≤ 24) (p9 : h 469 9 = 477) (p10 : h 469 10 = 478) (l9 : (sh.2 477).2 = 96) (l10 : (sh.2 478).2 = 24) (Q : q_R → Prop) (hQ : ∀ F : Int → Int, (∀ x, 0 ≤ x → x < n → F x = h 477 (24 * s + f + x)) → Q (q_L 249 156 [(22, 469), (0, s), (0, f), (0, t), (0, o), (0, n), (0, 0)] [] (sh, q_row h 478 F))) : ∀ (i : Int) (F : Int → Int), 0 ≤ i → i ≤ n → (∀ x, 0 ≤ x → x < i → F x = h 477 (24 * s + f + x)) → Q (q_L 249 119 [(22, 469), (0, s), (0, f), (0, t), (0, o), (0, n), (0, i)] [] (sh, q_row h 478 F)) := by
  refine lp (fun i F => q_L 249 119 [(22, 469), (0, s), (0, f), (0, t), (0, o), (0, n), (0, i)] [] (sh, q_row h 478 F)) (fun i F => ∀ x, 0 ≤ x → x < i → F x = h 477 (24 * s + f + x)) Q n ?_ ?_
  · intro i F i0 i1 hI
    refine Or.inl ⟨ud F i (h 477 (24 * s + f + i)), ?_, ?_⟩
    · rw [e_X12_copy_119]
      simp (disch := omega) only [q_470, q_up_far, q_row_row, q_row_self, q_row_ne, q_up_ne, q_up_eq, q_rowup, ud_eq, ud_ne, q_add_id, q_sub_id, q_mul_id, q_w_eq, q_rem_n, q_div_n, ↓reduceIte, leT, leF, ltT, ltF, eqT, eqF, true_or, or_true, false_or, or_false, true_and, and_true, false_and, and_false, or_self, and_self, Option.bind_some, p9, p10, l9, l10]
    · intro x x0 x1
      by_cases e : x = i
      · rw [ud_eq e, e]
      · rw [ud_ne e]; exact hI x x0 (by omega)
  · intro F hI
    have := hQ F hI
    show Q (q_L 249 119 _ _ _)
    rw [e_X12_copy_119]
    simp (disch := omega) only [q_470, q_up_far, q_row_row, q_row_self, q_row_ne, q_up_ne, q_up_eq, q_rowup, ud_eq, ud_ne, q_add_id, q_sub_id, q_mul_id, q_w_eq, q_rem_n, q_div_n, ↓reduceIte, leT, leF, ltT, ltF, eqT, eqF, true_or, or_true, false_or, or_false, true_and, and_true, false_and, and_false, or_self, and_self, Option.bind_some, ]
    exact this
theorem l_carry2 {sh : Int × (Int → Nat × Int)} {h : Int → Int → Int} {s f t o n : Int} (t0 : 0 ≤ t) (t1 : t < 4) (o0 : 0 ≤ o) (n0 : 0 ≤ n) (on : o + n ≤ 24) (p9 : h 469 9 = 477) (p10 : h 469 10 = 478) (l9 : (sh.2 477).2 = 96) (l10 : (sh.2 478).2 = 24) (F0 : Int → Int) : ∀ (i : Int) (F : Int → Int), 0 ≤ i → i ≤ n → (∀ x, F x = if 24 * t + o ≤ x ∧ x < 24 * t + o + i then h 478 (x - (24 * t + o)) else F0 x) → ∃ F' : Int → Int, q_L 249 156 [(22, 469), (0, s), (0, f), (0, t), (0, o), (0, n), (0, i)] [] (sh, q_row h 477 F) = some ((0, n), (sh, q_row h 477 F')) ∧ ∀ x, F' x = if 24 * t + o ≤ x ∧ x < 24 * t + o + n then h 478 (x - (24 * t + o)) else F0 x := by
  refine lp (fun i F => q_L 249 156 [(22, 469), (0, s), (0, f), (0, t), (0, o), (0, n), (0, i)] [] (sh, q_row h 477 F)) (fun i F => ∀ x, F x = if 24 * t + o ≤ x ∧ x < 24 * t + o + i then h 478 (x - (24 * t + o)) else F0 x) (fun r => ∃ F' : Int → Int, r = some ((0, n), (sh, q_row h 477 F')) ∧ ∀ x, F' x = if 24 * t + o ≤ x ∧ x < 24 * t + o + n then h 478 (x - (24 * t + o)) else F0 x) n ?_ ?_
  · intro i F i0 i1 hI
    refine Or.inl ⟨ud F (24 * t + o + i) (h 478 i), ?_, ?_⟩
    · rw [e_X12_copy_156]
      simp (disch := omega) only [q_470, q_up_far, q_row_row, q_row_self, q_row_ne, q_up_ne, q_up_eq, q_rowup, ud_eq, ud_ne, q_add_id, q_sub_id, q_mul_id, q_w_eq, q_rem_n, q_div_n, ↓reduceIte, leT, leF, ltT, ltF, eqT, eqF, true_or, or_true, false_or, or_false, true_and, and_true, false_and, and_false, or_self, and_self, Option.bind_some, p9, p10, l9, l10]
    · intro x
      by_cases e : x = 24 * t + o + i
      · rw [ud_eq e, if_pos (by omega), e]
        congr 1; omega
      · rw [ud_ne e, hI x]
        by_cases e2 : 24 * t + o ≤ x ∧ x < 24 * t + o + i
        · rw [if_pos e2, if_pos (by omega)]
        · rw [if_neg e2, if_neg (by omega)]
  · intro F hI
    refine ⟨F, ?_, hI⟩
    show q_L 249 156 _ _ _ = _
    rw [e_X12_copy_156]
    simp (disch := omega) only [q_470, q_up_far, q_row_row, q_row_self, q_row_ne, q_up_ne, q_up_eq, q_rowup, ud_eq, ud_ne, q_add_id, q_sub_id, q_mul_id, q_w_eq, q_rem_n, q_div_n, ↓reduceIte, leT, leF, ltT, ltF, eqT, eqF, true_or, or_true, false_or, or_false, true_and, and_true, false_and, and_false, or_self, and_self, Option.bind_some, ]
theorem st_copy (s f t o n : Int) (hn : q_i32 n) : Step 147 249 [(0, s), (0, f), (0, t), (0, o), (0, n)] := by
  intro sh h hs ho hi
  obtain ⟨w, G, hw1, iw, ew, hG, hp, hr, wf, hh⟩ := hi.opn
  have wr := wf.1
  have u0 := wr.hour; have u1 := wr.nd; have u2 := wr.nc; have u3 := wr.na
  obtain ⟨hn1, hn2⟩ := hn
  by_cases v1 : (0 ≤ s ∧ s < 4) ∧ 0 ≤ t ∧ t < 4
  · obtain ⟨s1, s2, s3, s4, s5, s6⟩ := hi.2.2.2.2.2.2.2.1 s (by omega) (by omega)
    obtain ⟨t1, t2, t3, t4, t5, t6⟩ := hi.2.2.2.2.2.2.2.1 t (by omega) (by omega)
    by_cases v2 : h 475 s = 0
    · refine ⟨-1000006, (q_up h 468 5 (q_add (h 468 5) 1)), q_up (q_up h 468 5 (q_add (h 468 5) 1)) 474 5 (q_add (h 474 5) 1), ?_, ?_, hi.find 5 (by decide) (by decide), fun k hk => ⟨by rw [q_up_far (by omega), q_up_far (by omega)], by rw [q_up_far (by omega)]⟩⟩
      · simp (disch := omega) only [q_470, q_up_far, q_row_row, q_row_self, q_row_ne, q_up_ne, q_up_eq, q_rowup, ud_eq, ud_ne, q_add_id, q_sub_id, q_mul_id, q_w_eq, q_rem_n, q_div_n, ↓reduceIte, leT, leF, ltT, ltF, eqT, eqF, true_or, or_true, false_or, or_false, true_and, and_true, false_and, and_false, or_self, and_self, Option.bind_some, ew, hp.w4 iw, hp.w5 iw, hp.w6 iw, hp.w7 iw, hp.w8 iw, hp.dish iw, hp.craft iw, hp.ask iw, hp.t6, hs.rains iw, hs.dishes iw, hs.crafts iw, hs.asks iw, hs.k468, hr.hour wr, hr.nd wr, hr.nc wr, hr.na wr, k_X11_outside, k_f5 hp.t6 hs.k468, s1, v2, hp.t5, hp.sheet, hs.k459, c_X11_copy, e_X11_copy_0, e_X11_copy_4, e_X11_copy_11, e_X11_copy_14, e_X11_copy_20, e_X11_copy_42, e_X11_copy_50, e_X11_copy_53, e_X11_copy_60, e_X11_copy_80, e_X11_copy_89, e_X11_copy_101, e_X11_copy_104, e_X11_copy_110, e_X11_copy_129, c_X11_noSheet, e_X11_noSheet_0, e_X11_noSheet_6, c_X7_isMissing, e_X7_isMissing_0, e_X7_isMissing_12]
      · simp (disch := omega) only [q_470, q_up_far, q_row_row, q_row_self, q_row_ne, q_up_ne, q_up_eq, q_rowup, ud_eq, ud_ne, q_add_id, q_sub_id, q_mul_id, q_w_eq, q_rem_n, q_div_n, ↓reduceIte, leT, leF, ltT, ltF, eqT, eqF, true_or, or_true, false_or, or_false, true_and, and_true, false_and, and_false, or_self, and_self, Option.bind_some, hp.m0, hp.m6, hs.k470, hs.k474, hG, k_X12_in, k_g5 (sh := sh) (h := (q_up h 468 5 (q_add (h 468 5) 1))) (by rw [q_up_far (by decide)]; exact hp.m6) hs.k474, v2, hp.m7, hs.k475, c_X12_copy, e_X12_copy_0, e_X12_copy_4, e_X12_copy_11, e_X12_copy_14, e_X12_copy_20, e_X12_copy_39, e_X12_copy_45, c_X12_isSheet, e_X12_isSheet_0, e_X12_isSheet_6]
    · by_cases v3 : h 475 t = 0
      · refine ⟨-1000006, (q_up h 468 5 (q_add (h 468 5) 1)), q_up (q_up h 468 5 (q_add (h 468 5) 1)) 474 5 (q_add (h 474 5) 1), ?_, ?_, hi.find 5 (by decide) (by decide), fun k hk => ⟨by rw [q_up_far (by omega), q_up_far (by omega)], by rw [q_up_far (by omega)]⟩⟩
        · simp (disch := omega) only [q_470, q_up_far, q_row_row, q_row_self, q_row_ne, q_up_ne, q_up_eq, q_rowup, ud_eq, ud_ne, q_add_id, q_sub_id, q_mul_id, q_w_eq, q_rem_n, q_div_n, ↓reduceIte, leT, leF, ltT, ltF, eqT, eqF, true_or, or_true, false_or, or_false, true_and, and_true, false_and, and_false, or_self, and_self, Option.bind_some, ew, hp.w4 iw, hp.w5 iw, hp.w6 iw, hp.w7 iw, hp.w8 iw, hp.dish iw, hp.craft iw, hp.ask iw, hp.t6, hs.rains iw, hs.dishes iw, hs.crafts iw, hs.asks iw, hs.k468, hr.hour wr, hr.nd wr, hr.nc wr, hr.na wr, k_X11_outside, k_f5 hp.t6 hs.k468, s1, t1, v3, hp.t5, hp.sheet, hs.k459, c_X11_copy, e_X11_copy_0, e_X11_copy_4, e_X11_copy_11, e_X11_copy_14, e_X11_copy_20, e_X11_copy_42, e_X11_copy_50, e_X11_copy_53, e_X11_copy_60, e_X11_copy_80, e_X11_copy_89, e_X11_copy_101, e_X11_copy_104, e_X11_copy_110, e_X11_copy_129, c_X11_noSheet, e_X11_noSheet_0, e_X11_noSheet_6, c_X7_isMissing, e_X7_isMissing_0, e_X7_isMissing_12]
        · simp (disch := omega) only [q_470, q_up_far, q_row_row, q_row_self, q_row_ne, q_up_ne, q_up_eq, q_rowup, ud_eq, ud_ne, q_add_id, q_sub_id, q_mul_id, q_w_eq, q_rem_n, q_div_n, ↓reduceIte, leT, leF, ltT, ltF, eqT, eqF, true_or, or_true, false_or, or_false, true_and, and_true, false_and, and_false, or_self, and_self, Option.bind_some, hp.m0, hp.m6, hs.k470, hs.k474, hG, k_X12_in, k_g5 (sh := sh) (h := (q_up h 468 5 (q_add (h 468 5) 1))) (by rw [q_up_far (by decide)]; exact hp.m6) hs.k474, v3, hp.m7, hs.k475, c_X12_copy, e_X12_copy_0, e_X12_copy_4, e_X12_copy_11, e_X12_copy_14, e_X12_copy_20, e_X12_copy_39, e_X12_copy_45, c_X12_isSheet, e_X12_isSheet_0, e_X12_isSheet_6]
      · by_cases v4 : h 475 s = h 475 t
        · by_cases v5 : 0 ≤ f ∧ 0 ≤ n ∧ f + n ≤ h 476 s ∧ 0 ≤ o ∧ o + n ≤ h 476 t
          · obtain ⟨hc, ehc⟩ : ∃ hc, q_cp h (461 + 2 * s) f (461 + 2 * t) o n = hc := ⟨_, rfl⟩
            have hfc : ∀ k, k ≠ 461 + 2 * t → hc k = h k := fun k hk => by rw [← ehc, q_cp_far hk]
            have key : ∃ F F2 : Int → Int, q_Cc 249 [(22, 469), (0, s), (0, f), (0, t), (0, o), (0, n)] (sh, hc) = some ((0, n), (sh, q_row (q_row hc 478 F) 477 F2)) ∧ ∀ x, F2 x = if 24 * t + o ≤ x ∧ x < 24 * t + o + n then h 477 (24 * s + f + (x - (24 * t + o))) else h 477 x := by
              have := l_carry (sh := sh) (h := hc) (s := s) (f := f) (t := t) (o := o) (n := n) (by omega) (by omega) (by omega) (by omega) (by omega) (by rw [hfc _ (by omega)]; exact hp.m9) (by rw [hfc _ (by omega)]; exact hp.m10) hs.k477 hs.k478 (fun r => ∃ F F2 : Int → Int, r = some ((0, n), (sh, q_row (q_row hc 478 F) 477 F2)) ∧ ∀ x, F2 x = if 24 * t + o ≤ x ∧ x < 24 * t + o + n then h 477 (24 * s + f + (x - (24 * t + o))) else h 477 x) ?_ 0 (hc 478) (by omega) (by omega) (fun x a b => by omega)
              · rw [q_row_id] at this
                obtain ⟨F, F2, e1, e2⟩ := this
                refine ⟨F, F2, ?_, e2⟩
                rw [← e1]
                simp (disch := omega) only [q_470, q_up_far, q_row_row, q_row_self, q_row_ne, q_up_ne, q_up_eq, q_rowup, ud_eq, ud_ne, q_add_id, q_sub_id, q_mul_id, q_w_eq, q_rem_n, q_div_n, ↓reduceIte, leT, leF, ltT, ltF, eqT, eqF, true_or, or_true, false_or, or_false, true_and, and_true, false_and, and_false, or_self, and_self, Option.bind_some, hfc, v4, hp.m7, hp.m8, hs.k475, hs.k476, k_X12_in, c_X12_copy, e_X12_copy_0, e_X12_copy_4, e_X12_copy_11, c_X12_isSheet, e_X12_isSheet_0, e_X12_isSheet_6]
              · intro F hF
                obtain ⟨F2, e1, e2⟩ := l_carry2 (sh := sh) (h := q_row hc 478 F) (s := s) (f := f) (t := t) (o := o) (n := n) (by omega) (by omega) (by omega) (by omega) (by omega) (by rw [q_row_ne (by omega), hfc _ (by omega)]; exact hp.m9) (by rw [q_row_ne (by omega), hfc _ (by omega)]; exact hp.m10) hs.k477 hs.k478 (h 477) 0 (q_row hc 478 F 477) (by omega) (by omega) (fun x => by rw [if_neg (by omega), q_row_ne (by omega), hfc _ (by omega)])
                rw [q_row_id] at e1
                refine ⟨F, F2, e1, ?_⟩
                intro x
                rw [e2 x]
                by_cases z : 24 * t + o ≤ x ∧ x < 24 * t + o + n
                · rw [if_pos z, if_pos z, q_row_self, hF _ (by omega) (by omega), hfc _ (by omega)]
                · rw [if_neg z, if_neg z]
            obtain ⟨F, F2, k1, k2⟩ := key
            refine ⟨n, hc, _, ?_, k1, hi.sheets ?_ ?_ ?_, ?_⟩
            · rw [← ehc]
              simp (disch := omega) only [q_470, q_up_far, q_row_row, q_row_self, q_row_ne, q_up_ne, q_up_eq, q_rowup, ud_eq, ud_ne, q_add_id, q_sub_id, q_mul_id, q_w_eq, q_rem_n, q_div_n, ↓reduceIte, leT, leF, ltT, ltF, eqT, eqF, true_or, or_true, false_or, or_false, true_and, and_true, false_and, and_false, or_self, and_self, Option.bind_some, ew, hp.w4 iw, hp.w5 iw, hp.w6 iw, hp.w7 iw, hp.w8 iw, hp.dish iw, hp.craft iw, hp.ask iw, hp.t6, hs.rains iw, hs.dishes iw, hs.crafts iw, hs.asks iw, hs.k468, hr.hour wr, hr.nd wr, hr.nc wr, hr.na wr, s1, s2, t1, t2, v4, hp.t5, hp.sheet, hp.nums, hs.k459, hs.nums, c_X11_copy, e_X11_copy_0, e_X11_copy_4, e_X11_copy_11, e_X11_copy_14, e_X11_copy_20, e_X11_copy_42, e_X11_copy_50, e_X11_copy_53, e_X11_copy_60, e_X11_copy_80, e_X11_copy_89, e_X11_copy_101, e_X11_copy_104, e_X11_copy_110, e_X11_copy_129, c_X11_noSheet, e_X11_noSheet_0, e_X11_noSheet_6, c_X7_isMissing, e_X7_isMissing_0, e_X7_isMissing_12, c_X7_hasRange, e_X7_hasRange_0, e_X7_hasRange_30, e_X7_hasRange_31, k_X11_outside]
            · have pc : Ptr hc := by rw [← ehc]; exact hp.cp (fun x => VP_nums (by omega) (by omega))
              exact (pc.row (fun j => VP_ref (by decide))).row (fun j => VP_ref (by decide))
            · intro k j hS h1 h2
              have h478 : k ≠ 478 := fun e => hS (by unfold Scr; omega)
              rw [q_row_ne (by omega), q_row_ne h478, hfc _ (by omega)]
            · intro u u0 u1
              obtain ⟨q1, q2, q3, q4, q5, q6⟩ := hi.2.2.2.2.2.2.2.1 u u0 u1
              rw [q_row_ne (by omega), q_row_ne (by omega), q_row_ne (by omega), q_row_ne (by omega), q_row_ne (by omega), q_row_ne (by omega), q_row_ne (by omega), q_row_ne (by omega), q_row_self, hfc (460 + 2 * u) (by omega), hfc 475 (by omega), hfc 476 (by omega)]
              refine ⟨q1, q2, q3, q4, q5, ?_⟩
              intro y y0 y1
              rw [k2]
              by_cases e : u = t
              · subst e
                rw [← ehc, q_cp_row, q_row_self]
                show (if o ≤ y ∧ y < o + n then h (461 + 2 * s) (f + (y - o)) else h (461 + 2 * u) y) = _
                by_cases z : o ≤ y ∧ y < o + n
                · rw [if_pos z, if_pos (by omega), s6 _ (by omega) (by omega)]
                  congr 1; omega
                · rw [if_neg z, if_neg (by omega)]
                  exact q6 y y0 y1
              · rw [hfc _ (by omega), if_neg (by omega)]
                exact q6 y y0 y1
            · intro k hk
              exact ⟨by rw [q_row_ne (by omega), q_row_ne (by omega), hfc _ (by omega)], hfc _ (by omega)⟩
          · by_cases a1 : f < 0 <;> by_cases a2 : n < 0 <;> by_cases a3 : o < 0 <;> by_cases a4 : h 476 s < n <;> by_cases a5 : h 476 t < n <;> by_cases a6 : h 476 s - n < f <;> by_cases a7 : h 476 t - n < o <;> first | (exfalso; omega) | skip
            all_goals
              refine ⟨-1000001, (q_up h 468 0 (q_add (h 468 0) 1)), q_up (q_up h 468 0 (q_add (h 468 0) 1)) 474 0 (q_add (h 474 0) 1), ?_, ?_, hi.find 0 (by decide) (by decide), fun k hk => ⟨by rw [q_up_far (by omega), q_up_far (by omega)], by rw [q_up_far (by omega)]⟩⟩
              · simp (disch := omega) only [q_470, q_up_far, q_row_row, q_row_self, q_row_ne, q_up_ne, q_up_eq, q_rowup, ud_eq, ud_ne, q_add_id, q_sub_id, q_mul_id, q_w_eq, q_rem_n, q_div_n, ↓reduceIte, leT, leF, ltT, ltF, eqT, eqF, true_or, or_true, false_or, or_false, true_and, and_true, false_and, and_false, or_self, and_self, Option.bind_some, ew, hp.w4 iw, hp.w5 iw, hp.w6 iw, hp.w7 iw, hp.w8 iw, hp.dish iw, hp.craft iw, hp.ask iw, hp.t6, hs.rains iw, hs.dishes iw, hs.crafts iw, hs.asks iw, hs.k468, hr.hour wr, hr.nd wr, hr.nc wr, hr.na wr, k_X11_outside, k_f0 hp.t6 hs.k468, s1, s2, t1, t2, v4, hp.t5, hp.sheet, hs.k459, c_X11_copy, e_X11_copy_0, e_X11_copy_4, e_X11_copy_11, e_X11_copy_14, e_X11_copy_20, e_X11_copy_42, e_X11_copy_50, e_X11_copy_53, e_X11_copy_60, e_X11_copy_80, e_X11_copy_89, e_X11_copy_101, e_X11_copy_104, e_X11_copy_110, e_X11_copy_129, c_X11_noSheet, e_X11_noSheet_0, e_X11_noSheet_6, c_X7_isMissing, e_X7_isMissing_0, e_X7_isMissing_12, c_X7_hasRange, e_X7_hasRange_0, e_X7_hasRange_30, e_X7_hasRange_31]
              · simp (disch := omega) only [q_470, q_up_far, q_row_row, q_row_self, q_row_ne, q_up_ne, q_up_eq, q_rowup, ud_eq, ud_ne, q_add_id, q_sub_id, q_mul_id, q_w_eq, q_rem_n, q_div_n, ↓reduceIte, leT, leF, ltT, ltF, eqT, eqF, true_or, or_true, false_or, or_false, true_and, and_true, false_and, and_false, or_self, and_self, Option.bind_some, hp.m0, hp.m6, hs.k470, hs.k474, hG, k_X12_in, k_g0 (sh := sh) (h := (q_up h 468 0 (q_add (h 468 0) 1))) (by rw [q_up_far (by decide)]; exact hp.m6) hs.k474, v4, hp.m7, hp.m8, hs.k475, hs.k476, c_X12_copy, e_X12_copy_0, e_X12_copy_4, e_X12_copy_11, e_X12_copy_109, e_X12_copy_115, c_X12_isSheet, e_X12_isSheet_0, e_X12_isSheet_6]
        · refine ⟨-1000003, (q_up h 468 2 (q_add (h 468 2) 1)), q_up (q_up h 468 2 (q_add (h 468 2) 1)) 474 2 (q_add (h 474 2) 1), ?_, ?_, hi.find 2 (by decide) (by decide), fun k hk => ⟨by rw [q_up_far (by omega), q_up_far (by omega)], by rw [q_up_far (by omega)]⟩⟩
          · simp (disch := omega) only [q_470, q_up_far, q_row_row, q_row_self, q_row_ne, q_up_ne, q_up_eq, q_rowup, ud_eq, ud_ne, q_add_id, q_sub_id, q_mul_id, q_w_eq, q_rem_n, q_div_n, ↓reduceIte, leT, leF, ltT, ltF, eqT, eqF, true_or, or_true, false_or, or_false, true_and, and_true, false_and, and_false, or_self, and_self, Option.bind_some, ew, hp.w4 iw, hp.w5 iw, hp.w6 iw, hp.w7 iw, hp.w8 iw, hp.dish iw, hp.craft iw, hp.ask iw, hp.t6, hs.rains iw, hs.dishes iw, hs.crafts iw, hs.asks iw, hs.k468, hr.hour wr, hr.nd wr, hr.nc wr, hr.na wr, k_X11_outside, k_f2 hp.t6 hs.k468, s1, t1, hp.t5, hp.sheet, hs.k459, c_X11_copy, e_X11_copy_0, e_X11_copy_4, e_X11_copy_11, e_X11_copy_14, e_X11_copy_20, e_X11_copy_42, e_X11_copy_50, e_X11_copy_53, e_X11_copy_60, e_X11_copy_80, e_X11_copy_89, e_X11_copy_101, e_X11_copy_104, e_X11_copy_110, e_X11_copy_129, c_X11_noSheet, e_X11_noSheet_0, e_X11_noSheet_6, c_X7_isMissing, e_X7_isMissing_0, e_X7_isMissing_12]
          · simp (disch := omega) only [q_470, q_up_far, q_row_row, q_row_self, q_row_ne, q_up_ne, q_up_eq, q_rowup, ud_eq, ud_ne, q_add_id, q_sub_id, q_mul_id, q_w_eq, q_rem_n, q_div_n, ↓reduceIte, leT, leF, ltT, ltF, eqT, eqF, true_or, or_true, false_or, or_false, true_and, and_true, false_and, and_false, or_self, and_self, Option.bind_some, hp.m0, hp.m6, hs.k470, hs.k474, hG, k_X12_in, k_g2 (sh := sh) (h := (q_up h 468 2 (q_add (h 468 2) 1))) (by rw [q_up_far (by decide)]; exact hp.m6) hs.k474, hp.m7, hs.k475, c_X12_copy, e_X12_copy_0, e_X12_copy_4, e_X12_copy_11, e_X12_copy_67, c_X12_isSheet, e_X12_isSheet_0, e_X12_isSheet_6]
  · by_cases a1 : 0 ≤ s ∧ s < 4 <;> by_cases a2 : 0 ≤ t ∧ t < 4 <;> first | (exfalso; omega) | skip
    all_goals
      refine ⟨-1000001, (q_up h 468 0 (q_add (h 468 0) 1)), q_up (q_up h 468 0 (q_add (h 468 0) 1)) 474 0 (q_add (h 474 0) 1), ?_, ?_, hi.find 0 (by decide) (by decide), fun k hk => ⟨by rw [q_up_far (by omega), q_up_far (by omega)], by rw [q_up_far (by omega)]⟩⟩
      · simp (disch := omega) only [q_470, q_up_far, q_row_row, q_row_self, q_row_ne, q_up_ne, q_up_eq, q_rowup, ud_eq, ud_ne, q_add_id, q_sub_id, q_mul_id, q_w_eq, q_rem_n, q_div_n, ↓reduceIte, leT, leF, ltT, ltF, eqT, eqF, true_or, or_true, false_or, or_false, true_and, and_true, false_and, and_false, or_self, and_self, Option.bind_some, ew, hp.w4 iw, hp.w5 iw, hp.w6 iw, hp.w7 iw, hp.w8 iw, hp.dish iw, hp.craft iw, hp.ask iw, hp.t6, hs.rains iw, hs.dishes iw, hs.crafts iw, hs.asks iw, hs.k468, hr.hour wr, hr.nd wr, hr.nc wr, hr.na wr, k_X11_outside, k_f0 hp.t6 hs.k468, c_X11_copy, e_X11_copy_0, e_X11_copy_4, e_X11_copy_11, e_X11_copy_14, e_X11_copy_20, c_X11_noSheet, e_X11_noSheet_0, e_X11_noSheet_6]
      · simp (disch := omega) only [q_470, q_up_far, q_row_row, q_row_self, q_row_ne, q_up_ne, q_up_eq, q_rowup, ud_eq, ud_ne, q_add_id, q_sub_id, q_mul_id, q_w_eq, q_rem_n, q_div_n, ↓reduceIte, leT, leF, ltT, ltF, eqT, eqF, true_or, or_true, false_or, or_false, true_and, and_true, false_and, and_false, or_self, and_self, Option.bind_some, hp.m0, hp.m6, hs.k470, hs.k474, hG, k_X12_in, k_g0 (sh := sh) (h := (q_up h 468 0 (q_add (h 468 0) 1))) (by rw [q_up_far (by decide)]; exact hp.m6) hs.k474, c_X12_copy, e_X12_copy_0, e_X12_copy_4, e_X12_copy_11, e_X12_copy_14, e_X12_copy_20, c_X12_isSheet, e_X12_isSheet_0, e_X12_isSheet_6]
theorem q_add_z {x : Int} (h1 : -2147483648 ≤ x) (h2 : x < 2147483648) : q_add 0 x = x := by rw [q_add_id (by omega) (by omega)]; omega
theorem st_status (k : Int) : Step 152 255 [(0, k)] := by
  intro sh h hs ho hi
  obtain ⟨w, G, hw1, iw, ew, hG, hp, hr, wf, hh⟩ := hi.opn
  have wr := wf.1
  have u0 := wr.hour; have u1 := wr.nd; have u2 := wr.nc; have u3 := wr.na
  by_cases v1 : -1 ≤ k ∧ k ≤ 6
  · have f0 := hi.2.2.2.2.2.2.1 0 (by decide) (by decide)
    have f1 := hi.2.2.2.2.2.2.1 1 (by decide) (by decide)
    have f2 := hi.2.2.2.2.2.2.1 2 (by decide) (by decide)
    have f3 := hi.2.2.2.2.2.2.1 3 (by decide) (by decide)
    have f4 := hi.2.2.2.2.2.2.1 4 (by decide) (by decide)
    have f5 := hi.2.2.2.2.2.2.1 5 (by decide) (by decide)
    have f6 := hi.2.2.2.2.2.2.1 6 (by decide) (by decide)
    have : k = -1 ∨ k = 0 ∨ k = 1 ∨ k = 2 ∨ k = 3 ∨ k = 4 ∨ k = 5 ∨ k = 6 := by omega
    rcases this with rfl | rfl | rfl | rfl | rfl | rfl | rfl | rfl
    · refine ⟨q_add (q_add (q_add (q_add (q_add (q_add (h 474 0) (h 474 1)) (h 474 2)) (h 474 3)) (h 474 4)) (h 474 5)) (h 474 6), h, h, ?_, ?_, hi, fun k hk => ⟨rfl, rfl⟩⟩
      · simp (disch := omega) only [q_470, q_up_far, q_row_row, q_row_self, q_row_ne, q_up_ne, q_up_eq, q_rowup, ud_eq, ud_ne, q_add_id, q_sub_id, q_mul_id, q_w_eq, q_rem_n, q_div_n, ↓reduceIte, leT, leF, ltT, ltF, eqT, eqF, true_or, or_true, false_or, or_false, true_and, and_true, false_and, and_false, or_self, and_self, Option.bind_some, ew, hp.w4 iw, hp.w5 iw, hp.w6 iw, hp.w7 iw, hp.w8 iw, hp.dish iw, hp.craft iw, hp.ask iw, hp.t6, hs.rains iw, hs.dishes iw, hs.crafts iw, hs.asks iw, hs.k468, hr.hour wr, hr.nd wr, hr.nc wr, hr.na wr, f0.1, f1.1, f2.1, f3.1, f4.1, f5.1, f6.1, Int.zero_add, k_X11_outside, c_X11_status, e_X11_status_0, e_X11_status_7, e_X11_status_16, e_X11_status_32, Int.reduceAdd]
      · simp (disch := omega) only [q_470, q_up_far, q_row_row, q_row_self, q_row_ne, q_up_ne, q_up_eq, q_rowup, ud_eq, ud_ne, q_add_id, q_sub_id, q_mul_id, q_w_eq, q_rem_n, q_div_n, ↓reduceIte, leT, leF, ltT, ltF, eqT, eqF, true_or, or_true, false_or, or_false, true_and, and_true, false_and, and_false, or_self, and_self, Option.bind_some, hp.m0, hp.m6, hs.k470, hs.k474, hG, k_X12_in, Int.zero_add, c_X12_status, e_X12_status_0, e_X12_status_7, e_X12_status_16, e_X12_status_21, e_X12_status_38, e_X12_status_48, Int.reduceAdd]
    · refine ⟨h 474 0, h, h, ?_, ?_, hi, fun k hk => ⟨rfl, rfl⟩⟩
      · simp (disch := omega) only [q_470, q_up_far, q_row_row, q_row_self, q_row_ne, q_up_ne, q_up_eq, q_rowup, ud_eq, ud_ne, q_add_id, q_sub_id, q_mul_id, q_w_eq, q_rem_n, q_div_n, ↓reduceIte, leT, leF, ltT, ltF, eqT, eqF, true_or, or_true, false_or, or_false, true_and, and_true, false_and, and_false, or_self, and_self, Option.bind_some, ew, hp.w4 iw, hp.w5 iw, hp.w6 iw, hp.w7 iw, hp.w8 iw, hp.dish iw, hp.craft iw, hp.ask iw, hp.t6, hs.rains iw, hs.dishes iw, hs.crafts iw, hs.asks iw, hs.k468, hr.hour wr, hr.nd wr, hr.nc wr, hr.na wr, f0.1, k_X11_outside, c_X11_status, e_X11_status_0, e_X11_status_7, e_X11_status_16, e_X11_status_32]
      · simp (disch := omega) only [q_470, q_up_far, q_row_row, q_row_self, q_row_ne, q_up_ne, q_up_eq, q_rowup, ud_eq, ud_ne, q_add_id, q_sub_id, q_mul_id, q_w_eq, q_rem_n, q_div_n, ↓reduceIte, leT, leF, ltT, ltF, eqT, eqF, true_or, or_true, false_or, or_false, true_and, and_true, false_and, and_false, or_self, and_self, Option.bind_some, hp.m0, hp.m6, hs.k470, hs.k474, hG, k_X12_in, Int.zero_add, Int.add_zero, c_X12_status, e_X12_status_0, e_X12_status_7, e_X12_status_16, e_X12_status_21, e_X12_status_38, e_X12_status_48, Int.reduceAdd]
    · refine ⟨h 474 1, h, h, ?_, ?_, hi, fun k hk => ⟨rfl, rfl⟩⟩
      · simp (disch := omega) only [q_470, q_up_far, q_row_row, q_row_self, q_row_ne, q_up_ne, q_up_eq, q_rowup, ud_eq, ud_ne, q_add_id, q_sub_id, q_mul_id, q_w_eq, q_rem_n, q_div_n, ↓reduceIte, leT, leF, ltT, ltF, eqT, eqF, true_or, or_true, false_or, or_false, true_and, and_true, false_and, and_false, or_self, and_self, Option.bind_some, ew, hp.w4 iw, hp.w5 iw, hp.w6 iw, hp.w7 iw, hp.w8 iw, hp.dish iw, hp.craft iw, hp.ask iw, hp.t6, hs.rains iw, hs.dishes iw, hs.crafts iw, hs.asks iw, hs.k468, hr.hour wr, hr.nd wr, hr.nc wr, hr.na wr, f1.1, k_X11_outside, c_X11_status, e_X11_status_0, e_X11_status_7, e_X11_status_16, e_X11_status_32]
      · simp (disch := omega) only [q_470, q_up_far, q_row_row, q_row_self, q_row_ne, q_up_ne, q_up_eq, q_rowup, ud_eq, ud_ne, q_add_id, q_sub_id, q_mul_id, q_w_eq, q_rem_n, q_div_n, ↓reduceIte, leT, leF, ltT, ltF, eqT, eqF, true_or, or_true, false_or, or_false, true_and, and_true, false_and, and_false, or_self, and_self, Option.bind_some, hp.m0, hp.m6, hs.k470, hs.k474, hG, k_X12_in, Int.zero_add, Int.add_zero, c_X12_status, e_X12_status_0, e_X12_status_7, e_X12_status_16, e_X12_status_21, e_X12_status_38, e_X12_status_48, Int.reduceAdd]
    · refine ⟨h 474 2, h, h, ?_, ?_, hi, fun k hk => ⟨rfl, rfl⟩⟩
      · simp (disch := omega) only [q_470, q_up_far, q_row_row, q_row_self, q_row_ne, q_up_ne, q_up_eq, q_rowup, ud_eq, ud_ne, q_add_id, q_sub_id, q_mul_id, q_w_eq, q_rem_n, q_div_n, ↓reduceIte, leT, leF, ltT, ltF, eqT, eqF, true_or, or_true, false_or, or_false, true_and, and_true, false_and, and_false, or_self, and_self, Option.bind_some, ew, hp.w4 iw, hp.w5 iw, hp.w6 iw, hp.w7 iw, hp.w8 iw, hp.dish iw, hp.craft iw, hp.ask iw, hp.t6, hs.rains iw, hs.dishes iw, hs.crafts iw, hs.asks iw, hs.k468, hr.hour wr, hr.nd wr, hr.nc wr, hr.na wr, f2.1, k_X11_outside, c_X11_status, e_X11_status_0, e_X11_status_7, e_X11_status_16, e_X11_status_32]
      · simp (disch := omega) only [q_470, q_up_far, q_row_row, q_row_self, q_row_ne, q_up_ne, q_up_eq, q_rowup, ud_eq, ud_ne, q_add_id, q_sub_id, q_mul_id, q_w_eq, q_rem_n, q_div_n, ↓reduceIte, leT, leF, ltT, ltF, eqT, eqF, true_or, or_true, false_or, or_false, true_and, and_true, false_and, and_false, or_self, and_self, Option.bind_some, hp.m0, hp.m6, hs.k470, hs.k474, hG, k_X12_in, Int.zero_add, Int.add_zero, c_X12_status, e_X12_status_0, e_X12_status_7, e_X12_status_16, e_X12_status_21, e_X12_status_38, e_X12_status_48, Int.reduceAdd]
    · refine ⟨h 474 3, h, h, ?_, ?_, hi, fun k hk => ⟨rfl, rfl⟩⟩
      · simp (disch := omega) only [q_470, q_up_far, q_row_row, q_row_self, q_row_ne, q_up_ne, q_up_eq, q_rowup, ud_eq, ud_ne, q_add_id, q_sub_id, q_mul_id, q_w_eq, q_rem_n, q_div_n, ↓reduceIte, leT, leF, ltT, ltF, eqT, eqF, true_or, or_true, false_or, or_false, true_and, and_true, false_and, and_false, or_self, and_self, Option.bind_some, ew, hp.w4 iw, hp.w5 iw, hp.w6 iw, hp.w7 iw, hp.w8 iw, hp.dish iw, hp.craft iw, hp.ask iw, hp.t6, hs.rains iw, hs.dishes iw, hs.crafts iw, hs.asks iw, hs.k468, hr.hour wr, hr.nd wr, hr.nc wr, hr.na wr, f3.1, k_X11_outside, c_X11_status, e_X11_status_0, e_X11_status_7, e_X11_status_16, e_X11_status_32]
      · simp (disch := omega) only [q_470, q_up_far, q_row_row, q_row_self, q_row_ne, q_up_ne, q_up_eq, q_rowup, ud_eq, ud_ne, q_add_id, q_sub_id, q_mul_id, q_w_eq, q_rem_n, q_div_n, ↓reduceIte, leT, leF, ltT, ltF, eqT, eqF, true_or, or_true, false_or, or_false, true_and, and_true, false_and, and_false, or_self, and_self, Option.bind_some, hp.m0, hp.m6, hs.k470, hs.k474, hG, k_X12_in, Int.zero_add, Int.add_zero, c_X12_status, e_X12_status_0, e_X12_status_7, e_X12_status_16, e_X12_status_21, e_X12_status_38, e_X12_status_48, Int.reduceAdd]
    · refine ⟨h 474 4, h, h, ?_, ?_, hi, fun k hk => ⟨rfl, rfl⟩⟩
      · simp (disch := omega) only [q_470, q_up_far, q_row_row, q_row_self, q_row_ne, q_up_ne, q_up_eq, q_rowup, ud_eq, ud_ne, q_add_id, q_sub_id, q_mul_id, q_w_eq, q_rem_n, q_div_n, ↓reduceIte, leT, leF, ltT, ltF, eqT, eqF, true_or, or_true, false_or, or_false, true_and, and_true, false_and, and_false, or_self, and_self, Option.bind_some, ew, hp.w4 iw, hp.w5 iw, hp.w6 iw, hp.w7 iw, hp.w8 iw, hp.dish iw, hp.craft iw, hp.ask iw, hp.t6, hs.rains iw, hs.dishes iw, hs.crafts iw, hs.asks iw, hs.k468, hr.hour wr, hr.nd wr, hr.nc wr, hr.na wr, f4.1, k_X11_outside, c_X11_status, e_X11_status_0, e_X11_status_7, e_X11_status_16, e_X11_status_32]
      · simp (disch := omega) only [q_470, q_up_far, q_row_row, q_row_self, q_row_ne, q_up_ne, q_up_eq, q_rowup, ud_eq, ud_ne, q_add_id, q_sub_id, q_mul_id, q_w_eq, q_rem_n, q_div_n, ↓reduceIte, leT, leF, ltT, ltF, eqT, eqF, true_or, or_true, false_or, or_false, true_and, and_true, false_and, and_false, or_self, and_self, Option.bind_some, hp.m0, hp.m6, hs.k470, hs.k474, hG, k_X12_in, Int.zero_add, Int.add_zero, c_X12_status, e_X12_status_0, e_X12_status_7, e_X12_status_16, e_X12_status_21, e_X12_status_38, e_X12_status_48, Int.reduceAdd]
    · refine ⟨h 474 5, h, h, ?_, ?_, hi, fun k hk => ⟨rfl, rfl⟩⟩
      · simp (disch := omega) only [q_470, q_up_far, q_row_row, q_row_self, q_row_ne, q_up_ne, q_up_eq, q_rowup, ud_eq, ud_ne, q_add_id, q_sub_id, q_mul_id, q_w_eq, q_rem_n, q_div_n, ↓reduceIte, leT, leF, ltT, ltF, eqT, eqF, true_or, or_true, false_or, or_false, true_and, and_true, false_and, and_false, or_self, and_self, Option.bind_some, ew, hp.w4 iw, hp.w5 iw, hp.w6 iw, hp.w7 iw, hp.w8 iw, hp.dish iw, hp.craft iw, hp.ask iw, hp.t6, hs.rains iw, hs.dishes iw, hs.crafts iw, hs.asks iw, hs.k468, hr.hour wr, hr.nd wr, hr.nc wr, hr.na wr, f5.1, k_X11_outside, c_X11_status, e_X11_status_0, e_X11_status_7, e_X11_status_16, e_X11_status_32]
      · simp (disch := omega) only [q_470, q_up_far, q_row_row, q_row_self, q_row_ne, q_up_ne, q_up_eq, q_rowup, ud_eq, ud_ne, q_add_id, q_sub_id, q_mul_id, q_w_eq, q_rem_n, q_div_n, ↓reduceIte, leT, leF, ltT, ltF, eqT, eqF, true_or, or_true, false_or, or_false, true_and, and_true, false_and, and_false, or_self, and_self, Option.bind_some, hp.m0, hp.m6, hs.k470, hs.k474, hG, k_X12_in, Int.zero_add, Int.add_zero, c_X12_status, e_X12_status_0, e_X12_status_7, e_X12_status_16, e_X12_status_21, e_X12_status_38, e_X12_status_48, Int.reduceAdd]
    · refine ⟨h 474 6, h, h, ?_, ?_, hi, fun k hk => ⟨rfl, rfl⟩⟩
      · simp (disch := omega) only [q_470, q_up_far, q_row_row, q_row_self, q_row_ne, q_up_ne, q_up_eq, q_rowup, ud_eq, ud_ne, q_add_id, q_sub_id, q_mul_id, q_w_eq, q_rem_n, q_div_n, ↓reduceIte, leT, leF, ltT, ltF, eqT, eqF, true_or, or_true, false_or, or_false, true_and, and_true, false_and, and_false, or_self, and_self, Option.bind_some, ew, hp.w4 iw, hp.w5 iw, hp.w6 iw, hp.w7 iw, hp.w8 iw, hp.dish iw, hp.craft iw, hp.ask iw, hp.t6, hs.rains iw, hs.dishes iw, hs.crafts iw, hs.asks iw, hs.k468, hr.hour wr, hr.nd wr, hr.nc wr, hr.na wr, f6.1, k_X11_outside, c_X11_status, e_X11_status_0, e_X11_status_7, e_X11_status_16, e_X11_status_32]
      · simp (disch := omega) only [q_470, q_up_far, q_row_row, q_row_self, q_row_ne, q_up_ne, q_up_eq, q_rowup, ud_eq, ud_ne, q_add_id, q_sub_id, q_mul_id, q_w_eq, q_rem_n, q_div_n, ↓reduceIte, leT, leF, ltT, ltF, eqT, eqF, true_or, or_true, false_or, or_false, true_and, and_true, false_and, and_false, or_self, and_self, Option.bind_some, hp.m0, hp.m6, hs.k470, hs.k474, hG, k_X12_in, Int.zero_add, Int.add_zero, c_X12_status, e_X12_status_0, e_X12_status_7, e_X12_status_16, e_X12_status_21, e_X12_status_38, e_X12_status_48, Int.reduceAdd]
  · refine ⟨-1000001, (q_up h 468 0 (q_add (h 468 0) 1)), q_up (q_up h 468 0 (q_add (h 468 0) 1)) 474 0 (q_add (h 474 0) 1), ?_, ?_, hi.find 0 (by decide) (by decide), fun k hk => ⟨by rw [q_up_far (by omega), q_up_far (by omega)], by rw [q_up_far (by omega)]⟩⟩
    · simp (disch := omega) only [q_470, q_up_far, q_row_row, q_row_self, q_row_ne, q_up_ne, q_up_eq, q_rowup, ud_eq, ud_ne, q_add_id, q_sub_id, q_mul_id, q_w_eq, q_rem_n, q_div_n, ↓reduceIte, leT, leF, ltT, ltF, eqT, eqF, true_or, or_true, false_or, or_false, true_and, and_true, false_and, and_false, or_self, and_self, Option.bind_some, ew, hp.w4 iw, hp.w5 iw, hp.w6 iw, hp.w7 iw, hp.w8 iw, hp.dish iw, hp.craft iw, hp.ask iw, hp.t6, hs.rains iw, hs.dishes iw, hs.crafts iw, hs.asks iw, hs.k468, hr.hour wr, hr.nd wr, hr.nc wr, hr.na wr, k_X11_outside, k_f0 hp.t6 hs.k468, c_X11_status, e_X11_status_0, e_X11_status_7, e_X11_status_16, e_X11_status_32]
    · simp (disch := omega) only [q_470, q_up_far, q_row_row, q_row_self, q_row_ne, q_up_ne, q_up_eq, q_rowup, ud_eq, ud_ne, q_add_id, q_sub_id, q_mul_id, q_w_eq, q_rem_n, q_div_n, ↓reduceIte, leT, leF, ltT, ltF, eqT, eqF, true_or, or_true, false_or, or_false, true_and, and_true, false_and, and_false, or_self, and_self, Option.bind_some, hp.m0, hp.m6, hs.k470, hs.k474, hG, k_X12_in, k_g0 (sh := sh) (h := (q_up h 468 0 (q_add (h 468 0) 1))) (by rw [q_up_far (by decide)]; exact hp.m6) hs.k474, c_X12_status, e_X12_status_0, e_X12_status_7, e_X12_status_16, e_X12_status_21, e_X12_status_38, e_X12_status_48]
theorem st_tear : Step 150 252 [] := by
  intro sh h hs ho hi
  obtain ⟨w, G, hw1, iw, ew, hG, hp, hr, wf, hh⟩ := hi.opn
  have wr := wf.1
  have u0 := wr.hour; have u1 := wr.nd; have u2 := wr.nc; have u3 := wr.na
  have iI := hi.2.2.2.2.1
  have key : Inv (q_up (q_up h 0 7 0) 469 3 0) := by
    obtain ⟨_, hr', hw', hh', _, iT, iF, iS, iL⟩ := hi
    have hf : ∀ k, k ≠ 0 → k ≠ 469 → q_up (q_up h 0 7 0) 469 3 0 k = h k := fun k a b => by rw [q_up_far b, q_up_far a]
    have e5 : q_up (q_up h 0 7 0) 469 3 0 469 5 = h 469 5 := by simp (disch := omega) only [q_470, q_up_far, q_row_row, q_row_self, q_row_ne, q_up_ne, q_up_eq, q_rowup, ud_eq, ud_ne, q_add_id, q_sub_id, q_mul_id, q_w_eq, q_rem_n, q_div_n, ↓reduceIte, leT, leF, ltT, ltF, eqT, eqF, true_or, or_true, false_or, or_false, true_and, and_true, false_and, and_false, or_self, and_self, Option.bind_some, ]
    refine ⟨(hp.up (by rfl)).up (VP_m (by omega)), ?_, ?_, ?_, ?_, ?_, ?_, ?_, ?_⟩
    · rw [hf 470 (by omega) (by omega)]
      exact hr'.frame hw'.1 (fun k k0 k1 => hf k (by omega) (by omega))
    · rw [hf 470 (by omega) (by omega)]; exact hw'
    · rw [hf 470 (by omega) (by omega)]; exact hh'
    · refine ⟨by simp (disch := omega) only [q_470, q_up_far, q_row_row, q_row_self, q_row_ne, q_up_ne, q_up_eq, q_rowup, ud_eq, ud_ne, q_add_id, q_sub_id, q_mul_id, q_w_eq, q_rem_n, q_div_n, ↓reduceIte, leT, leF, ltT, ltF, eqT, eqF, true_or, or_true, false_or, or_false, true_and, and_true, false_and, and_false, or_self, and_self, Option.bind_some, ], Or.inl (by simp (disch := omega) only [q_470, q_up_far, q_row_row, q_row_self, q_row_ne, q_up_ne, q_up_eq, q_rowup, ud_eq, ud_ne, q_add_id, q_sub_id, q_mul_id, q_w_eq, q_rem_n, q_div_n, ↓reduceIte, leT, leF, ltT, ltF, eqT, eqF, true_or, or_true, false_or, or_false, true_and, and_true, false_and, and_false, or_self, and_self, Option.bind_some, ])⟩
    · unfold InvT
      rw [hf 452 (by omega) (by omega), e5, hf 453 (by omega) (by omega), hf 473 (by omega) (by omega)]
      exact iT
    · intro j j0 j1
      rw [hf 468 (by omega) (by omega), hf 474 (by omega) (by omega)]
      exact iF j j0 j1
    · intro s s0 s1
      rw [hf (460 + 2 * s) (by omega) (by omega), hf (461 + 2 * s) (by omega) (by omega), hf 475 (by omega) (by omega), hf 476 (by omega) (by omega), hf 477 (by omega) (by omega)]
      exact iS s s0 s1
    · intro j j0 j1
      rw [hf 480 (by omega) (by omega)]
      exact iL j j0 j1
  obtain ⟨i1, i2⟩ := iI
  have e : h 0 7 = 0 ∨ h 0 7 = 1 := by rcases i2 with z | ⟨z, _⟩ <;> omega
  rw [i1] at e
  rcases e with e | e
  · refine ⟨0, q_up h 0 7 0, q_up (q_up h 0 7 0) 469 3 0, ?_, ?_, key, fun k hk => ⟨by simp (disch := omega) only [q_470, q_up_far, q_row_row, q_row_self, q_row_ne, q_up_ne, q_up_eq, q_rowup, ud_eq, ud_ne, q_add_id, q_sub_id, q_mul_id, q_w_eq, q_rem_n, q_div_n, ↓reduceIte, leT, leF, ltT, ltF, eqT, eqF, true_or, or_true, false_or, or_false, true_and, and_true, false_and, and_false, or_self, and_self, Option.bind_some, ], by simp (disch := omega) only [q_470, q_up_far, q_row_row, q_row_self, q_row_ne, q_up_ne, q_up_eq, q_rowup, ud_eq, ud_ne, q_add_id, q_sub_id, q_mul_id, q_w_eq, q_rem_n, q_div_n, ↓reduceIte, leT, leF, ltT, ltF, eqT, eqF, true_or, or_true, false_or, or_false, true_and, and_true, false_and, and_false, or_self, and_self, Option.bind_some, ]⟩⟩
    · simp (disch := omega) only [q_470, q_up_far, q_row_row, q_row_self, q_row_ne, q_up_ne, q_up_eq, q_rowup, ud_eq, ud_ne, q_add_id, q_sub_id, q_mul_id, q_w_eq, q_rem_n, q_div_n, ↓reduceIte, leT, leF, ltT, ltF, eqT, eqF, true_or, or_true, false_or, or_false, true_and, and_true, false_and, and_false, or_self, and_self, Option.bind_some, ew, hp.w4 iw, hp.w5 iw, hp.w6 iw, hp.w7 iw, hp.w8 iw, hp.dish iw, hp.craft iw, hp.ask iw, hp.t6, hs.rains iw, hs.dishes iw, hs.crafts iw, hs.asks iw, hs.k468, hr.hour wr, hr.nd wr, hr.nc wr, hr.na wr, i1, e, c_X11_tear, e_X11_tear_0, e_X11_tear_12]
    · simp (disch := omega) only [q_470, q_up_far, q_row_row, q_row_self, q_row_ne, q_up_ne, q_up_eq, q_rowup, ud_eq, ud_ne, q_add_id, q_sub_id, q_mul_id, q_w_eq, q_rem_n, q_div_n, ↓reduceIte, leT, leF, ltT, ltF, eqT, eqF, true_or, or_true, false_or, or_false, true_and, and_true, false_and, and_false, or_self, and_self, Option.bind_some, hp.m0, hp.m6, hs.k470, hs.k474, hG, e, c_X12_tear, e_X12_tear_0, e_X12_tear_12]
  · refine ⟨1, q_up h 0 7 0, q_up (q_up h 0 7 0) 469 3 0, ?_, ?_, key, fun k hk => ⟨by simp (disch := omega) only [q_470, q_up_far, q_row_row, q_row_self, q_row_ne, q_up_ne, q_up_eq, q_rowup, ud_eq, ud_ne, q_add_id, q_sub_id, q_mul_id, q_w_eq, q_rem_n, q_div_n, ↓reduceIte, leT, leF, ltT, ltF, eqT, eqF, true_or, or_true, false_or, or_false, true_and, and_true, false_and, and_false, or_self, and_self, Option.bind_some, ], by simp (disch := omega) only [q_470, q_up_far, q_row_row, q_row_self, q_row_ne, q_up_ne, q_up_eq, q_rowup, ud_eq, ud_ne, q_add_id, q_sub_id, q_mul_id, q_w_eq, q_rem_n, q_div_n, ↓reduceIte, leT, leF, ltT, ltF, eqT, eqF, true_or, or_true, false_or, or_false, true_and, and_true, false_and, and_false, or_self, and_self, Option.bind_some, ]⟩⟩
    · simp (disch := omega) only [q_470, q_up_far, q_row_row, q_row_self, q_row_ne, q_up_ne, q_up_eq, q_rowup, ud_eq, ud_ne, q_add_id, q_sub_id, q_mul_id, q_w_eq, q_rem_n, q_div_n, ↓reduceIte, leT, leF, ltT, ltF, eqT, eqF, true_or, or_true, false_or, or_false, true_and, and_true, false_and, and_false, or_self, and_self, Option.bind_some, ew, hp.w4 iw, hp.w5 iw, hp.w6 iw, hp.w7 iw, hp.w8 iw, hp.dish iw, hp.craft iw, hp.ask iw, hp.t6, hs.rains iw, hs.dishes iw, hs.crafts iw, hs.asks iw, hs.k468, hr.hour wr, hr.nd wr, hr.nc wr, hr.na wr, i1, e, c_X11_tear, e_X11_tear_0, e_X11_tear_12]
    · simp (disch := omega) only [q_470, q_up_far, q_row_row, q_row_self, q_row_ne, q_up_ne, q_up_eq, q_rowup, ud_eq, ud_ne, q_add_id, q_sub_id, q_mul_id, q_w_eq, q_rem_n, q_div_n, ↓reduceIte, leT, leF, ltT, ltF, eqT, eqF, true_or, or_true, false_or, or_false, true_and, and_true, false_and, and_false, or_self, and_self, Option.bind_some, hp.m0, hp.m6, hs.k470, hs.k474, hG, e, c_X12_tear, e_X12_tear_0, e_X12_tear_12]
