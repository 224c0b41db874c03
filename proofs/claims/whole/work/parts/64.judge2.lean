theorem st_judge (s : Int) : Step 128 218 [(0, s)] := by
  intro sh h hs ho hi
  obtain ⟨w, G, hw1, iw, ew, hG, hp, hr, wf, hh⟩ := hi.opn
  have wr := wf.1
  have u0 := wr.hour; have u1 := wr.nd; have u2 := wr.nc; have u3 := wr.na
  by_cases v1 : 0 ≤ s ∧ s < 4
  · obtain ⟨s1, s2, s3, s4, s5, s6⟩ := hi.2.2.2.2.2.2.2.1 s (by omega) (by omega)
    by_cases v2 : h 475 s = 0
    · refine ⟨-1000006, (q_up h 468 5 (q_add (h 468 5) 1)), q_up (q_up h 468 5 (q_add (h 468 5) 1)) 474 5 (q_add (h 474 5) 1), ?_, ?_, hi.find 5 (by decide) (by decide), fun k hk => ⟨by rw [q_up_far (by omega), q_up_far (by omega)], by rw [q_up_far (by omega)]⟩⟩
      · simp (disch := omega) only [q_470, q_up_far, q_row_row, q_row_self, q_row_ne, q_up_ne, q_up_eq, q_rowup, ud_eq, ud_ne, q_add_id, q_sub_id, q_mul_id, q_w_eq, q_rem_n, q_div_n, ↓reduceIte, leT, leF, ltT, ltF, eqT, eqF, true_or, or_true, false_or, or_false, true_and, and_true, false_and, and_false, or_self, and_self, Option.bind_some, ew, hp.w4 iw, hp.w5 iw, hp.w6 iw, hp.w7 iw, hp.w8 iw, hp.dish iw, hp.craft iw, hp.ask iw, hp.t6, hs.rains iw, hs.dishes iw, hs.crafts iw, hs.asks iw, hs.k468, hr.hour wr, hr.nd wr, hr.nc wr, hr.na wr, k_X11_outside, k_f5 hp.t6 hs.k468, s1, v2, hp.t5, hp.sheet, hs.k459, c_X11_judge, e_X11_judge_0, e_X11_judge_4, e_X11_judge_13, e_X11_judge_25, e_X11_judge_35, c_X11_noSheet, e_X11_noSheet_0, e_X11_noSheet_6, c_X7_isMissing, e_X7_isMissing_0, e_X7_isMissing_12]
      · simp (disch := omega) only [q_470, q_up_far, q_row_row, q_row_self, q_row_ne, q_up_ne, q_up_eq, q_rowup, ud_eq, ud_ne, q_add_id, q_sub_id, q_mul_id, q_w_eq, q_rem_n, q_div_n, ↓reduceIte, leT, leF, ltT, ltF, eqT, eqF, true_or, or_true, false_or, or_false, true_and, and_true, false_and, and_false, or_self, and_self, Option.bind_some, hp.m0, hp.m6, hs.k470, hs.k474, hG, k_X12_in, k_g5 (sh := sh) (h := (q_up h 468 5 (q_add (h 468 5) 1))) (by rw [q_up_far (by decide)]; exact hp.m6) hs.k474, v2, hp.m7, hs.k475, c_X12_judge, e_X12_judge_0, e_X12_judge_4, e_X12_judge_13, e_X12_judge_29, c_X12_isSheet, e_X12_isSheet_0, e_X12_isSheet_6]
    · obtain ⟨n, en⟩ : ∃ n, h 476 s = n := ⟨_, rfl⟩
      rw [en] at s2 s4 s5
      obtain ⟨N, eN⟩ : ∃ N : Int → Int, (fun i => h 477 (24 * s + i)) = N := ⟨_, rfl⟩
      have Ni : ∀ i, h 477 (24 * s + i) = N i := fun i => by rw [← eN]
      obtain ⟨h1, c1, f1, l1⟩ := k_lookW (sh := sh) (but := -1) hs iw wf hp hr
      have hp1 := f1.ptr hp
      have hr1 := f1.rel iw wr hr
      have lk := lk_ok wr (-1)
      have wb := wtW_b wr lk
      obtain ⟨m, em⟩ : ∃ m, lkm G (-1) = m := ⟨_, rfl⟩
      obtain ⟨A, eA⟩ : ∃ A, lkA G (-1) = A := ⟨_, rfl⟩
      rw [em, eA] at l1 lk wb
      have m0 := lk.1; have m5 := lk.2.1
      have l10 := l1.1
      have ew1 : h1 0 0 = w := by rw [f1 0 0 (by omega)]; exact ew
      have fs0 : h1 (460 + 2 * s) 1 = n := by rw [f1 _ _ (by omega)]; exact s2
      have fs2 : h1 (460 + 2 * s) 2 = 461 + 2 * s := hp1.nums s v1.1 v1.2
      have fsN : ∀ i, 0 ≤ i → i < 24 → h1 (461 + 2 * s) i = N i := fun i i0 i1 => by rw [f1 _ _ (by omega), s6 i i0 i1, Ni]
      have t3 := hp.t3; have t31 := hp1.t3
      have ln := hs.nums s v1.1 v1.2
      -- what the reference does once it has looked
      have rl : ∀ g : Int → Int → Int, Ptr g → g 470 = G → (∀ k, 475 ≤ k → k ≤ 477 → g k = h k) → ∃ g', q_Cc 203 [(22, 469), (0, -1)] (sh, g) = some ((9, 0), (sh, g')) ∧ FQ g g' ∧ PR g' G m A ∧ (∀ k, 475 ≤ k → k ≤ 477 → g' k = h k) ∧ q_Cc 218 [(22, 469), (0, s)] (sh, g) = q_L 218 35 [(22, 469), (0, s), (9, 0), (9, 0), (9, 0), (9, 0), (9, 0)] [] (sh, g') := by
        intro g hpg hGg fg
        obtain ⟨g', q1, f2, p1⟩ := r_lookW (sh := sh) (but := -1) hs wf hpg hGg
        rw [em, eA] at p1
        refine ⟨g', q1, f2, p1, fun k k0 k1 => ?_, ?_⟩
        · rw [← fg k k0 k1]; funext y; exact f2 k y (by omega)
        · have e475 : g 475 = h 475 := fg 475 (by decide) (by decide)
          have m7 := hpg.m7
          simp (disch := omega) only [q_470, q_up_far, q_row_row, q_row_self, q_row_ne, q_up_ne, q_up_eq, q_rowup, ud_eq, ud_ne, q_add_id, q_sub_id, q_mul_id, q_w_eq, q_rem_n, q_div_n, ↓reduceIte, leT, leF, ltT, ltF, eqT, eqF, true_or, or_true, false_or, or_false, true_and, and_true, false_and, and_false, or_self, and_self, Option.bind_some, e475, m7, hs.k475, q1, k_X12_in, c_X12_judge, e_X12_judge_0, e_X12_judge_4, c_X12_isSheet, e_X12_isSheet_0, e_X12_isSheet_6]
      have cl : q_Cc 128 [(21, 0), (0, s)] (sh, h) = q_L 128 48 [(21, 0), (0, s), (17, 460 + 2 * s), (9, 0)] [] (sh, h1) := by
        simp (disch := omega) only [q_470, q_up_far, q_row_row, q_row_self, q_row_ne, q_up_ne, q_up_eq, q_rowup, ud_eq, ud_ne, q_add_id, q_sub_id, q_mul_id, q_w_eq, q_rem_n, q_div_n, ↓reduceIte, leT, leF, ltT, ltF, eqT, eqF, true_or, or_true, false_or, or_false, true_and, and_true, false_and, and_false, or_self, and_self, Option.bind_some, ew, hp.w4 iw, hp.w5 iw, hp.w6 iw, hp.w7 iw, hp.w8 iw, hp.dish iw, hp.craft iw, hp.ask iw, hp.t6, hs.rains iw, hs.dishes iw, hs.crafts iw, hs.asks iw, hs.k468, hr.hour wr, hr.nd wr, hr.nc wr, hr.na wr, s1, t3, c1, hp.t5, hp.sheet, hs.k459, k_X11_outside, c_X11_judge, e_X11_judge_0, e_X11_judge_4, e_X11_judge_25, c_X11_noSheet, e_X11_noSheet_0, e_X11_noSheet_6, c_X7_isMissing, e_X7_isMissing_0, e_X7_isMissing_12]
      by_cases v3 : n = m
      · subst v3
        by_cases v4 : ∀ i, 0 ≤ i → i < n → -1 ≤ N i ∧ N i < G 1
        · obtain ⟨h2, c2, f2⟩ := k_weightRow (sh := sh) (r := 461 + 2 * s) hs iw wf lk wb hp1 hr1 l1 (by omega) ln (fun i i0 i1 => ⟨fsN i i0 (by omega), v4 i i0 i1⟩)
          have ff := f1.trans f2
          have hp2 := ff.ptr hp
          have hG2 : h2 470 = G := by rw [← hG]; funext y; exact ff 470 y (by omega)
          obtain ⟨g, -, k1, p1, fg, rr⟩ := rl h2 hp2 hG2 (fun k k0 k1 => by funext y; exact ff k y (by omega))
          have hpg := p1.1
          have hGg := p1.2.1
          have hmg := p1.2.2.1
          obtain ⟨X, q3, hX⟩ := r_findFree (sh := sh) hpg.m0 hpg.m26 hs.k470 hs.k486 hGg wf
          have k2 : FR g (q_row g 486 X) := fun x y hn => by rw [q_row_ne (by omega)]
          have tail : ∃ g', q_L 218 35 [(22, 469), (0, s), (9, 0), (9, 0), (9, 0), (9, 0), (9, 0)] [] (sh, g) = some ((0, (jdN G A (wtW G A) N n.toNat).1), (sh, g')) ∧ FQ g g' := by
            have := lp (fun k (x : q_V) => q_L 218 57 [(22, 469), (0, s), (0, k), x, (9, 0), (9, 0), (9, 0)] [] (sh, g)) (fun k x => True) (fun r => ∃ g', r = some ((0, (jdN G A (wtW G A) N n.toNat).1), (sh, g')) ∧ FQ g g') n ?_ ?_ 0 (9, 0) (by omega) m0 trivial
            · obtain ⟨g', q4, q5⟩ := this
              refine ⟨g', ?_, q5⟩
              rw [← q4]
              have e476 : g 476 s = n := by rw [fg 476 (by decide) (by decide)]; exact en
              rw [e_X12_judge_35]
              simp (disch := omega) only [q_470, q_up_far, q_row_row, q_row_self, q_row_ne, q_up_ne, q_up_eq, q_rowup, ud_eq, ud_ne, q_add_id, q_sub_id, q_mul_id, q_w_eq, q_rem_n, q_div_n, ↓reduceIte, leT, leF, ltT, ltF, eqT, eqF, true_or, or_true, false_or, or_false, true_and, and_true, false_and, and_false, or_self, and_self, Option.bind_some, e476, hmg, hpg.m8, hs.k476]
            · intro k x k0 k1 _
              left
              refine ⟨(0, N k), ?_, trivial⟩
              have e477 : g 477 (24 * s + k) = N k := by rw [fg 477 (by decide) (by decide)]; exact Ni k
              have vk := v4 k k0 k1
              rw [e_X12_judge_57]
              by_cases z : N k = -1
              · simp (disch := omega) only [q_470, q_up_far, q_row_row, q_row_self, q_row_ne, q_up_ne, q_up_eq, q_rowup, ud_eq, ud_ne, q_add_id, q_sub_id, q_mul_id, q_w_eq, q_rem_n, q_div_n, ↓reduceIte, leT, leF, ltT, ltF, eqT, eqF, true_or, or_true, false_or, or_false, true_and, and_true, false_and, and_false, or_self, and_self, Option.bind_some, hmg, z, e477, hpg.m9, hs.k477, e_X12_judge_97]
              · simp (disch := omega) only [q_470, q_up_far, q_row_row, q_row_self, q_row_ne, q_up_ne, q_up_eq, q_rowup, ud_eq, ud_ne, q_add_id, q_sub_id, q_mul_id, q_w_eq, q_rem_n, q_div_n, ↓reduceIte, leT, leF, ltT, ltF, eqT, eqF, true_or, or_true, false_or, or_false, true_and, and_true, false_and, and_false, or_self, and_self, Option.bind_some, hmg, e477, hpg.m9, hs.k477, hpg.m0, hs.k470, hGg, k_X12_in, e_X12_judge_87, e_X12_judge_97, c_X12_isDish, e_X12_isDish_0, e_X12_isDish_13]
            · intro x _
              obtain ⟨g', q6, q7⟩ := r_weightRow (sh := sh) (x4 := (9, 0)) (x5 := (9, 0)) (x6 := (9, 0)) hs wf lk (p1.fr k2) v1.1 v1.2 (N := N) (fun i i0 i1 => ⟨by rw [q_row_ne (by decide), fg 477 (by decide) (by decide)]; exact Ni i, v4 i i0 i1⟩) (fun d d0 d1 => by rw [q_row_self]; exact hX d d0 d1)
              refine ⟨g', ?_, (k2.trans q7).fq⟩
              show q_L 218 57 [(22, 469), (0, s), (0, n), x, (9, 0), (9, 0), (9, 0)] [] (sh, g) = _
              rw [← q6, e_X12_judge_57]
              simp (disch := omega) only [q_470, q_up_far, q_row_row, q_row_self, q_row_ne, q_up_ne, q_up_eq, q_rowup, ud_eq, ud_ne, q_add_id, q_sub_id, q_mul_id, q_w_eq, q_rem_n, q_div_n, ↓reduceIte, leT, leF, ltT, ltF, eqT, eqF, true_or, or_true, false_or, or_false, true_and, and_true, false_and, and_false, or_self, and_self, Option.bind_some, hmg, q3, e_X12_judge_107]
          obtain ⟨g', q4, k3⟩ := tail
          refine ⟨(jdN G A (wtW G A) N n.toNat).1, h2, g', ?_, rr.trans q4, hi.pq ff (k1.trans k3)⟩
          rw [cl]
          have := lp (fun k (_ : Unit) => q_L 128 72 [(21, 0), (0, s), (17, 460 + 2 * s), (0, k)] [] (sh, h1)) (fun k x => True) (fun r => r = some ((0, (jdN G A (wtW G A) N n.toNat).1), (sh, h2))) n ?_ ?_ 0 () (by omega) m0 trivial
          · rw [← this, e_X11_judge_48]
            simp (disch := omega) only [q_470, q_up_far, q_row_row, q_row_self, q_row_ne, q_up_ne, q_up_eq, q_rowup, ud_eq, ud_ne, q_add_id, q_sub_id, q_mul_id, q_w_eq, q_rem_n, q_div_n, ↓reduceIte, leT, leF, ltT, ltF, eqT, eqF, true_or, or_true, false_or, or_false, true_and, and_true, false_and, and_false, or_self, and_self, Option.bind_some, t31, fs0, l10]
          · intro k _ k0 k1 _
            left
            refine ⟨(), ?_, trivial⟩
            have vk := v4 k k0 k1
            have fk := fsN k k0 (by omega)
            rw [e_X11_judge_72]
            simp (disch := omega) only [q_470, q_up_far, q_row_row, q_row_self, q_row_ne, q_up_ne, q_up_eq, q_rowup, ud_eq, ud_ne, q_add_id, q_sub_id, q_mul_id, q_w_eq, q_rem_n, q_div_n, ↓reduceIte, leT, leF, ltT, ltF, eqT, eqF, true_or, or_true, false_or, or_false, true_and, and_true, false_and, and_false, or_self, and_self, Option.bind_some, fs0, fs2, fk, ln, ew1, hr1.nd wr, k_X11_outside, e_X11_judge_99]
          · intro _ _
            show q_L 128 72 [(21, 0), (0, s), (17, 460 + 2 * s), (0, n)] [] (sh, h1) = _
            rw [e_X11_judge_72]
            simp (disch := omega) only [q_470, q_up_far, q_row_row, q_row_self, q_row_ne, q_up_ne, q_up_eq, q_rowup, ud_eq, ud_ne, q_add_id, q_sub_id, q_mul_id, q_w_eq, q_rem_n, q_div_n, ↓reduceIte, leT, leF, ltT, ltF, eqT, eqF, true_or, or_true, false_or, or_false, true_and, and_true, false_and, and_false, or_self, and_self, Option.bind_some, fs0, fs2, t31, ew1, c2, e_X11_judge_130]
        · have hq1 := hp1.up (k := 468) (j := 0) (v := q_add (h1 468 0) 1) (by rfl)
          have hG1 : (q_up h1 468 0 (q_add (h1 468 0) 1)) 470 = G := by rw [q_up_far (by decide), ← hG]; funext y; exact f1 470 y (by omega)
          obtain ⟨g, -, k1, p1, fg, rr⟩ := rl _ hq1 hG1 (fun k k0 k1 => by rw [q_up_far (by omega)]; funext y; exact f1 k y (by omega))
          have hpg := p1.1
          have hGg := p1.2.1
          have hmg := p1.2.2.1
          refine ⟨-1000001, q_up h1 468 0 (q_add (h1 468 0) 1), q_up g 474 0 (q_add (g 474 0) 1), ?_, ?_, hi.pqf 0 (by decide) (by decide) f1 k1⟩
          · rw [cl]
            have := lp (fun k (_ : Unit) => q_L 128 72 [(21, 0), (0, s), (17, 460 + 2 * s), (0, k)] [] (sh, h1)) (fun k x => ∀ i, 0 ≤ i → i < k → -1 ≤ N i ∧ N i < G 1) (fun r => r = some ((0, -1000001), (sh, q_up h1 468 0 (q_add (h1 468 0) 1)))) n ?_ ?_ 0 () (by omega) m0 (fun i a b => by omega)
            · rw [← this, e_X11_judge_48]
              simp (disch := omega) only [q_470, q_up_far, q_row_row, q_row_self, q_row_ne, q_up_ne, q_up_eq, q_rowup, ud_eq, ud_ne, q_add_id, q_sub_id, q_mul_id, q_w_eq, q_rem_n, q_div_n, ↓reduceIte, leT, leF, ltT, ltF, eqT, eqF, true_or, or_true, false_or, or_false, true_and, and_true, false_and, and_false, or_self, and_self, Option.bind_some, t31, fs0, l10]
            · intro k _ k0 k1 hI
              have fk := fsN k k0 (by omega)
              by_cases z : -1 ≤ N k ∧ N k < G 1
              · left
                refine ⟨(), ?_, fun i i0 i1 => ?_⟩
                · rw [e_X11_judge_72]
                  simp (disch := omega) only [q_470, q_up_far, q_row_row, q_row_self, q_row_ne, q_up_ne, q_up_eq, q_rowup, ud_eq, ud_ne, q_add_id, q_sub_id, q_mul_id, q_w_eq, q_rem_n, q_div_n, ↓reduceIte, leT, leF, ltT, ltF, eqT, eqF, true_or, or_true, false_or, or_false, true_and, and_true, false_and, and_false, or_self, and_self, Option.bind_some, fs0, fs2, fk, ln, ew1, hr1.nd wr, k_X11_outside, e_X11_judge_99]
                · by_cases e : i = k
                  · rw [e]; exact z
                  · exact hI i i0 (by omega)
              · right
                show q_L 128 72 [(21, 0), (0, s), (17, 460 + 2 * s), (0, k)] [] (sh, h1) = _
                rw [e_X11_judge_72]
                simp (disch := omega) only [q_470, q_up_far, q_row_row, q_row_self, q_row_ne, q_up_ne, q_up_eq, q_rowup, ud_eq, ud_ne, q_add_id, q_sub_id, q_mul_id, q_w_eq, q_rem_n, q_div_n, ↓reduceIte, leT, leF, ltT, ltF, eqT, eqF, true_or, or_true, false_or, or_false, true_and, and_true, false_and, and_false, or_self, and_self, Option.bind_some, fs0, fs2, fk, ln, ew1, hr1.nd wr, k_X11_outside, k_f0 hp1.t6 hs.k468, e_X11_judge_99, e_X11_judge_108]
            · intro _ hI
              exact (v4 hI).elim
          · rw [rr]
            have := lp (fun k (x : q_V) => q_L 218 57 [(22, 469), (0, s), (0, k), x, (9, 0), (9, 0), (9, 0)] [] (sh, g)) (fun k x => ∀ i, 0 ≤ i → i < k → -1 ≤ N i ∧ N i < G 1) (fun r => r = some ((0, -1000001), (sh, q_up g 474 0 (q_add (g 474 0) 1)))) n ?_ ?_ 0 (9, 0) (by omega) m0 (fun i a b => by omega)
            · rw [← this]
              have e476 : g 476 s = n := by rw [fg 476 (by decide) (by decide)]; exact en
              rw [e_X12_judge_35]
              simp (disch := omega) only [q_470, q_up_far, q_row_row, q_row_self, q_row_ne, q_up_ne, q_up_eq, q_rowup, ud_eq, ud_ne, q_add_id, q_sub_id, q_mul_id, q_w_eq, q_rem_n, q_div_n, ↓reduceIte, leT, leF, ltT, ltF, eqT, eqF, true_or, or_true, false_or, or_false, true_and, and_true, false_and, and_false, or_self, and_self, Option.bind_some, e476, hmg, hpg.m8, hs.k476]
            · intro k x k0 k1 hI
              have e477 : g 477 (24 * s + k) = N k := by rw [fg 477 (by decide) (by decide)]; exact Ni k
              by_cases z : -1 ≤ N k ∧ N k < G 1
              · left
                refine ⟨(0, N k), ?_, fun i i0 i1 => ?_⟩
                · rw [e_X12_judge_57]
                  by_cases z2 : N k = -1
                  · simp (disch := omega) only [q_470, q_up_far, q_row_row, q_row_self, q_row_ne, q_up_ne, q_up_eq, q_rowup, ud_eq, ud_ne, q_add_id, q_sub_id, q_mul_id, q_w_eq, q_rem_n, q_div_n, ↓reduceIte, leT, leF, ltT, ltF, eqT, eqF, true_or, or_true, false_or, or_false, true_and, and_true, false_and, and_false, or_self, and_self, Option.bind_some, hmg, z2, e477, hpg.m9, hs.k477, e_X12_judge_97]
                  · simp (disch := omega) only [q_470, q_up_far, q_row_row, q_row_self, q_row_ne, q_up_ne, q_up_eq, q_rowup, ud_eq, ud_ne, q_add_id, q_sub_id, q_mul_id, q_w_eq, q_rem_n, q_div_n, ↓reduceIte, leT, leF, ltT, ltF, eqT, eqF, true_or, or_true, false_or, or_false, true_and, and_true, false_and, and_false, or_self, and_self, Option.bind_some, hmg, e477, hpg.m9, hs.k477, hpg.m0, hs.k470, hGg, k_X12_in, e_X12_judge_87, e_X12_judge_97, c_X12_isDish, e_X12_isDish_0, e_X12_isDish_13]
                · by_cases e : i = k
                  · rw [e]; exact z
                  · exact hI i i0 (by omega)
              · right
                show q_L 218 57 [(22, 469), (0, s), (0, k), x, (9, 0), (9, 0), (9, 0)] [] (sh, g) = _
                rw [e_X12_judge_57]
                simp (disch := omega) only [q_470, q_up_far, q_row_row, q_row_self, q_row_ne, q_up_ne, q_up_eq, q_rowup, ud_eq, ud_ne, q_add_id, q_sub_id, q_mul_id, q_w_eq, q_rem_n, q_div_n, ↓reduceIte, leT, leF, ltT, ltF, eqT, eqF, true_or, or_true, false_or, or_false, true_and, and_true, false_and, and_false, or_self, and_self, Option.bind_some, hmg, e477, hpg.m9, hs.k477, hpg.m0, hs.k470, hGg, k_X12_in, k_g0 hpg.m6 hs.k474, e_X12_judge_87, e_X12_judge_96, c_X12_isDish, e_X12_isDish_0, e_X12_isDish_13]
            · intro x hI
              exact (v4 hI).elim
      · have hq1 := hp1.up (k := 468) (j := 6) (v := q_add (h1 468 6) 1) (by rfl)
        have hG1 : (q_up h1 468 6 (q_add (h1 468 6) 1)) 470 = G := by rw [q_up_far (by decide), ← hG]; funext y; exact f1 470 y (by omega)
        obtain ⟨g, -, k1, p1, fg, rr⟩ := rl _ hq1 hG1 (fun k k0 k1 => by rw [q_up_far (by omega)]; funext y; exact f1 k y (by omega))
        have hpg := p1.1
        have hmg := p1.2.2.1
        have e476 : g 476 s = n := by rw [fg 476 (by decide) (by decide)]; exact en
        refine ⟨-1000007, q_up h1 468 6 (q_add (h1 468 6) 1), q_up g 474 6 (q_add (g 474 6) 1), ?_, ?_, hi.pqf 6 (by decide) (by decide) f1 k1⟩
        · rw [cl, e_X11_judge_48]
          simp (disch := omega) only [q_470, q_up_far, q_row_row, q_row_self, q_row_ne, q_up_ne, q_up_eq, q_rowup, ud_eq, ud_ne, q_add_id, q_sub_id, q_mul_id, q_w_eq, q_rem_n, q_div_n, ↓reduceIte, leT, leF, ltT, ltF, eqT, eqF, true_or, or_true, false_or, or_false, true_and, and_true, false_and, and_false, or_self, and_self, Option.bind_some, t31, fs0, l10, k_f6 hp1.t6 hs.k468, e_X11_judge_69]
        · rw [rr, e_X12_judge_35]
          simp (disch := omega) only [q_470, q_up_far, q_row_row, q_row_self, q_row_ne, q_up_ne, q_up_eq, q_rowup, ud_eq, ud_ne, q_add_id, q_sub_id, q_mul_id, q_w_eq, q_rem_n, q_div_n, ↓reduceIte, leT, leF, ltT, ltF, eqT, eqF, true_or, or_true, false_or, or_false, true_and, and_true, false_and, and_false, or_self, and_self, Option.bind_some, e476, hmg, hpg.m8, hs.k476, k_g6 hpg.m6 hs.k474, e_X12_judge_54]
  · refine ⟨-1000001, (q_up h 468 0 (q_add (h 468 0) 1)), q_up (q_up h 468 0 (q_add (h 468 0) 1)) 474 0 (q_add (h 474 0) 1), ?_, ?_, hi.find 0 (by decide) (by decide), fun k hk => ⟨by rw [q_up_far (by omega), q_up_far (by omega)], by rw [q_up_far (by omega)]⟩⟩
    · simp (disch := omega) only [q_470, q_up_far, q_row_row, q_row_self, q_row_ne, q_up_ne, q_up_eq, q_rowup, ud_eq, ud_ne, q_add_id, q_sub_id, q_mul_id, q_w_eq, q_rem_n, q_div_n, ↓reduceIte, leT, leF, ltT, ltF, eqT, eqF, true_or, or_true, false_or, or_false, true_and, and_true, false_and, and_false, or_self, and_self, Option.bind_some, ew, hp.w4 iw, hp.w5 iw, hp.w6 iw, hp.w7 iw, hp.w8 iw, hp.dish iw, hp.craft iw, hp.ask iw, hp.t6, hs.rains iw, hs.dishes iw, hs.crafts iw, hs.asks iw, hs.k468, hr.hour wr, hr.nd wr, hr.nc wr, hr.na wr, k_X11_outside, k_f0 hp.t6 hs.k468, c_X11_judge, e_X11_judge_0, e_X11_judge_4, e_X11_judge_13, c_X11_noSheet, e_X11_noSheet_0, e_X11_noSheet_6]
    · simp (disch := omega) only [q_470, q_up_far, q_row_row, q_row_self, q_row_ne, q_up_ne, q_up_eq, q_rowup, ud_eq, ud_ne, q_add_id, q_sub_id, q_mul_id, q_w_eq, q_rem_n, q_div_n, ↓reduceIte, leT, leF, ltT, ltF, eqT, eqF, true_or, or_true, false_or, or_false, true_and, and_true, false_and, and_false, or_self, and_self, Option.bind_some, hp.m0, hp.m6, hs.k470, hs.k474, hG, k_X12_in, k_g0 (sh := sh) (h := (q_up h 468 0 (q_add (h 468 0) 1))) (by rw [q_up_far (by decide)]; exact hp.m6) hs.k474, c_X12_judge, e_X12_judge_0, e_X12_judge_4, e_X12_judge_13, c_X12_isSheet, e_X12_isSheet_0, e_X12_isSheet_6]
