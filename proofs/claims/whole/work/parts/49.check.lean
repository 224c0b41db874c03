/-! records are checked -/
theorem goG_out {G : Int → Int} (wf : WF G) {y : Int} (hy : y < 0 ∨ 1354 ≤ y) : goG G y = G y := by
  obtain ⟨_, k, _⟩ := goB_keep wf
  unfold goG
  rw [ud_ne (by omega)]
  exact k y (by omega)
theorem goN_out {G : Int → Int} (wf : WF G) {y : Int} (hy : y < 0 ∨ 1354 ≤ y) : ∀ i : Nat, G 0 + i ≤ 3000 → goN G i y = G y := by
  intro i
  induction i with
  | zero => intro _; rfl
  | succ i ih =>
    intro hi
    obtain ⟨w1, _⟩ := goN_keep wf i (by omega)
    show goG (goN G i) y = G y
    rw [goG_out w1 hy]
    exact ih (by omega)
/-- k hours go as the row N says, and not one more (of n) -/
def chk (G : Int → Int) (N : Int → Int) (n k : Int) : Prop := 0 ≤ k ∧ k ≤ n ∧ (∀ i, 0 ≤ i → i < k → goS (goN G i.toNat) = N i) ∧ (k < n → goS (goN G k.toNat) ≠ N k)
theorem chk_one {G N : Int → Int} {n a b : Int} (ha : chk G N n a) (hb : chk G N n b) : a = b := by
  obtain ⟨a0, a1, a2, a3⟩ := ha
  obtain ⟨b0, b1, b2, b3⟩ := hb
  rcases Int.lt_trichotomy a b with z | z | z
  · exact (a3 (by omega) (b2 a a0 z)).elim
  · exact z
  · exact (b3 (by omega) (a2 b b0 z)).elim
theorem st_check (s : Int) : Step 144 245 [(0, s)] := by
  intro sh h hs ho hi
  obtain ⟨w, G, hw1, iw, ew, hG, hp, hr, wf, hh⟩ := hi.opn
  have wr := wf.1
  have u0 := wr.hour; have u1 := wr.nd; have u2 := wr.nc; have u3 := wr.na
  by_cases v1 : 0 ≤ s ∧ s < 4
  · obtain ⟨s1, s2, s3, s4, s5, s6⟩ := hi.2.2.2.2.2.2.2.1 s (by omega) (by omega)
    by_cases v2 : h 475 s = 0
    · refine ⟨-1000006, (q_up h 468 5 (q_add (h 468 5) 1)), q_up (q_up h 468 5 (q_add (h 468 5) 1)) 474 5 (q_add (h 474 5) 1), ?_, ?_, hi.find 5 (by decide) (by decide), fun k hk => ⟨by rw [q_up_far (by omega), q_up_far (by omega)], by rw [q_up_far (by omega)]⟩⟩
      · simp (disch := omega) only [q_470, q_up_far, q_row_row, q_row_self, q_row_ne, q_up_ne, q_up_eq, q_rowup, ud_eq, ud_ne, q_add_id, q_sub_id, q_mul_id, q_w_eq, q_rem_n, q_div_n, ↓reduceIte, leT, leF, ltT, ltF, eqT, eqF, true_or, or_true, false_or, or_false, true_and, and_true, false_and, and_false, or_self, and_self, Option.bind_some, ew, hp.w4 iw, hp.w5 iw, hp.w6 iw, hp.w7 iw, hp.w8 iw, hp.dish iw, hp.craft iw, hp.ask iw, hp.t6, hs.rains iw, hs.dishes iw, hs.crafts iw, hs.asks iw, hs.k468, hr.hour wr, hr.nd wr, hr.nc wr, hr.na wr, k_X11_outside, k_f5 hp.t6 hs.k468, s1, v2, hp.t5, hp.sheet, hs.k459, c_X11_check, e_X11_check_0, e_X11_check_4, e_X11_check_13, e_X11_check_25, e_X11_check_35, c_X11_noSheet, e_X11_noSheet_0, e_X11_noSheet_6, c_X7_isMissing, e_X7_isMissing_0, e_X7_isMissing_12]
      · simp (disch := omega) only [q_470, q_up_far, q_row_row, q_row_self, q_row_ne, q_up_ne, q_up_eq, q_rowup, ud_eq, ud_ne, q_add_id, q_sub_id, q_mul_id, q_w_eq, q_rem_n, q_div_n, ↓reduceIte, leT, leF, ltT, ltF, eqT, eqF, true_or, or_true, false_or, or_false, true_and, and_true, false_and, and_false, or_self, and_self, Option.bind_some, hp.m0, hp.m6, hs.k470, hs.k474, hG, k_X12_in, k_g5 (sh := sh) (h := (q_up h 468 5 (q_add (h 468 5) 1))) (by rw [q_up_far (by decide)]; exact hp.m6) hs.k474, v2, hp.m7, hs.k475, c_X12_check, e_X12_check_0, e_X12_check_4, e_X12_check_13, e_X12_check_29, c_X12_isSheet, e_X12_isSheet_0, e_X12_isSheet_6]
    · subst hw1
      have iw3 : isW 295 := Or.inr (Or.inr rfl)
      have ww : W2 295 1 := ⟨iw3, Or.inl rfl, by decide⟩
      obtain ⟨g, k1, be⟩ := k_become hs ww hp hr wf
      have rg := hr.become wr be
      have fo := be.2.2
      obtain ⟨n, en⟩ : ∃ n, h 476 s = n := ⟨_, rfl⟩
      rw [en] at s2 s4 s5
      obtain ⟨N, eN⟩ : ∃ N : Int → Int, (fun i => h 477 (24 * s + i)) = N := ⟨_, rfl⟩
      have Ni : ∀ i, N i = h 477 (24 * s + i) := fun i => by rw [← eN]
      have kp : ∀ i, 0 ≤ i → i ≤ n → WF (goN G i.toNat) ∧ goN G i.toNat 0 = G 0 + i := fun i i0 i1 => by
        have := goN_keep wf i.toNat (by omega)
        rw [Int.toNat_of_nonneg i0] at this
        exact this
      have cls : ∃ k g', q_Cc 144 [(21, 0), (0, s)] (sh, h) = some ((0, k), (sh, g')) ∧ chk G N n k ∧ Ptr g' ∧ ∀ x, x < 295 ∨ 442 ≤ x → g' x = h x := by
        have := lp (fun i (y : Int → Int → Int) => q_L 144 49 [(21, 0), (0, s), (17, 460 + 2 * s), (0, i)] [] (sh, y)) (fun i y => CW g y 295 (goN G i.toNat) ∧ ∀ j, 0 ≤ j → j < i → goS (goN G j.toNat) = N j) (fun r => ∃ k g', r = some ((0, k), (sh, g')) ∧ chk G N n k ∧ Ptr g' ∧ ∀ x, x < 295 ∨ 442 ≤ x → g' x = h x) n ?_ ?_ 0 g (by omega) s4 ⟨CW.refl rg be.2.1, fun j a b => by omega⟩
        · obtain ⟨k, g', q1, q2⟩ := this
          refine ⟨k, g', ?_, q2⟩
          rw [← q1]
          have t2 := hp.t2
          simp (disch := omega) only [q_470, q_up_far, q_row_row, q_row_self, q_row_ne, q_up_ne, q_up_eq, q_rowup, ud_eq, ud_ne, q_add_id, q_sub_id, q_mul_id, q_w_eq, q_rem_n, q_div_n, ↓reduceIte, leT, leF, ltT, ltF, eqT, eqF, true_or, or_true, false_or, or_false, true_and, and_true, false_and, and_false, or_self, and_self, Option.bind_some, ew, hp.w4 iw, hp.w5 iw, hp.w6 iw, hp.w7 iw, hp.w8 iw, hp.dish iw, hp.craft iw, hp.ask iw, hp.t6, hs.rains iw, hs.dishes iw, hs.crafts iw, hs.asks iw, hs.k468, hr.hour wr, hr.nd wr, hr.nc wr, hr.na wr, s1, t2, k1, hp.t5, hp.sheet, hs.k459, k_X11_outside, c_X11_check, e_X11_check_0, e_X11_check_4, e_X11_check_25, e_X11_check_47, c_X11_noSheet, e_X11_noSheet_0, e_X11_noSheet_6, c_X7_isMissing, e_X7_isMissing_0, e_X7_isMissing_12]
        · intro i y i0 i1 hI
          obtain ⟨cw, hj⟩ := hI
          obtain ⟨wi, ei⟩ := kp i i0 (by omega)
          have fy : ∀ x, x < 295 ∨ 442 ≤ x → y x = h x := fun x hx => by rw [cw.2.2 x (by omega)]; exact fo x (by omega)
          have og : Old sh y := ⟨ho.1, fun j => by rw [fy (-5) (by omega)]; exact ho.2 j⟩
          obtain ⟨y', q1, q2⟩ := k_goHour hs og iw3 wi (by omega) cw.1 cw.2.1
          have fy' : ∀ x, x < 295 ∨ 442 ≤ x → y' x = h x := fun x hx => by rw [q2.2.2 x (by omega)]; exact fy x hx
          have t2 : y 0 2 = 295 := by rw [fy 0 (by omega)]; exact hp.t2
          have f1 : y (460 + 2 * s) 1 = n := by rw [fy _ (by omega)]; exact s2
          have p2 : y' (460 + 2 * s) 2 = 461 + 2 * s := by rw [fy' _ (by omega)]; exact hp.nums s (by omega) (by omega)
          have p3 : y' (461 + 2 * s) i = N i := by rw [fy' _ (by omega), Ni]; exact s6 i i0 (by omega)
          by_cases e : goS (goN G i.toNat) = N i
          · left
            refine ⟨y', ?_, ?_, ?_⟩
            · rw [e_X11_check_49]
              simp (disch := omega) only [q_470, q_up_far, q_row_row, q_row_self, q_row_ne, q_up_ne, q_up_eq, q_rowup, ud_eq, ud_ne, q_add_id, q_sub_id, q_mul_id, q_w_eq, q_rem_n, q_div_n, ↓reduceIte, leT, leF, ltT, ltF, eqT, eqF, true_or, or_true, false_or, or_false, true_and, and_true, false_and, and_false, or_self, and_self, Option.bind_some, t2, f1, q1, p2, p3, e, hs.nums, e_X11_check_64]
            · rw [goN_succ i0]; exact cw.trans q2
            · intro j j0 j1
              by_cases ej : j = i
              · rw [ej]; exact e
              · exact hj j j0 (by omega)
          · right
            refine ⟨i, y', ?_, ⟨i0, by omega, hj, fun _ => e⟩, q2.2.1, fy'⟩
            show q_L 144 49 [(21, 0), (0, s), (17, 460 + 2 * s), (0, i)] [] (sh, y) = _
            rw [e_X11_check_49]
            simp (disch := omega) only [q_470, q_up_far, q_row_row, q_row_self, q_row_ne, q_up_ne, q_up_eq, q_rowup, ud_eq, ud_ne, q_add_id, q_sub_id, q_mul_id, q_w_eq, q_rem_n, q_div_n, ↓reduceIte, leT, leF, ltT, ltF, eqT, eqF, true_or, or_true, false_or, or_false, true_and, and_true, false_and, and_false, or_self, and_self, Option.bind_some, t2, f1, q1, p2, p3, hs.nums, e_X11_check_64]
        · intro y hI
          obtain ⟨cw, hj⟩ := hI
          have fy : ∀ x, x < 295 ∨ 442 ≤ x → y x = h x := fun x hx => by rw [cw.2.2 x (by omega)]; exact fo x (by omega)
          have f1 : y (460 + 2 * s) 1 = n := by rw [fy _ (by omega)]; exact s2
          refine ⟨n, y, ?_, ⟨s4, by omega, hj, fun hl => by omega⟩, cw.2.1, fy⟩
          show q_L 144 49 [(21, 0), (0, s), (17, 460 + 2 * s), (0, n)] [] (sh, y) = _
          rw [e_X11_check_49]
          simp (disch := omega) only [q_470, q_up_far, q_row_row, q_row_self, q_row_ne, q_up_ne, q_up_eq, q_rowup, ud_eq, ud_ne, q_add_id, q_sub_id, q_mul_id, q_w_eq, q_rem_n, q_div_n, ↓reduceIte, leT, leF, ltT, ltF, eqT, eqF, true_or, or_true, false_or, or_false, true_and, and_true, false_and, and_false, or_self, and_self, Option.bind_some, f1]
      obtain ⟨k, h1, c1, ck, p1, fr⟩ := cls
      have m : ∀ j, h1 469 j = h 469 j := fun j => by rw [fr 469 (by omega)]
      have h470 : h1 470 = G := by rw [fr 470 (by omega)]; exact hG
      obtain ⟨A, hA⟩ : ∃ A : Int → Int, (fun i => if 0 ≤ i ∧ i < 1354 then h1 470 i else h1 472 i) = A := ⟨_, rfl⟩
      have kk := r_keeps (sh := sh) (h := h1) (a := 472) (b := 470) (by decide) (by decide) hs.k472 hs.k470
      rw [hA] at kk
      have A1 : ∀ i, 0 ≤ i → i < 1354 → A i = G i := fun i i0 i1 => by
        rw [← hA]
        show (if 0 ≤ i ∧ i < 1354 then h1 470 i else h1 472 i) = G i
        rw [if_pos ⟨i0, i1⟩, h470]
      obtain ⟨H, eH⟩ : ∃ H, q_row h1 472 A = H := ⟨_, rfl⟩
      rw [eH] at kk
      have Hf : ∀ x, x ≠ 472 → H x = h1 x := fun x hx => by rw [← eH, q_row_ne hx]
      have back : ∀ (W F : Int → Int), (∀ y, (y < 0 ∨ 1354 ≤ y) → F y = G y) → q_Cc 230 [(22, 469), (30, 470), (30, 472)] (sh, q_row (q_row H 487 W) 470 F) = some ((9, 0), (sh, q_row (q_row H 487 W) 470 G)) := by
        intro W F hF
        have := r_keeps (sh := sh) (h := q_row (q_row H 487 W) 470 F) (a := 470) (b := 472) (by decide) (by decide) hs.k470 hs.k472
        rw [this, q_row_row]
        congr 4
        funext i
        rw [q_row_ne (by decide), q_row_ne (by decide), q_row_self, ← eH, q_row_self]
        by_cases e : 0 ≤ i ∧ i < 1354
        · rw [if_pos e]; exact A1 i e.1 e.2
        · rw [if_neg e]; exact hF i (by omega)
      have ref : ∃ k' W, q_Cc 245 [(22, 469), (0, s)] (sh, h1) = some ((0, k'), (sh, q_row (q_row H 487 W) 470 G)) ∧ chk G N n k' := by
        have := lp (fun i (y : (Int → Int) × (Int → Int)) => q_L 245 44 [(22, 469), (0, s), (0, i)] [] (sh, q_row (q_row H 487 y.1) 470 y.2)) (fun i y => y.2 = goN G i.toNat ∧ ∀ j, 0 ≤ j → j < i → goS (goN G j.toNat) = N j) (fun r => ∃ (k' : Int) (W : Int → Int), r = some ((0, k'), (sh, q_row (q_row H 487 W) 470 G)) ∧ chk G N n k') n ?_ ?_ 0 (H 487, G) (by omega) s4 ⟨rfl, fun j a b => by omega⟩
        · obtain ⟨k', W, q1, q2⟩ := this
          refine ⟨k', W, ?_, q2⟩
          have q1 : q_L 245 44 [(22, 469), (0, s), (0, 0)] [] (sh, q_row (q_row H 487 (H 487)) 470 G) = _ := q1
          rw [q_row_id, (q_row_in (show H 470 = G by rw [Hf 470 (by decide)]; exact h470)).symm] at q1
          have f5 : h1 475 = h 475 := fr 475 (by omega)
          simp (disch := omega) only [q_470, q_up_far, q_row_row, q_row_self, q_row_ne, q_up_ne, q_up_eq, q_rowup, ud_eq, ud_ne, q_add_id, q_sub_id, q_mul_id, q_w_eq, q_rem_n, q_div_n, ↓reduceIte, leT, leF, ltT, ltF, eqT, eqF, true_or, or_true, false_or, or_false, true_and, and_true, false_and, and_false, or_self, and_self, Option.bind_some, m, f5, hp.m0, hp.m2, hp.m7, hs.k475, kk, q1, k_X12_in, c_X12_check, e_X12_check_0, e_X12_check_4, e_X12_check_42, c_X12_isSheet, e_X12_isSheet_0, e_X12_isSheet_6]
        · intro i y i0 i1 hI
          obtain ⟨W, F⟩ := y
          obtain ⟨eF, hj⟩ := hI
          have eF : F = goN G i.toNat := eF
          obtain ⟨wi, ei⟩ := kp i i0 (by omega)
          rw [← eF] at wi ei
          have H469 : ∀ j, H 469 j = h 469 j := fun j => by rw [Hf 469 (by decide)]; exact m j
          obtain ⟨W', q1⟩ := r_goes (sh := sh) (h := q_row H 487 W) (G := F) (by rw [q_row_ne (by decide), H469]; exact hp.m0) (by rw [q_row_ne (by decide), H469]; exact hp.m27) hs.k470 hs.k487 wi (by omega)
          rw [q_row_row] at q1
          have f6 : H 476 s = n := by rw [Hf 476 (by decide), fr 476 (by omega)]; exact en
          have f7 : H 477 (24 * s + i) = N i := by rw [Hf 477 (by decide), fr 477 (by omega)]; exact (Ni i).symm
          by_cases e : goS F = N i
          · left
            refine ⟨(W', goG F), ?_, ?_, ?_⟩
            · rw [e_X12_check_44]
              simp (disch := omega) only [q_470, q_up_far, q_row_row, q_row_self, q_row_ne, q_up_ne, q_up_eq, q_rowup, ud_eq, ud_ne, q_add_id, q_sub_id, q_mul_id, q_w_eq, q_rem_n, q_div_n, ↓reduceIte, leT, leF, ltT, ltF, eqT, eqF, true_or, or_true, false_or, or_false, true_and, and_true, false_and, and_false, or_self, and_self, Option.bind_some, H469, hp.m8, hp.m9, hs.k476, hs.k477, f6, f7, q1, e, e_X12_check_58]
            · show goG F = goN G (i + 1).toNat
              rw [goN_succ i0, ← eF]
            · intro j j0 j1
              by_cases ej : j = i
              · rw [ej, ← eF]; exact e
              · exact hj j j0 (by omega)
          · right
            have bk := back W' (goG F) (fun y hy => by rw [goG_out wi hy, eF]; exact goN_out wf hy i.toNat (by omega))
            refine ⟨i, W', ?_, ⟨i0, by omega, hj, fun _ => by rw [← eF]; exact e⟩⟩
            show q_L 245 44 [(22, 469), (0, s), (0, i)] [] (sh, q_row (q_row H 487 W) 470 F) = _
            rw [e_X12_check_44]
            simp (disch := omega) only [q_470, q_up_far, q_row_row, q_row_self, q_row_ne, q_up_ne, q_up_eq, q_rowup, ud_eq, ud_ne, q_add_id, q_sub_id, q_mul_id, q_w_eq, q_rem_n, q_div_n, ↓reduceIte, leT, leF, ltT, ltF, eqT, eqF, true_or, or_true, false_or, or_false, true_and, and_true, false_and, and_false, or_self, and_self, Option.bind_some, H469, hp.m0, hp.m2, hp.m8, hp.m9, hs.k476, hs.k477, f6, f7, q1, e_X12_check_58, e_X12_check_78, bk, e_X12_check_90]
        · intro y hI
          obtain ⟨W, F⟩ := y
          obtain ⟨eF, hj⟩ := hI
          have eF : F = goN G n.toNat := eF
          have H469 : ∀ j, H 469 j = h 469 j := fun j => by rw [Hf 469 (by decide)]; exact m j
          have f6 : H 476 s = n := by rw [Hf 476 (by decide), fr 476 (by omega)]; exact en
          have bk := back W F (fun y hy => by rw [eF]; exact goN_out wf hy n.toNat (by omega))
          refine ⟨n, W, ?_, ⟨s4, by omega, hj, fun hl => by omega⟩⟩
          show q_L 245 44 [(22, 469), (0, s), (0, n)] [] (sh, q_row (q_row H 487 W) 470 F) = _
          rw [e_X12_check_44]
          simp (disch := omega) only [q_470, q_up_far, q_row_row, q_row_self, q_row_ne, q_up_ne, q_up_eq, q_rowup, ud_eq, ud_ne, q_add_id, q_sub_id, q_mul_id, q_w_eq, q_rem_n, q_div_n, ↓reduceIte, leT, leF, ltT, ltF, eqT, eqF, true_or, or_true, false_or, or_false, true_and, and_true, false_and, and_false, or_self, and_self, Option.bind_some, H469, hp.m0, hp.m2, hp.m8, hs.k476, f6, e_X12_check_78, bk, e_X12_check_90]
      obtain ⟨k', W, r1, ck'⟩ := ref
      have ek := chk_one ck' ck
      rw [ek] at r1
      refine ⟨k, h1, _, c1, r1, hi.scr ?_ ?_, ?_⟩
      · rw [← eH]
        exact ((p1.row (fun j => VP_ref (by decide))).row (fun j => VP_ref (by decide))).row (fun j => VP_ref (by decide))
      · intro x j hS
        by_cases e : x = 470
        · rw [e, q_row_self, hG]
        · rw [q_row_ne e, q_row_ne (fun z => hS (by unfold Scr; omega)), Hf x (fun z => hS (by unfold Scr; omega)), fr x (by unfold Scr at hS; omega)]
      · intro x hx
        exact ⟨by rw [q_row_ne (by omega), q_row_ne (by omega), Hf x (by omega), fr x (by omega)], fr x (by omega)⟩
  · refine ⟨-1000001, (q_up h 468 0 (q_add (h 468 0) 1)), q_up (q_up h 468 0 (q_add (h 468 0) 1)) 474 0 (q_add (h 474 0) 1), ?_, ?_, hi.find 0 (by decide) (by decide), fun k hk => ⟨by rw [q_up_far (by omega), q_up_far (by omega)], by rw [q_up_far (by omega)]⟩⟩
    · simp (disch := omega) only [q_470, q_up_far, q_row_row, q_row_self, q_row_ne, q_up_ne, q_up_eq, q_rowup, ud_eq, ud_ne, q_add_id, q_sub_id, q_mul_id, q_w_eq, q_rem_n, q_div_n, ↓reduceIte, leT, leF, ltT, ltF, eqT, eqF, true_or, or_true, false_or, or_false, true_and, and_true, false_and, and_false, or_self, and_self, Option.bind_some, ew, hp.w4 iw, hp.w5 iw, hp.w6 iw, hp.w7 iw, hp.w8 iw, hp.dish iw, hp.craft iw, hp.ask iw, hp.t6, hs.rains iw, hs.dishes iw, hs.crafts iw, hs.asks iw, hs.k468, hr.hour wr, hr.nd wr, hr.nc wr, hr.na wr, k_X11_outside, k_f0 hp.t6 hs.k468, c_X11_check, e_X11_check_0, e_X11_check_4, e_X11_check_13, c_X11_noSheet, e_X11_noSheet_0, e_X11_noSheet_6]
    · simp (disch := omega) only [q_470, q_up_far, q_row_row, q_row_self, q_row_ne, q_up_ne, q_up_eq, q_rowup, ud_eq, ud_ne, q_add_id, q_sub_id, q_mul_id, q_w_eq, q_rem_n, q_div_n, ↓reduceIte, leT, leF, ltT, ltF, eqT, eqF, true_or, or_true, false_or, or_false, true_and, and_true, false_and, and_false, or_self, and_self, Option.bind_some, hp.m0, hp.m6, hs.k470, hs.k474, hG, k_X12_in, k_g0 (sh := sh) (h := (q_up h 468 0 (q_add (h 468 0) 1))) (by rw [q_up_far (by decide)]; exact hp.m6) hs.k474, c_X12_check, e_X12_check_0, e_X12_check_4, e_X12_check_13, c_X12_isSheet, e_X12_isSheet_0, e_X12_isSheet_6]
