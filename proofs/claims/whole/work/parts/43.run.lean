/-! hours go -/
def goN (G : Int → Int) : Nat → Int → Int
  | 0 => G
  | i + 1 => goG (goN G i)
theorem goN_keep {G : Int → Int} (wf : WF G) : ∀ i : Nat, G 0 + i ≤ 3000 → WF (goN G i) ∧ goN G i 0 = G 0 + i := by
  intro i
  induction i with
  | zero => intro _; exact ⟨wf, by show G 0 = G 0 + 0; omega⟩
  | succ i ih =>
    intro hi
    obtain ⟨w1, e1⟩ := ih (by omega)
    obtain ⟨w2, e2⟩ := w1.go (by rw [e1]; omega)
    exact ⟨w2, by show goG (goN G i) 0 = _; rw [e2, e1]; omega⟩
theorem goN_succ {G : Int → Int} {i : Int} (i0 : 0 ≤ i) : goN G (i + 1).toNat = goG (goN G i.toNat) := by
  have es : (i + 1).toNat = i.toNat + 1 := by omega
  rw [es]; rfl
theorem CW.trans {h0 h1 h2 : Int → Int → Int} {w : Int} {G1 G2 : Int → Int} (a : CW h0 h1 w G1) (b : CW h1 h2 w G2) : CW h0 h2 w G2 := ⟨b.1, b.2.1, fun k hk => by rw [b.2.2 k hk]; exact a.2.2 k hk⟩
theorem st_run (n : Int) : Step 131 227 [(0, n)] := by
  intro sh h hs ho hi
  obtain ⟨w, G, hw1, iw, ew, hG, hp, hr, wf, hh⟩ := hi.opn
  have wr := wf.1
  have u0 := wr.hour; have u1 := wr.nd; have u2 := wr.nc; have u3 := wr.na
  by_cases v1 : 1 ≤ n ∧ n ≤ 100
  · by_cases v2 : G 0 + n ≤ 2000
    · have kp : ∀ i, 0 ≤ i → i ≤ n → WF (goN G i.toNat) ∧ goN G i.toNat 0 = G 0 + i := fun i i0 i1 => by
        have := goN_keep wf i.toNat (by omega)
        rw [Int.toNat_of_nonneg i0] at this
        exact this
      obtain ⟨wn, en⟩ := kp n (by omega) (by omega)
      have cls : ∃ h1, q_Cc 131 [(21, 0), (0, n)] (sh, h) = some ((0, G 0 + n), (sh, h1)) ∧ CW h h1 w (goN G n.toNat) := by
        have := lp (fun i (g : Int → Int → Int) => q_L 131 41 [(21, 0), (0, n), (0, i)] [] (sh, g)) (fun i g => CW h g w (goN G i.toNat)) (fun r => ∃ h1, r = some ((0, G 0 + n), (sh, h1)) ∧ CW h h1 w (goN G n.toNat)) n ?_ ?_ 0 h (by omega) (by omega) (CW.refl hr hp)
        · obtain ⟨h1, q1, q2⟩ := this
          refine ⟨h1, ?_, q2⟩
          rw [← q1]
          simp (disch := omega) only [q_470, q_up_far, q_row_row, q_row_self, q_row_ne, q_up_ne, q_up_eq, q_rowup, ud_eq, ud_ne, q_add_id, q_sub_id, q_mul_id, q_w_eq, q_rem_n, q_div_n, ↓reduceIte, leT, leF, ltT, ltF, eqT, eqF, true_or, or_true, false_or, or_false, true_and, and_true, false_and, and_false, or_self, and_self, Option.bind_some, ew, hp.w4 iw, hp.w5 iw, hp.w6 iw, hp.w7 iw, hp.w8 iw, hp.dish iw, hp.craft iw, hp.ask iw, hp.t6, hs.rains iw, hs.dishes iw, hs.crafts iw, hs.asks iw, hs.k468, hr.hour wr, hr.nd wr, hr.nc wr, hr.na wr, k_X11_outside, c_X11_run, e_X11_run_0, e_X11_run_7, e_X11_run_16, e_X11_run_38]
        · intro i g i0 i1 hI
          obtain ⟨wi, ei⟩ := kp i i0 (by omega)
          have og : Old sh g := ⟨ho.1, fun j => by rw [hI.2.2 (-5) (by omega)]; exact ho.2 j⟩
          have g0 : g 0 0 = w := by rw [hI.2.2 0 (by omega)]; exact ew
          obtain ⟨g', q1, q2⟩ := k_goHour hs og iw wi (by omega) hI.1 hI.2.1
          left
          refine ⟨g', ?_, by rw [goN_succ i0]; exact hI.trans q2⟩
          rw [e_X11_run_41]
          simp (disch := omega) only [q_470, q_up_far, q_row_row, q_row_self, q_row_ne, q_up_ne, q_up_eq, q_rowup, ud_eq, ud_ne, q_add_id, q_sub_id, q_mul_id, q_w_eq, q_rem_n, q_div_n, ↓reduceIte, leT, leF, ltT, ltF, eqT, eqF, true_or, or_true, false_or, or_false, true_and, and_true, false_and, and_false, or_self, and_self, Option.bind_some, g0, q1, e_X11_run_53]
        · intro g hI
          have g0 : g 0 0 = w := by rw [hI.2.2 0 (by omega)]; exact ew
          have f := hI.1.hour wn.1
          rw [en] at f
          refine ⟨g, ?_, hI⟩
          show q_L 131 41 [(21, 0), (0, n), (0, n)] [] (sh, g) = _
          rw [e_X11_run_41]
          simp (disch := omega) only [q_470, q_up_far, q_row_row, q_row_self, q_row_ne, q_up_ne, q_up_eq, q_rowup, ud_eq, ud_ne, q_add_id, q_sub_id, q_mul_id, q_w_eq, q_rem_n, q_div_n, ↓reduceIte, leT, leF, ltT, ltF, eqT, eqF, true_or, or_true, false_or, or_false, true_and, and_true, false_and, and_false, or_self, and_self, Option.bind_some, g0, f]
      obtain ⟨h1, c1, cw1⟩ := cls
      have p0 : h1 469 0 = 470 := by rw [cw1.2.2 469 (by omega)]; exact hp.m0
      have p27 : h1 469 27 = 487 := by rw [cw1.2.2 469 (by omega)]; exact hp.m27
      have h470 : h1 470 = G := by rw [cw1.2.2 470 (by omega)]; exact hG
      have ref : ∃ W : Int → Int, q_Cc 227 [(22, 469), (0, n)] (sh, h1) = some ((0, G 0 + n), (sh, q_row (q_row h1 487 W) 470 (goN G n.toNat))) := by
        have := lp (fun i (y : q_V × (Int → Int) × (Int → Int)) => q_L 227 40 [(22, 469), (0, n), (0, i), y.1] [] (sh, q_row (q_row h1 487 y.2.1) 470 y.2.2)) (fun i y => y.2.2 = goN G i.toNat) (fun r => ∃ W : Int → Int, r = some ((0, G 0 + n), (sh, q_row (q_row h1 487 W) 470 (goN G n.toNat)))) n ?_ ?_ 0 ((9, 0), h1 487, G) (by omega) (by omega) rfl
        · obtain ⟨W, q1⟩ := this
          refine ⟨W, ?_⟩
          have q1 : q_L 227 40 [(22, 469), (0, n), (0, 0), (9, 0)] [] (sh, q_row (q_row h1 487 (h1 487)) 470 G) = _ := q1
          rw [q_row_id, (q_row_in h470).symm] at q1
          rw [← q1]
          simp (disch := omega) only [q_470, q_up_far, q_row_row, q_row_self, q_row_ne, q_up_ne, q_up_eq, q_rowup, ud_eq, ud_ne, q_add_id, q_sub_id, q_mul_id, q_w_eq, q_rem_n, q_div_n, ↓reduceIte, leT, leF, ltT, ltF, eqT, eqF, true_or, or_true, false_or, or_false, true_and, and_true, false_and, and_false, or_self, and_self, Option.bind_some, p0, h470, hs.k470, k_X12_in, c_X12_run, e_X12_run_0, e_X12_run_7]
        · intro i y i0 i1 hI
          obtain ⟨x3, W, F⟩ := y
          have hI : F = goN G i.toNat := hI
          obtain ⟨wi, ei⟩ := kp i i0 (by omega)
          rw [← hI] at wi ei
          obtain ⟨W', q1⟩ := r_goes (sh := sh) (h := q_row h1 487 W) (G := F) (by rw [q_row_ne (by decide)]; exact p0) (by rw [q_row_ne (by decide)]; exact p27) hs.k470 hs.k487 wi (by omega)
          rw [q_row_row] at q1
          left
          refine ⟨((0, goS F), W', goG F), ?_, by rw [goN_succ i0, ← hI]⟩
          rw [e_X12_run_40]
          simp (disch := omega) only [q_470, q_up_far, q_row_row, q_row_self, q_row_ne, q_up_ne, q_up_eq, q_rowup, ud_eq, ud_ne, q_add_id, q_sub_id, q_mul_id, q_w_eq, q_rem_n, q_div_n, ↓reduceIte, leT, leF, ltT, ltF, eqT, eqF, true_or, or_true, false_or, or_false, true_and, and_true, false_and, and_false, or_self, and_self, Option.bind_some, q1, e_X12_run_49]
        · intro y hI
          obtain ⟨x3, W, F⟩ := y
          have hI : F = goN G n.toNat := hI
          refine ⟨W, ?_⟩
          show q_L 227 40 [(22, 469), (0, n), (0, n), x3] [] (sh, q_row (q_row h1 487 W) 470 F) = _
          rw [e_X12_run_40, hI]
          simp (disch := omega) only [q_470, q_up_far, q_row_row, q_row_self, q_row_ne, q_up_ne, q_up_eq, q_rowup, ud_eq, ud_ne, q_add_id, q_sub_id, q_mul_id, q_w_eq, q_rem_n, q_div_n, ↓reduceIte, leT, leF, ltT, ltF, eqT, eqF, true_or, or_true, false_or, or_false, true_and, and_true, false_and, and_false, or_self, and_self, Option.bind_some, p0, hs.k470, en]
      obtain ⟨W, r1⟩ := ref
      refine ⟨G 0 + n, h1, _, c1, r1, hi.world2 hw1 (cw1.2.1.row (fun j => VP_ref (by decide))) ?_ ?_ wn (by rw [en]; exact v2), ?_⟩
      · intro k j hk hS
        rw [q_row_ne (fun e => hS (by unfold Scr; omega)), cw1.2.2 k (by omega)]
      · exact cw1.1.frame wn.1 (fun k k0 k1 => q_row_ne (by omega))
      · intro k hk
        exact ⟨by rw [q_row_ne (by omega), q_row_ne (by omega), cw1.2.2 k (by omega)], cw1.2.2 k (by omega)⟩
    · refine ⟨-1000002, (q_up h 468 1 (q_add (h 468 1) 1)), q_up (q_up h 468 1 (q_add (h 468 1) 1)) 474 1 (q_add (h 474 1) 1), ?_, ?_, hi.find 1 (by decide) (by decide), fun k hk => ⟨by rw [q_up_far (by omega), q_up_far (by omega)], by rw [q_up_far (by omega)]⟩⟩
      · simp (disch := omega) only [q_470, q_up_far, q_row_row, q_row_self, q_row_ne, q_up_ne, q_up_eq, q_rowup, ud_eq, ud_ne, q_add_id, q_sub_id, q_mul_id, q_w_eq, q_rem_n, q_div_n, ↓reduceIte, leT, leF, ltT, ltF, eqT, eqF, true_or, or_true, false_or, or_false, true_and, and_true, false_and, and_false, or_self, and_self, Option.bind_some, ew, hp.w4 iw, hp.w5 iw, hp.w6 iw, hp.w7 iw, hp.w8 iw, hp.dish iw, hp.craft iw, hp.ask iw, hp.t6, hs.rains iw, hs.dishes iw, hs.crafts iw, hs.asks iw, hs.k468, hr.hour wr, hr.nd wr, hr.nc wr, hr.na wr, k_X11_outside, k_f1 hp.t6 hs.k468, c_X11_run, e_X11_run_0, e_X11_run_7, e_X11_run_16, e_X11_run_38]
      · simp (disch := omega) only [q_470, q_up_far, q_row_row, q_row_self, q_row_ne, q_up_ne, q_up_eq, q_rowup, ud_eq, ud_ne, q_add_id, q_sub_id, q_mul_id, q_w_eq, q_rem_n, q_div_n, ↓reduceIte, leT, leF, ltT, ltF, eqT, eqF, true_or, or_true, false_or, or_false, true_and, and_true, false_and, and_false, or_self, and_self, Option.bind_some, hp.m0, hp.m6, hs.k470, hs.k474, hG, k_X12_in, k_g1 (sh := sh) (h := (q_up h 468 1 (q_add (h 468 1) 1))) (by rw [q_up_far (by decide)]; exact hp.m6) hs.k474, c_X12_run, e_X12_run_0, e_X12_run_7, e_X12_run_16, e_X12_run_37]
  · refine ⟨-1000001, (q_up h 468 0 (q_add (h 468 0) 1)), q_up (q_up h 468 0 (q_add (h 468 0) 1)) 474 0 (q_add (h 474 0) 1), ?_, ?_, hi.find 0 (by decide) (by decide), fun k hk => ⟨by rw [q_up_far (by omega), q_up_far (by omega)], by rw [q_up_far (by omega)]⟩⟩
    · simp (disch := omega) only [q_470, q_up_far, q_row_row, q_row_self, q_row_ne, q_up_ne, q_up_eq, q_rowup, ud_eq, ud_ne, q_add_id, q_sub_id, q_mul_id, q_w_eq, q_rem_n, q_div_n, ↓reduceIte, leT, leF, ltT, ltF, eqT, eqF, true_or, or_true, false_or, or_false, true_and, and_true, false_and, and_false, or_self, and_self, Option.bind_some, ew, hp.w4 iw, hp.w5 iw, hp.w6 iw, hp.w7 iw, hp.w8 iw, hp.dish iw, hp.craft iw, hp.ask iw, hp.t6, hs.rains iw, hs.dishes iw, hs.crafts iw, hs.asks iw, hs.k468, hr.hour wr, hr.nd wr, hr.nc wr, hr.na wr, k_X11_outside, k_f0 hp.t6 hs.k468, c_X11_run, e_X11_run_0, e_X11_run_7, e_X11_run_16, e_X11_run_38]
    · simp (disch := omega) only [q_470, q_up_far, q_row_row, q_row_self, q_row_ne, q_up_ne, q_up_eq, q_rowup, ud_eq, ud_ne, q_add_id, q_sub_id, q_mul_id, q_w_eq, q_rem_n, q_div_n, ↓reduceIte, leT, leF, ltT, ltF, eqT, eqF, true_or, or_true, false_or, or_false, true_and, and_true, false_and, and_false, or_self, and_self, Option.bind_some, hp.m0, hp.m6, hs.k470, hs.k474, hG, k_X12_in, k_g0 (sh := sh) (h := (q_up h 468 0 (q_add (h 468 0) 1))) (by rw [q_up_far (by decide)]; exact hp.m6) hs.k474, c_X12_run, e_X12_run_0, e_X12_run_7, e_X12_run_16, e_X12_run_37]
