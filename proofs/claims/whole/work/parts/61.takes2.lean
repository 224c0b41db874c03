theorem k_planWith {sh : Int × (Int → Nat × Int)} {h : Int → Int → Int} {w a v : Int} {G : Int → Int} (hs : Sh sh) (iw : isW w) (wf : WF G) (hp : Ptr h) (hr : RelW h w G) (a0 : 0 ≤ a) (a1 : a < G 3) (v0 : 0 ≤ v) (v1 : v ≤ 999) : ∃ h' W, q_Cc 37 [(15, 442), (20, w), (0, a), (0, v)] (sh, h) = some ((9, 0), (sh, h')) ∧ FP h h' ∧ LC h' (lkm G (-1)) (lkA G (-1)) W ∧ BC h' (lkm G (-1)) (plB G (lkm G (-1)) (lkA G (-1)) W) ∧ ∀ k, 0 ≤ k → k < lkm G (-1) → W k = if lkA G (-1) k = a then weightF G a v else wtW G (lkA G (-1)) k := by
  have wr := wf.1
  have u3 := wr.na
  have lk := lk_ok wr (-1)
  have wb := wtW_b wr lk
  have m5 := lk.2.1
  have vb := weightF_b (a := a) (v := v) wr a0 (by omega) v0 v1
  obtain ⟨g, q1, f1, l1⟩ := k_lookW (sh := sh) (but := -1) hs iw wf hp hr
  have hpg := f1.ptr hp
  have hrg := f1.rel iw wr hr
  obtain ⟨i, po⟩ := PO_ex lk a
  have kp := k_placeOf (sh := sh) hs hpg lk.1 lk.2.1 l1 po
  have kw := k_weightOf (sh := sh) (v := v) hs hpg iw hrg wf a0 a1 v0 v1
  rcases po with ⟨i0, i1, e, u⟩ | ⟨e, u⟩
  · have f2 : FP g (q_up g 444 i (weightF G a v)) := fun x y hn => by rw [q_up_ne (by omega)]
    have l2 : LC (q_up g 444 i (weightF G a v)) (lkm G (-1)) (lkA G (-1)) (ud (wtW G (lkA G (-1))) i (weightF G a v)) := by
      refine ⟨?_, fun k k0 k1 => ?_⟩
      · rw [q_up_ne (by omega)]; exact l1.1
      · rw [q_up_ne (by omega)]
        refine ⟨(l1.2 k k0 k1).1, ?_⟩
        by_cases ek : k = i
        · rw [ek, q_up_self, ud_self]
        · rw [q_up_ne (by omega), ud_ne ek]; exact (l1.2 k k0 k1).2
    obtain ⟨h', q2, f3, l3, b3⟩ := k_solve (sh := sh) hs iw wf lk (fun k k0 k1 => by
      by_cases ek : k = i
      · rw [ek, ud_self]; exact vb
      · rw [ud_ne ek]; exact wb k k0 k1) (f2.ptr hpg) (f2.rel iw wr hrg) l2
    refine ⟨h', ud (wtW G (lkA G (-1))) i (weightF G a v), ?_, (f1.trans f2).trans f3, l3, b3, ?_⟩
    · rw [c_X5_planWithWorth, e_X5_planWithWorth_0, q1, Option.bind_some]
      show q_L 37 6 [(15, 442), (20, w), (0, a), (0, v), (9, 0)] [] (sh, g) = _
      simp (disch := omega) only [q_470, q_up_far, q_row_row, q_row_self, q_row_ne, q_up_ne, q_up_eq, q_rowup, ud_eq, ud_ne, q_add_id, q_sub_id, q_mul_id, q_w_eq, q_rem_n, q_div_n, ↓reduceIte, leT, leF, ltT, ltF, eqT, eqF, true_or, or_true, false_or, or_false, true_and, and_true, false_and, and_false, or_self, and_self, Option.bind_some, kp, kw, q2, hpg.pl4, hs.k444, e_X5_planWithWorth_6, e_X5_planWithWorth_11, e_X5_planWithWorth_30, e_X5_planWithWorth_31, e_X5_planWithWorth_36]
    · intro k k0 k1
      by_cases ek : k = i
      · rw [ek, ud_self, if_pos e]
      · rw [ud_ne ek, if_neg (fun e2 => ek (u k k0 k1 e2))]
  · subst e
    obtain ⟨h', q2, f3, l3, b3⟩ := k_solve (sh := sh) hs iw wf lk wb hpg hrg l1
    refine ⟨h', wtW G (lkA G (-1)), ?_, f1.trans f3, l3, b3, ?_⟩
    · rw [c_X5_planWithWorth, e_X5_planWithWorth_0, q1, Option.bind_some]
      show q_L 37 6 [(15, 442), (20, w), (0, a), (0, v), (9, 0)] [] (sh, g) = _
      simp (disch := omega) only [q_470, q_up_far, q_row_row, q_row_self, q_row_ne, q_up_ne, q_up_eq, q_rowup, ud_eq, ud_ne, q_add_id, q_sub_id, q_mul_id, q_w_eq, q_rem_n, q_div_n, ↓reduceIte, leT, leF, ltT, ltF, eqT, eqF, true_or, or_true, false_or, or_false, true_and, and_true, false_and, and_false, or_self, and_self, Option.bind_some, kp, kw, q2, hpg.pl4, hs.k444, e_X5_planWithWorth_6, e_X5_planWithWorth_11, e_X5_planWithWorth_30, e_X5_planWithWorth_31, e_X5_planWithWorth_36]
    · intro k k0 k1
      rw [if_neg (u k k0 k1)]
theorem BR.up {h h' : Int → Int → Int} {m : Int} {B : Int × Int × (Int → Int) × (Int → Int)} (b : BR h m B) (hf : ∀ k, k = 469 ∨ k = 484 ∨ k = 485 → h' k = h k) : BR h' m B := by
  unfold BR
  rw [hf 469 (by omega), hf 484 (by omega), hf 485 (by omega)]
  exact b
theorem st_takes (a v : Int) : Step 126 215 [(0, a), (0, v)] := by
  intro sh h hs ho hi
  obtain ⟨w, G, hw1, iw, ew, hG, hp, hr, wf, hh⟩ := hi.opn
  have wr := wf.1
  have u0 := wr.hour; have u1 := wr.nd; have u2 := wr.nc; have u3 := wr.na
  by_cases v1 : (0 ≤ a ∧ a < G 3) ∧ 0 ≤ v ∧ v ≤ 999
  · obtain ⟨⟨a0, a1⟩, v0, v9⟩ := v1
    by_cases v2 : G (480 + a) = 0
    · obtain ⟨h1, c1, f1, l1, b1⟩ := k_plan (sh := sh) (but := -1) hs iw wf hp hr
      have hp1 := f1.ptr hp
      have hr1 := f1.rel iw wr hr
      have lk := lk_ok wr (-1)
      have ci1 := k_inPlan (sh := sh) hs hp1 lk.1 lk.2.1 l1 b1
      obtain ⟨h2, W, c2, f2, l2, b2, hW⟩ := k_planWith (sh := sh) hs iw wf hp1 hr1 a0 a1 v0 v9
      have hp2 := f2.ptr hp1
      have ci2 := k_inPlan (sh := sh) hs hp2 lk.1 lk.2.1 l2 b2
      have f12 := f1.trans f2
      have ew1 : h1 0 0 = w := by rw [f1 0 0 (by omega)]; exact ew
      have hG2 : h2 470 = G := by rw [← hG]; funext y; exact f12 470 y (by omega)
      obtain ⟨h3, r1, g1, p1, q1⟩ := r_plan (sh := sh) hs wf hp2 hG2
      have ri1 := r_inPlan (sh := sh) hs lk.1 lk.2.1 p1 q1
      have hp3 := p1.1
      have hG3 := p1.2.1
      have wf4 := wf.set (i := 466 + a) (v := v) (466, 480, 0, 999) (by decide) (by show (466 : Int) ≤ _; omega) (by show _ < (480 : Int); omega) (by show (0 : Int) ≤ _; omega) (by show _ ≤ (999 : Int); omega) (by omega)
      obtain ⟨h4, e4⟩ : ∃ h4, q_row h3 470 (ud G (466 + a) v) = h4 := ⟨_, rfl⟩
      have hp4 : Ptr h4 := by rw [← e4]; exact hp3.row (fun j => VP_ref (by decide))
      have hG4 : h4 470 = ud G (466 + a) v := by rw [← e4, q_row_self]
      obtain ⟨h5, r2, g2, p2, q2⟩ := r_plan (sh := sh) hs wf4 hp4 hG4
      have em : lkm (ud G (466 + a) v) (-1) = lkm G (-1) := by
        unfold lkm
        rw [ud_ne (by omega), lkN_congr (G := G) (-1) _ (G 3).toNat (fun i i0 i1 => ud_ne (by omega))]
      have eA : lkA (ud G (466 + a) v) (-1) = lkA G (-1) := by
        unfold lkA
        rw [ud_ne (by omega), lkN_congr (G := G) (-1) _ (G 3).toNat (fun i i0 i1 => ud_ne (by omega))]
      rw [em, eA] at p2 q2
      rw [plB_w wf lk a0 a1 W hW] at q2
      have hp5 := p2.1
      have hG5 := p2.2.1
      obtain ⟨h6, e6⟩ : ∃ h6, q_row h5 470 G = h6 := ⟨_, rfl⟩
      have p6 : PR h6 G (lkm G (-1)) (lkA G (-1)) := by
        rw [← e6]
        refine ⟨hp5.row (fun j => VP_ref (by decide)), q_row_self _ _ _, ?_, fun i i0 i1 => ?_⟩
        · rw [q_row_ne (by decide)]; exact p2.2.2.1
        · rw [q_row_ne (by decide)]; exact p2.2.2.2 i i0 i1
      have q6 : BR h6 (lkm G (-1)) (plB G (lkm G (-1)) (lkA G (-1)) W) := q2.up (fun k hk => by rw [← e6, q_row_ne (by omega)])
      have ri2 := r_inPlan (sh := sh) hs lk.1 lk.2.1 p6 q6
      obtain ⟨x1, ex1⟩ : ∃ x, ipN (lkA G (-1)) (plB G (lkm G (-1)) (lkA G (-1)) (wtW G (lkA G (-1)))).2.2.1 (lkm G (-1)).toNat = x := ⟨_, rfl⟩
      obtain ⟨x2, ex2⟩ : ∃ x, ipN (lkA G (-1)) (plB G (lkm G (-1)) (lkA G (-1)) W).2.2.1 (lkm G (-1)).toNat = x := ⟨_, rfl⟩
      rw [ex1] at ci1 ri1
      rw [ex2] at ci2 ri2
      have b3 : q_up h3 470 (466 + a) v = h4 := by rw [← e4, q_470, hG3]
      have b5 : q_up h5 470 (466 + a) (G (466 + a)) = h6 := by
        rw [← e6, q_470, hG5]
        congr 1
        funext x
        by_cases e : x = 466 + a
        · rw [ud_eq e, e]
        · rw [ud_ne e, ud_ne e]
      have fr : ∀ x y, ¬ ((442 ≤ x ∧ x ≤ 451) ∨ (481 ≤ x ∧ x ≤ 486) ∨ (x = 469 ∧ (y = 18 ∨ y = 24 ∨ y = 25))) → h6 x y = h x y := by
        intro x y hn
        by_cases e : x = 470
        · rw [e, ← e6, q_row_self, hG]
        · rw [← e6, q_row_ne e, g2 x y (by omega), ← e4, q_row_ne e, g1 x y (by omega), f12 x y (by omega)]
      refine ⟨q_and x1 (q_xor x2 (-1)), h2, h6, ?_, ?_, hi.scr p6.1 (fun x y hn => fr x y (by unfold Scr at hn; omega)), fun x hx => ⟨by funext y; exact fr x y (by omega), by funext y; exact f12 x y (by omega)⟩⟩
      · clear fr hW
        have t3 := hp.t3; have t31 := hp1.t3; have t32 := hp2.t3
        simp (disch := omega) only [q_470, q_up_far, q_row_row, q_row_self, q_row_ne, q_up_ne, q_up_eq, q_rowup, ud_eq, ud_ne, q_add_id, q_sub_id, q_mul_id, q_w_eq, q_rem_n, q_div_n, ↓reduceIte, leT, leF, ltT, ltF, eqT, eqF, true_or, or_true, false_or, or_false, true_and, and_true, false_and, and_false, or_self, and_self, Option.bind_some, ew, hp.w4 iw, hp.w5 iw, hp.w6 iw, hp.w7 iw, hp.w8 iw, hp.dish iw, hp.craft iw, hp.ask iw, hp.t6, hs.rains iw, hs.dishes iw, hs.crafts iw, hs.asks iw, hs.k468, hr.hour wr, hr.nd wr, hr.nc wr, hr.na wr, c1, ci1, c2, ci2, v2, ew1, t3, t31, t32, hr.astate wr, k_X11_outside, c_X11_takes, e_X11_takes_0, e_X11_takes_5, e_X11_takes_16, e_X11_takes_19, e_X11_takes_25, e_X11_takes_47, e_X11_takes_60, e_X11_takes_67, e_X11_takes_81, e_X11_takes_89, c_X11_noAsking, e_X11_noAsking_0, e_X11_noAsking_14]
      · clear fr hW
        have z1 := hp2.m0; have z2 := hp3.m0; have z3 := hp5.m0
        simp (disch := omega) only [q_up_ne, q_add_id, q_sub_id, ↓reduceIte, leT, leF, ltT, ltF, eqT, eqF, true_or, or_true, false_or, or_false, true_and, and_true, false_and, and_false, or_self, and_self, Option.bind_some, r1, ri1, r2, ri2, v2, z1, z2, z3, hG2, hG3, b3, b5, hs.k470, k_X12_in, c_X12_takes, e_X12_takes_0, e_X12_takes_5, e_X12_takes_16, e_X12_takes_19, e_X12_takes_25, e_X12_takes_45, e_X12_takes_50, e_X12_takes_54, e_X12_takes_65, e_X12_takes_71, e_X12_takes_88, c_X12_isAsking, e_X12_isAsking_0, e_X12_isAsking_13, c_X12_becomes, e_X12_becomes_0]
    · refine ⟨-1000005, (q_up h 468 4 (q_add (h 468 4) 1)), q_up (q_up h 468 4 (q_add (h 468 4) 1)) 474 4 (q_add (h 474 4) 1), ?_, ?_, hi.find 4 (by decide) (by decide), fun k hk => ⟨by rw [q_up_far (by omega), q_up_far (by omega)], by rw [q_up_far (by omega)]⟩⟩
      · simp (disch := omega) only [q_470, q_up_far, q_row_row, q_row_self, q_row_ne, q_up_ne, q_up_eq, q_rowup, ud_eq, ud_ne, q_add_id, q_sub_id, q_mul_id, q_w_eq, q_rem_n, q_div_n, ↓reduceIte, leT, leF, ltT, ltF, eqT, eqF, true_or, or_true, false_or, or_false, true_and, and_true, false_and, and_false, or_self, and_self, Option.bind_some, ew, hp.w4 iw, hp.w5 iw, hp.w6 iw, hp.w7 iw, hp.w8 iw, hp.dish iw, hp.craft iw, hp.ask iw, hp.t6, hs.rains iw, hs.dishes iw, hs.crafts iw, hs.asks iw, hs.k468, hr.hour wr, hr.nd wr, hr.nc wr, hr.na wr, k_X11_outside, k_f4 hp.t6 hs.k468, hr.astate wr, c_X11_takes, e_X11_takes_0, e_X11_takes_5, e_X11_takes_16, e_X11_takes_47, c_X11_noAsking, e_X11_noAsking_0, e_X11_noAsking_14]
      · simp (disch := omega) only [q_470, q_up_far, q_row_row, q_row_self, q_row_ne, q_up_ne, q_up_eq, q_rowup, ud_eq, ud_ne, q_add_id, q_sub_id, q_mul_id, q_w_eq, q_rem_n, q_div_n, ↓reduceIte, leT, leF, ltT, ltF, eqT, eqF, true_or, or_true, false_or, or_false, true_and, and_true, false_and, and_false, or_self, and_self, Option.bind_some, hp.m0, hp.m6, hs.k470, hs.k474, hG, k_X12_in, k_g4 (sh := sh) (h := (q_up h 468 4 (q_add (h 468 4) 1))) (by rw [q_up_far (by decide)]; exact hp.m6) hs.k474, c_X12_takes, e_X12_takes_0, e_X12_takes_5, e_X12_takes_16, e_X12_takes_45, c_X12_isAsking, e_X12_isAsking_0, e_X12_isAsking_13]
  · by_cases a1 : 0 ≤ a ∧ a < G 3 <;> by_cases a2 : 0 ≤ v ∧ v ≤ 999 <;> first | (exfalso; omega) | skip
    all_goals
      refine ⟨-1000001, (q_up h 468 0 (q_add (h 468 0) 1)), q_up (q_up h 468 0 (q_add (h 468 0) 1)) 474 0 (q_add (h 474 0) 1), ?_, ?_, hi.find 0 (by decide) (by decide), fun k hk => ⟨by rw [q_up_far (by omega), q_up_far (by omega)], by rw [q_up_far (by omega)]⟩⟩
      · simp (disch := omega) only [q_470, q_up_far, q_row_row, q_row_self, q_row_ne, q_up_ne, q_up_eq, q_rowup, ud_eq, ud_ne, q_add_id, q_sub_id, q_mul_id, q_w_eq, q_rem_n, q_div_n, ↓reduceIte, leT, leF, ltT, ltF, eqT, eqF, true_or, or_true, false_or, or_false, true_and, and_true, false_and, and_false, or_self, and_self, Option.bind_some, ew, hp.w4 iw, hp.w5 iw, hp.w6 iw, hp.w7 iw, hp.w8 iw, hp.dish iw, hp.craft iw, hp.ask iw, hp.t6, hs.rains iw, hs.dishes iw, hs.crafts iw, hs.asks iw, hs.k468, hr.hour wr, hr.nd wr, hr.nc wr, hr.na wr, k_X11_outside, k_f0 hp.t6 hs.k468, c_X11_takes, e_X11_takes_0, e_X11_takes_5, e_X11_takes_16, e_X11_takes_19, e_X11_takes_25, c_X11_noAsking, e_X11_noAsking_0, e_X11_noAsking_14]
      · simp (disch := omega) only [q_470, q_up_far, q_row_row, q_row_self, q_row_ne, q_up_ne, q_up_eq, q_rowup, ud_eq, ud_ne, q_add_id, q_sub_id, q_mul_id, q_w_eq, q_rem_n, q_div_n, ↓reduceIte, leT, leF, ltT, ltF, eqT, eqF, true_or, or_true, false_or, or_false, true_and, and_true, false_and, and_false, or_self, and_self, Option.bind_some, hp.m0, hp.m6, hs.k470, hs.k474, hG, k_X12_in, k_g0 (sh := sh) (h := (q_up h 468 0 (q_add (h 468 0) 1))) (by rw [q_up_far (by decide)]; exact hp.m6) hs.k474, c_X12_takes, e_X12_takes_0, e_X12_takes_5, e_X12_takes_16, e_X12_takes_19, e_X12_takes_25, c_X12_isAsking, e_X12_isAsking_0, e_X12_isAsking_13]
