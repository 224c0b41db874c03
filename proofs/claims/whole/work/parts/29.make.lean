/-! new dishes, new craft -/
theorem st_dish (p s t : Int) : Step 108 170 [(0, p), (0, s), (0, t)] := by
  intro sh h hs ho hi
  obtain ⟨w, G, hw1, iw, ew, hG, hp, hr, wf, hh⟩ := hi.opn
  have wr := wf.1
  have u0 := wr.hour; have u1 := wr.nd; have u2 := wr.nc; have u3 := wr.na
  by_cases v1 : (0 ≤ p ∧ p ≤ 2) ∧ (1 ≤ s ∧ s ≤ 9) ∧ 0 ≤ t ∧ t ≤ 3
  · by_cases v2 : G 1 = 6
    · refine ⟨-1000002, (q_up h 468 1 (q_add (h 468 1) 1)), q_up (q_up h 468 1 (q_add (h 468 1) 1)) 474 1 (q_add (h 474 1) 1), ?_, ?_, hi.find 1 (by decide) (by decide), fun k hk => ⟨by rw [q_up_far (by omega), q_up_far (by omega)], by rw [q_up_far (by omega)]⟩⟩
      · simp (disch := omega) only [q_470, q_up_far, q_row_row, q_row_self, q_row_ne, q_up_ne, q_up_eq, q_rowup, ud_eq, ud_ne, q_add_id, q_sub_id, q_mul_id, q_w_eq, q_rem_n, q_div_n, ↓reduceIte, leT, leF, ltT, ltF, eqT, eqF, true_or, or_true, false_or, or_false, true_and, and_true, false_and, and_false, or_self, and_self, Option.bind_some, ew, hp.w4 iw, hp.w5 iw, hp.w6 iw, hp.w7 iw, hp.w8 iw, hp.dish iw, hp.craft iw, hp.ask iw, hp.t6, hs.rains iw, hs.dishes iw, hs.crafts iw, hs.asks iw, hs.k468, hr.hour wr, hr.nd wr, hr.nc wr, hr.na wr, k_X11_outside, k_f1 hp.t6 hs.k468, v2, c_X11_dish, e_X11_dish_0, e_X11_dish_6, e_X11_dish_16, e_X11_dish_25, e_X11_dish_28, e_X11_dish_34, e_X11_dish_53, e_X11_dish_64]
      · simp (disch := omega) only [q_470, q_up_far, q_row_row, q_row_self, q_row_ne, q_up_ne, q_up_eq, q_rowup, ud_eq, ud_ne, q_add_id, q_sub_id, q_mul_id, q_w_eq, q_rem_n, q_div_n, ↓reduceIte, leT, leF, ltT, ltF, eqT, eqF, true_or, or_true, false_or, or_false, true_and, and_true, false_and, and_false, or_self, and_self, Option.bind_some, hp.m0, hp.m6, hs.k470, hs.k474, hG, k_X12_in, k_g1 (sh := sh) (h := (q_up h 468 1 (q_add (h 468 1) 1))) (by rw [q_up_far (by decide)]; exact hp.m6) hs.k474, v2, c_X12_dish, e_X12_dish_0, e_X12_dish_4, e_X12_dish_14, e_X12_dish_23, e_X12_dish_26, e_X12_dish_32, e_X12_dish_54, c_X12_isPlace, e_X12_isPlace_0, e_X12_isPlace_6]
    · obtain ⟨d, ed⟩ : ∃ d, G 1 = d := ⟨_, rfl⟩
      rw [ed] at u1 v2
      obtain ⟨hc, ehc⟩ : ∃ hc, q_up (q_up (q_up (q_up (q_up h (w + 7 + d) 0 p) (w + 7 + d) 1 s) (w + 7 + d) 2 t) (w + 7 + d) 3 0) w 1 (d + 1) = hc := ⟨_, rfl⟩
      obtain ⟨G', eG⟩ : ∃ G', ud (ud (ud (ud (ud G (52 + d) p) (58 + d) s) (64 + d) t) (70 + d) 0) 1 (d + 1) = G' := ⟨_, rfl⟩
      have far : ∀ a, a ≠ w → a ≠ w + 7 + d → hc a = h a := fun a a1 a2 => by rw [← ehc, q_up_far a1, q_up_far a2, q_up_far a2, q_up_far a2, q_up_far a2]
      have farw : ∀ j, j ≠ 1 → hc w j = h w j := fun j hj => by rw [← ehc]; simp (disch := omega) only [q_up_ne, q_up_eq]
      have g1 : G' 1 = d + 1 := by rw [← eG]; simp (disch := omega) only [q_470, q_up_far, q_row_row, q_row_self, q_row_ne, q_up_ne, q_up_eq, q_rowup, ud_eq, ud_ne, q_add_id, q_sub_id, q_mul_id, q_w_eq, q_rem_n, q_div_n, ↓reduceIte, leT, leF, ltT, ltF, eqT, eqF, true_or, or_true, false_or, or_false, true_and, and_true, false_and, and_false, or_self, and_self, Option.bind_some, ]
      have gf : ∀ y, (y < 52 ∨ 76 ≤ y) → y ≠ 1 → G' y = G y := fun y hy h1 => by rw [← eG]; simp (disch := omega) only [q_470, q_up_far, q_row_row, q_row_self, q_row_ne, q_up_ne, q_up_eq, q_rowup, ud_eq, ud_ne, q_add_id, q_sub_id, q_mul_id, q_w_eq, q_rem_n, q_div_n, ↓reduceIte, leT, leF, ltT, ltF, eqT, eqF, true_or, or_true, false_or, or_false, true_and, and_true, false_and, and_false, or_self, and_self, Option.bind_some, ]
      have gd : ∀ y, 52 ≤ y → y < 76 → (y - 52) % 6 ≠ d → G' y = G y := fun y h0 h1 h2 => by rw [← eG]; simp (disch := omega) only [q_470, q_up_far, q_row_row, q_row_self, q_row_ne, q_up_ne, q_up_eq, q_rowup, ud_eq, ud_ne, q_add_id, q_sub_id, q_mul_id, q_w_eq, q_rem_n, q_div_n, ↓reduceIte, leT, leF, ltT, ltF, eqT, eqF, true_or, or_true, false_or, or_false, true_and, and_true, false_and, and_false, or_self, and_self, Option.bind_some, ]
      have n0 : G' (52 + d) = p := by rw [← eG]; simp (disch := omega) only [q_470, q_up_far, q_row_row, q_row_self, q_row_ne, q_up_ne, q_up_eq, q_rowup, ud_eq, ud_ne, q_add_id, q_sub_id, q_mul_id, q_w_eq, q_rem_n, q_div_n, ↓reduceIte, leT, leF, ltT, ltF, eqT, eqF, true_or, or_true, false_or, or_false, true_and, and_true, false_and, and_false, or_self, and_self, Option.bind_some, ]
      have n1 : G' (58 + d) = s := by rw [← eG]; simp (disch := omega) only [q_470, q_up_far, q_row_row, q_row_self, q_row_ne, q_up_ne, q_up_eq, q_rowup, ud_eq, ud_ne, q_add_id, q_sub_id, q_mul_id, q_w_eq, q_rem_n, q_div_n, ↓reduceIte, leT, leF, ltT, ltF, eqT, eqF, true_or, or_true, false_or, or_false, true_and, and_true, false_and, and_false, or_self, and_self, Option.bind_some, ]
      have n2 : G' (64 + d) = t := by rw [← eG]; simp (disch := omega) only [q_470, q_up_far, q_row_row, q_row_self, q_row_ne, q_up_ne, q_up_eq, q_rowup, ud_eq, ud_ne, q_add_id, q_sub_id, q_mul_id, q_w_eq, q_rem_n, q_div_n, ↓reduceIte, leT, leF, ltT, ltF, eqT, eqF, true_or, or_true, false_or, or_false, true_and, and_true, false_and, and_false, or_self, and_self, Option.bind_some, ]
      have n3 : G' (70 + d) = 0 := by rw [← eG]; simp (disch := omega) only [q_470, q_up_far, q_row_row, q_row_self, q_row_ne, q_up_ne, q_up_eq, q_rowup, ud_eq, ud_ne, q_add_id, q_sub_id, q_mul_id, q_w_eq, q_rem_n, q_div_n, ↓reduceIte, leT, leF, ltT, ltF, eqT, eqF, true_or, or_true, false_or, or_false, true_and, and_true, false_and, and_false, or_self, and_self, Option.bind_some, ]
      refine ⟨d, hc, q_row hc 470 G', ?_, ?_, hi.world2 hw1 ?_ ?_ ?_ ?_ ?_, ?_⟩
      · rw [← ehc]
        simp (disch := omega) only [q_470, q_up_far, q_row_row, q_row_self, q_row_ne, q_up_ne, q_up_eq, q_rowup, ud_eq, ud_ne, q_add_id, q_sub_id, q_mul_id, q_w_eq, q_rem_n, q_div_n, ↓reduceIte, leT, leF, ltT, ltF, eqT, eqF, true_or, or_true, false_or, or_false, true_and, and_true, false_and, and_false, or_self, and_self, Option.bind_some, ew, hp.w4 iw, hp.w5 iw, hp.w6 iw, hp.w7 iw, hp.w8 iw, hp.dish iw, hp.craft iw, hp.ask iw, hp.t6, hs.rains iw, hs.dishes iw, hs.crafts iw, hs.asks iw, hs.k468, hr.hour wr, hr.nd wr, hr.nc wr, hr.na wr, ed, k_X11_outside, c_X11_dish, e_X11_dish_0, e_X11_dish_6, e_X11_dish_16, e_X11_dish_25, e_X11_dish_28, e_X11_dish_34, e_X11_dish_53, e_X11_dish_64, c_X10_addDish, e_X10_addDish_0, e_X10_addDish_15, c_X3_begin, e_X3_begin_0, Int.add_sub_cancel]
      · rw [← ehc, ← eG]
        simp (disch := omega) only [q_470, q_up_far, q_row_row, q_row_self, q_row_ne, q_up_ne, q_up_eq, q_rowup, ud_eq, ud_ne, q_add_id, q_sub_id, q_mul_id, q_w_eq, q_rem_n, q_div_n, ↓reduceIte, leT, leF, ltT, ltF, eqT, eqF, true_or, or_true, false_or, or_false, true_and, and_true, false_and, and_false, or_self, and_self, Option.bind_some, hp.m0, hp.m6, hs.k470, hs.k474, hG, ed, k_X12_in, c_X12_dish, e_X12_dish_0, e_X12_dish_4, e_X12_dish_14, e_X12_dish_23, e_X12_dish_26, e_X12_dish_32, e_X12_dish_54, c_X12_isPlace, e_X12_isPlace_0, e_X12_isPlace_6]
      · rw [← ehc]
        exact ((((hp.up (pn_dish iw (by omega) (by omega))).up (pn_dish iw (by omega) (by omega))).up (pn_dish iw (by omega) (by omega))).up (pn_dish iw (by omega) (by omega))).up (VP_w0 iw (by omega))
      · intro k j hk _
        rw [far k (by omega) (by omega)]
      · refine ⟨?_, ?_, ?_⟩
        · intro x mx lx
          have cb := cel_b mx
          by_cases x1 : x = 1
          · subst x1
            rw [lo_nd.1, lo_nd.2.1, g1, ← ehc]
            simp (disch := omega) only [q_470, q_up_far, q_row_row, q_row_self, q_row_ne, q_up_ne, q_up_eq, q_rowup, ud_eq, ud_ne, q_add_id, q_sub_id, q_mul_id, q_w_eq, q_rem_n, q_div_n, ↓reduceIte, leT, leF, ltT, ltF, eqT, eqF, true_or, or_true, false_or, or_false, true_and, and_true, false_and, and_false, or_self, and_self, Option.bind_some, ]
          · by_cases xd : 52 ≤ x ∧ x < 76 ∧ (x - 52) % 6 = d
            · have : x = 52 + d ∨ x = 58 + d ∨ x = 64 + d ∨ x = 70 + d := by omega
              rcases this with z | z | z | z
              · have lo := lo_place (d := d) (by omega) (by omega)
                rw [z, lo.1, lo.2.1, n0, ← ehc]; simp (disch := omega) only [q_up_ne, q_up_eq]
              · have lo := lo_size (d := d) (by omega) (by omega)
                rw [z, lo.1, lo.2.1, n1, ← ehc]; simp (disch := omega) only [q_up_ne, q_up_eq]
              · have lo := lo_turn (d := d) (by omega) (by omega)
                rw [z, lo.1, lo.2.1, n2, ← ehc]; simp (disch := omega) only [q_up_ne, q_up_eq]
              · have lo := lo_broken (d := d) (by omega) (by omega)
                rw [z, lo.1, lo.2.1, n3, ← ehc]; simp (disch := omega) only [q_up_ne, q_up_eq]
            · have ge : G' x = G x := by
                by_cases y : 52 ≤ x ∧ x < 76
                · exact gd x y.1 y.2 (fun e => xd ⟨y.1, y.2, e⟩)
                · exact gf x (by omega) x1
              have lv : Live G x := by
                unfold Live at lx ⊢
                rw [g1, gf 2 (by omega) (by omega), gf 3 (by omega) (by omega)] at lx
                obtain ⟨a1, a2, a3, a4, a5, a6, a7, a8, a9⟩ := lx
                refine ⟨?_, a2, a3, a4, ?_, ?_, a7, ?_, a9⟩
                · intro z1 z2; have := a1 z1 z2; omega
                · intro z1 z2; have := a5 z1 z2; rw [gf _ (by omega) (by omega)] at this; exact this
                · intro z1 z2; have := a6 z1 z2; rw [gf _ (by omega) (by omega)] at this; exact this
                · intro z1 z2; have := a8 z1 z2; rw [gf _ (by omega) (by omega)] at this; exact this
              have nd : cel x ≠ 7 + d := by
                intro e
                have l1 := lv.1
                unfold Mp at mx
                unfold cel at e
                repeat' split at e
                all_goals omega
              rw [ge]
              have := hr.1 x mx lv
              by_cases c0 : cel x = 0
              · have sl : slt x ≠ 1 := by
                  intro e
                  exact x1 (loc_inj mx lo_nd.2.2 (by rw [c0, lo_nd.1]) (by rw [e, lo_nd.2.1]))
                rw [c0, Int.add_zero] at this ⊢
                rw [farw _ sl]; exact this
              · rw [far _ (by omega) (by omega)]; exact this
        · intro c s' h0 h1 h2 h3
          rw [gf 2 (by omega) (by omega)] at h1
          rw [far _ (by omega) (by omega), gf _ (by omega) (by omega)]
          exact hr.2.1 c s' h0 h1 h2 h3
        · intro i h0 h1
          rw [far _ (by omega) (by omega), gf _ (by omega) (by omega)]
          exact hr.2.2 i h0 h1
      · have w1 := ((((wr.set (52, 58, 0, 2) (i := 52 + d) (v := p) (by decide) (by show (52 : Int) ≤ _; omega) (by show _ < (58 : Int); omega) (by show (0 : Int) ≤ p; omega) (by show p ≤ (2 : Int); omega)).set (58, 64, 0, 9) (i := 58 + d) (v := s) (by decide) (by show (58 : Int) ≤ _; omega) (by show _ < (64 : Int); omega) (by show (0 : Int) ≤ s; omega) (by show s ≤ (9 : Int); omega)).set (64, 70, 0, 3) (i := 64 + d) (v := t) (by decide) (by show (64 : Int) ≤ _; omega) (by show _ < (70 : Int); omega) (by show (0 : Int) ≤ t; omega) (by show t ≤ (3 : Int); omega)).set (70, 76, 0, 1) (i := 70 + d) (v := 0) (by decide) (by show (70 : Int) ≤ _; omega) (by show _ < (76 : Int); omega) (by decide) (by decide)).set (1, 2, 0, 6) (i := 1) (v := d + 1) (by decide) (by decide) (by decide) (by show (0 : Int) ≤ d + 1; omega) (by show d + 1 ≤ (6 : Int); omega)
        rw [eG] at w1
        refine ⟨w1, wf.2.1.fr wr (fun x hx => gf x (by omega) (by omega)), ?_, wf.2.2.2.1.fr wr (fun x hx => gf x (by omega) (by omega)), wf.2.2.2.2.fr wr (gf _ (by omega) (by omega)) (fun x hx => gf x (by omega) (by omega))⟩
        intro a a0 a1
        rw [gf 3 (by omega) (by omega)] at a1
        have := wf.2.2.1 a a0 a1
        rw [g1, gf 0 (by omega) (by omega), gf 2 (by omega) (by omega), gf (410 + a) (by omega) (by omega), gf (424 + a) (by omega) (by omega), gf (494 + a) (by omega) (by omega), gf (480 + a) (by omega) (by omega), gf (508 + a) (by omega) (by omega)]
        rw [ed] at this
        exact ⟨this.1, this.2.1, by omega, this.2.2.2.1, this.2.2.2.2⟩
      · rw [gf 0 (by omega) (by omega)]; exact hh
      · intro k hk
        exact ⟨by rw [q_row_ne (by omega), far _ (by omega) (by omega)], far _ (by omega) (by omega)⟩
  · by_cases a1 : 0 ≤ p ∧ p ≤ 2 <;> by_cases a2 : 1 ≤ s ∧ s ≤ 9 <;> by_cases a3 : 0 ≤ t ∧ t ≤ 3 <;> first | (exfalso; omega) | skip
    all_goals
      refine ⟨-1000001, (q_up h 468 0 (q_add (h 468 0) 1)), q_up (q_up h 468 0 (q_add (h 468 0) 1)) 474 0 (q_add (h 474 0) 1), ?_, ?_, hi.find 0 (by decide) (by decide), fun k hk => ⟨by rw [q_up_far (by omega), q_up_far (by omega)], by rw [q_up_far (by omega)]⟩⟩
      · simp (disch := omega) only [q_470, q_up_far, q_row_row, q_row_self, q_row_ne, q_up_ne, q_up_eq, q_rowup, ud_eq, ud_ne, q_add_id, q_sub_id, q_mul_id, q_w_eq, q_rem_n, q_div_n, ↓reduceIte, leT, leF, ltT, ltF, eqT, eqF, true_or, or_true, false_or, or_false, true_and, and_true, false_and, and_false, or_self, and_self, Option.bind_some, ew, hp.w4 iw, hp.w5 iw, hp.w6 iw, hp.w7 iw, hp.w8 iw, hp.dish iw, hp.craft iw, hp.ask iw, hp.t6, hs.rains iw, hs.dishes iw, hs.crafts iw, hs.asks iw, hs.k468, hr.hour wr, hr.nd wr, hr.nc wr, hr.na wr, k_X11_outside, k_f0 hp.t6 hs.k468, c_X11_dish, e_X11_dish_0, e_X11_dish_6, e_X11_dish_16, e_X11_dish_25, e_X11_dish_28, e_X11_dish_34, e_X11_dish_53, e_X11_dish_64]
      · simp (disch := omega) only [q_470, q_up_far, q_row_row, q_row_self, q_row_ne, q_up_ne, q_up_eq, q_rowup, ud_eq, ud_ne, q_add_id, q_sub_id, q_mul_id, q_w_eq, q_rem_n, q_div_n, ↓reduceIte, leT, leF, ltT, ltF, eqT, eqF, true_or, or_true, false_or, or_false, true_and, and_true, false_and, and_false, or_self, and_self, Option.bind_some, hp.m0, hp.m6, hs.k470, hs.k474, hG, k_X12_in, k_g0 (sh := sh) (h := (q_up h 468 0 (q_add (h 468 0) 1))) (by rw [q_up_far (by decide)]; exact hp.m6) hs.k474, c_X12_dish, e_X12_dish_0, e_X12_dish_4, e_X12_dish_14, e_X12_dish_23, e_X12_dish_26, e_X12_dish_32, e_X12_dish_54, c_X12_isPlace, e_X12_isPlace_0, e_X12_isPlace_6]
