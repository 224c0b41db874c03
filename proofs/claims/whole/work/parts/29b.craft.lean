/-- the entries of a craft -/
def CR (x c : Int) : Prop := (76 ≤ x ∧ x < 156 ∧ (x - 76) % 8 = c) ∨ (156 ≤ x ∧ x < 180 ∧ (x - 156) / 3 = c) ∨ (180 ≤ x ∧ x < 204 ∧ (x - 180) / 3 = c) ∨ (204 ≤ x ∧ x < 300 ∧ (x - 204) / 12 = c) ∨ (300 ≤ x ∧ x < 396 ∧ (x - 300) / 12 = c) ∨ (522 ≤ x ∧ x < 1098 ∧ (x - 522) / 12 % 8 = c) ∨ (1098 ≤ x ∧ x < 1162 ∧ (x - 1098) / 8 = c)
theorem cel_lo {x : Int} (h1 : x < 76) : cel x < 13 := by
  unfold cel
  by_cases a : x < 10
  · rw [if_pos a]; omega
  · by_cases b : x < 52
    · rw [if_neg a, if_pos b]; omega
    · rw [if_neg a, if_neg b, if_pos h1]; omega
theorem cel_as {x : Int} (h0 : 396 ≤ x) (h1 : x < 522) : cel x = 133 + (x - 396) % 14 := by
  unfold cel
  rw [if_neg (by omega), if_neg (by omega), if_neg (by omega), if_neg (by omega), if_neg (by omega), if_neg (by omega), if_neg (by omega), if_neg (by omega), if_pos (by omega)]
theorem cel_od {x : Int} (h0 : 1162 ≤ x) : cel x = 6 := by
  unfold cel
  rw [if_neg (by omega), if_neg (by omega), if_neg (by omega), if_neg (by omega), if_neg (by omega), if_neg (by omega), if_neg (by omega), if_neg (by omega), if_neg (by omega), if_neg (by omega), if_neg (by omega), if_neg (by omega), if_neg (by omega), if_neg (by omega), if_neg (by omega), if_neg (by omega)]
theorem cel_r3 {x : Int} (h0 : 76 ≤ x) (h1 : x < 156) : 13 + 15 * ((x - 76) % 8) ≤ cel x ∧ cel x < 28 + 15 * ((x - 76) % 8) := by
  unfold cel
  rw [if_neg (by omega), if_neg (by omega), if_neg (by omega), if_pos (by omega)]
  repeat' split
  all_goals omega
theorem cel_r4 {x : Int} (h0 : 156 ≤ x) (h1 : x < 180) : cel x = 13 + 15 * ((x - 156) / 3) + 1 := by
  unfold cel
  rw [if_neg (by omega), if_neg (by omega), if_neg (by omega), if_neg (by omega), if_pos (by omega)]
theorem cel_r5 {x : Int} (h0 : 180 ≤ x) (h1 : x < 204) : cel x = 13 + 15 * ((x - 180) / 3) + 2 := by
  unfold cel
  rw [if_neg (by omega), if_neg (by omega), if_neg (by omega), if_neg (by omega), if_neg (by omega), if_pos (by omega)]
theorem cel_r6 {x : Int} (h0 : 204 ≤ x) (h1 : x < 300) : cel x = 13 + 15 * ((x - 204) / 12) + 4 := by
  unfold cel
  rw [if_neg (by omega), if_neg (by omega), if_neg (by omega), if_neg (by omega), if_neg (by omega), if_neg (by omega), if_pos (by omega)]
theorem cel_r7 {x : Int} (h0 : 300 ≤ x) (h1 : x < 396) : cel x = 13 + 15 * ((x - 300) / 12) + 5 := by
  unfold cel
  rw [if_neg (by omega), if_neg (by omega), if_neg (by omega), if_neg (by omega), if_neg (by omega), if_neg (by omega), if_neg (by omega), if_pos (by omega)]
theorem cel_r9 {x : Int} (h0 : 522 ≤ x) (h1 : x < 1098) : 13 + 15 * ((x - 522) / 12 % 8) ≤ cel x ∧ cel x < 28 + 15 * ((x - 522) / 12 % 8) := by
  unfold cel
  rw [if_neg (by omega), if_neg (by omega), if_neg (by omega), if_neg (by omega), if_neg (by omega), if_neg (by omega), if_neg (by omega), if_neg (by omega), if_neg (by omega)]
  repeat' split
  all_goals omega
theorem cel_r15 {x : Int} (h0 : 1098 ≤ x) (h1 : x < 1162) : cel x = 13 + 15 * ((x - 1098) / 8) + 14 := by
  unfold cel
  rw [if_neg (by omega), if_neg (by omega), if_neg (by omega), if_neg (by omega), if_neg (by omega), if_neg (by omega), if_neg (by omega), if_neg (by omega), if_neg (by omega), if_neg (by omega), if_neg (by omega), if_neg (by omega), if_neg (by omega), if_neg (by omega), if_neg (by omega), if_pos (by omega)]
theorem cel_cr1 {x c : Int} (c0 : 0 ≤ c) (c1 : c < 8) (h0 : 13 + 15 * c ≤ cel x) (h1 : cel x < 28 + 15 * c) : CR x c := by
  unfold CR
  by_cases a1 : x < 76
  · have := cel_lo a1; exfalso; omega
  by_cases a2 : x < 156
  · have := cel_r3 (by omega) a2
    exact Or.inl ⟨by omega, a2, by omega⟩
  by_cases a3 : x < 180
  · have := cel_r4 (by omega) a3
    exact Or.inr (Or.inl ⟨by omega, a3, by omega⟩)
  by_cases a4 : x < 204
  · have := cel_r5 (by omega) a4
    exact Or.inr (Or.inr (Or.inl ⟨by omega, a4, by omega⟩))
  by_cases a5 : x < 300
  · have := cel_r6 (by omega) a5
    exact Or.inr (Or.inr (Or.inr (Or.inl ⟨by omega, a5, by omega⟩)))
  by_cases a6 : x < 396
  · have := cel_r7 (by omega) a6
    exact Or.inr (Or.inr (Or.inr (Or.inr (Or.inl ⟨by omega, a6, by omega⟩))))
  by_cases a7 : x < 522
  · have := cel_as (by omega) a7; exfalso; omega
  by_cases a8 : x < 1098
  · have := cel_r9 (by omega) a8
    exact Or.inr (Or.inr (Or.inr (Or.inr (Or.inr (Or.inl ⟨by omega, a8, by omega⟩)))))
  by_cases a9 : x < 1162
  · have := cel_r15 (by omega) a9
    exact Or.inr (Or.inr (Or.inr (Or.inr (Or.inr (Or.inr ⟨by omega, a9, by omega⟩)))))
  · have := cel_od (x := x) (by omega); exfalso; omega
theorem cel_cr2 {x c : Int} (c0 : 0 ≤ c) (c1 : c < 8) (h : CR x c) : 13 + 15 * c ≤ cel x ∧ cel x < 28 + 15 * c := by
  unfold CR at h
  rcases h with h | h | h | h | h | h | h
  · have := cel_r3 h.1 h.2.1; omega
  · have := cel_r4 h.1 h.2.1; omega
  · have := cel_r5 h.1 h.2.1; omega
  · have := cel_r6 h.1 h.2.1; omega
  · have := cel_r7 h.1 h.2.1; omega
  · have := cel_r9 h.1 h.2.1; omega
  · have := cel_r15 h.1 h.2.1; omega
theorem q_r470a (h : Int → Int → Int) (i v : Int) : q_up h 470 i v 469 = h 469 := q_up_far (by decide)
theorem q_r470b (h : Int → Int → Int) (i v : Int) : q_up h 470 i v 470 = ud (h 470) i v := by rw [q_up_row, q_row_self]
theorem r_craft_ok {sh : Int × (Int → Nat × Int)} {h : Int → Int → Int} {l f x c : Int} {G : Int → Int} (e0 : h 469 0 = 470) (ln : (sh.2 470).2 = 1354) (hG : h 470 = G) (ed : G 2 = c) (c0 : 0 ≤ c) (c1 : c < 8) (l0 : 1 ≤ l) (l1 : l ≤ 9) (f0 : 0 ≤ f) (f1 : f ≤ 30) (x0 : 10 ≤ x) (x1 : x ≤ 129) (x2 : x % 10 ≤ 6) : q_Cc 174 [(22, 469), (0, l), (0, f), (0, x)] (sh, h) = some ((0, c), (sh, q_row h 470 (ud (ud (ud (ud (ud G (76 + c) l) (84 + c) f) (92 + c) (x / 10)) (100 + c) (x % 10)) 2 (c + 1)))) := by
  have d1 : q_div x 10 = x / 10 := q_div_n (by omega) (by omega) (by decide) (by decide)
  have d2 : q_rem x 10 = x % 10 := q_rem_n (by omega) (by omega) (by decide) (by decide)
  have v1 : q_Cc 162 [(0, l), (0, 1), (0, 9)] (sh, h) = some ((0, 1), (sh, h)) := by rw [k_X12_in, if_neg (by omega)]
  have v2 : q_Cc 162 [(0, f), (0, 0), (0, 30)] (sh, h) = some ((0, 1), (sh, h)) := by rw [k_X12_in, if_neg (by omega)]
  have v3 : q_Cc 162 [(0, x / 10), (0, 1), (0, 12)] (sh, h) = some ((0, 1), (sh, h)) := by rw [k_X12_in, if_neg (by omega)]
  rw [c_X12_craft, e_X12_craft_0, v1, Option.bind_some, e_X12_craft_7, if_neg (by decide), v2, Option.bind_some, e_X12_craft_17, if_neg (by decide), if_neg (by omega), if_neg (by decide), d1, v3, Option.bind_some, e_X12_craft_34, d1, d2]
  simp only [e0, q_r470a, q_r470b, hG, ed, ln]
  have a1 : q_add 76 c = 76 + c := q_add_id (by omega) (by omega)
  have a2 : q_add 84 c = 84 + c := q_add_id (by omega) (by omega)
  have a3 : q_add 92 c = 92 + c := q_add_id (by omega) (by omega)
  have a4 : q_add 100 c = 100 + c := q_add_id (by omega) (by omega)
  have a5 : ud (ud (ud (ud G (76 + c) l) (84 + c) f) (92 + c) (x / 10)) (100 + c) (x % 10) 2 = c := by rw [ud_ne (by omega), ud_ne (by omega), ud_ne (by omega), ud_ne (by omega), ed]
  have a6 : q_add c 1 = c + 1 := q_add_id (by omega) (by omega)
  simp only [a1, a2, a3, a4, a5, a6]
  simp (disch := omega) only [q_470, q_up_far, q_row_row, q_row_self, q_row_ne, q_up_ne, q_up_eq, q_rowup, ud_eq, ud_ne, q_add_id, q_sub_id, q_mul_id, q_w_eq, q_rem_n, q_div_n, ↓reduceIte, leT, leF, ltT, ltF, eqT, eqF, true_or, or_true, false_or, or_false, true_and, and_true, false_and, and_false, or_self, and_self, Option.bind_some, ]
  simp only [q_up_row, q_row_row, q_row_self, hG]
theorem q_div_neg {x : Int} (hx : q_i32 x) (h : x < 0) : q_div x 10 ≤ 0 := by
  rw [q_div_t hx (by decide) (by decide)]
  have e : x = -(-x) := by omega
  rw [e, Int.neg_tdiv, Int.tdiv_eq_ediv_of_nonneg (by omega)]
  omega
set_option maxHeartbeats 4000000 in
theorem st_craft (l f x : Int) (hx : q_i32 x) : Step 111 174 [(0, l), (0, f), (0, x)] := by
  intro sh h hs ho hi
  obtain ⟨w, G, hw1, iw, ew, hG, hp, hr, wf, hh⟩ := hi.opn
  have wr := wf.1
  have u0 := wr.hour; have u1 := wr.nd; have u2 := wr.nc; have u3 := wr.na
  obtain ⟨hx1, hx2⟩ := id hx
  by_cases v1 : (1 ≤ l ∧ l ≤ 9) ∧ (0 ≤ f ∧ f ≤ 30) ∧ 10 ≤ x ∧ x ≤ 129 ∧ x % 10 ≤ 6
  · by_cases v2 : G 2 = 8
    · refine ⟨-1000002, (q_up h 468 1 (q_add (h 468 1) 1)), q_up (q_up h 468 1 (q_add (h 468 1) 1)) 474 1 (q_add (h 474 1) 1), ?_, ?_, hi.find 1 (by decide) (by decide), fun k hk => ⟨by rw [q_up_far (by omega), q_up_far (by omega)], by rw [q_up_far (by omega)]⟩⟩
      · simp (disch := omega) only [q_470, q_up_far, q_row_row, q_row_self, q_row_ne, q_up_ne, q_up_eq, q_rowup, ud_eq, ud_ne, q_add_id, q_sub_id, q_mul_id, q_w_eq, q_rem_n, q_div_n, ↓reduceIte, leT, leF, ltT, ltF, eqT, eqF, true_or, or_true, false_or, or_false, true_and, and_true, false_and, and_false, or_self, and_self, Option.bind_some, ew, hp.w4 iw, hp.w5 iw, hp.w6 iw, hp.w7 iw, hp.w8 iw, hp.dish iw, hp.craft iw, hp.ask iw, hp.t6, hs.rains iw, hs.dishes iw, hs.crafts iw, hs.asks iw, hs.k468, hr.hour wr, hr.nd wr, hr.nc wr, hr.na wr, k_X11_outside, k_f1 hp.t6 hs.k468, v2, c_X11_craft, e_X11_craft_0, e_X11_craft_19, e_X11_craft_29, e_X11_craft_40, e_X11_craft_51, e_X11_craft_54, e_X11_craft_60, e_X11_craft_79, e_X11_craft_93]
      · simp (disch := omega) only [q_470, q_up_far, q_row_row, q_row_self, q_row_ne, q_up_ne, q_up_eq, q_rowup, ud_eq, ud_ne, q_add_id, q_sub_id, q_mul_id, q_w_eq, q_rem_n, q_div_n, ↓reduceIte, leT, leF, ltT, ltF, eqT, eqF, true_or, or_true, false_or, or_false, true_and, and_true, false_and, and_false, or_self, and_self, Option.bind_some, hp.m0, hp.m6, hs.k470, hs.k474, hG, k_X12_in, k_g1 (sh := sh) (h := (q_up h 468 1 (q_add (h 468 1) 1))) (by rw [q_up_far (by decide)]; exact hp.m6) hs.k474, v2, c_X12_craft, e_X12_craft_0, e_X12_craft_7, e_X12_craft_17, e_X12_craft_34, e_X12_craft_46, e_X12_craft_52, e_X12_craft_74]
    · obtain ⟨c, ed⟩ : ∃ c, G 2 = c := ⟨_, rfl⟩
      rw [ed] at u2 v2
      obtain ⟨r, er⟩ : ∃ r, x / 10 = r := ⟨_, rfl⟩
      obtain ⟨t, et⟩ : ∃ t, x % 10 = t := ⟨_, rfl⟩
      have r0 : 1 ≤ r ∧ r ≤ 12 := by omega
      have t0 : 0 ≤ t ∧ t ≤ 6 := by omega
      obtain ⟨hc, ehc⟩ : ∃ hc, q_up (begH h (w + 13 + 15 * c) l f r t) w 2 (c + 1) = hc := ⟨_, rfl⟩
      obtain ⟨G', eG⟩ : ∃ G', ud (ud (ud (ud (ud G (76 + c) l) (84 + c) f) (92 + c) r) (100 + c) t) 2 (c + 1) = G' := ⟨_, rfl⟩
      obtain ⟨z1, z2, z3, z4, z5, z6, z7, z8⟩ := wf.2.2.2.2 c (by omega) (by omega)
      have far : ∀ a, a ≠ w → (a < w + 13 + 15 * c ∨ w + 13 + 15 * c + 15 ≤ a) → hc a = h a := fun a a1 a2 => by rw [← ehc, q_up_far a1, begH_far a2]
      have farw : ∀ j, j ≠ 2 → hc w j = h w j := fun j hj => by rw [← ehc, q_up_ne (by omega), begH_far (by omega)]
      have hb2 : begH h (w + 13 + 15 * c) l f r t w 2 = c := by rw [begH_far (by omega), hr.nc wr, ed]
      have kb := k_begin (sh := sh) (h := h) (k := w + 13 + 15 * c) (l := l) (f := f) (r := r) (t := t) (by omega) (hp.upFrom iw c (by omega) (by omega)) (hp.upFor iw c (by omega) (by omega)) (hp.blocks iw c (by omega) (by omega)) (hp.orders iw c (by omega) (by omega)) (hp.quiet iw c (by omega) (by omega)) (hp.next iw c (by omega) (by omega)) (hs.c1 iw c (by omega) (by omega)) (hs.c2 iw c (by omega) (by omega)) (hs.c14 iw c (by omega) (by omega))
      have g2 : G' 2 = c + 1 := by rw [← eG]; simp (disch := omega) only [q_470, q_up_far, q_row_row, q_row_self, q_row_ne, q_up_ne, q_up_eq, q_rowup, ud_eq, ud_ne, q_add_id, q_sub_id, q_mul_id, q_w_eq, q_rem_n, q_div_n, ↓reduceIte, leT, leF, ltT, ltF, eqT, eqF, true_or, or_true, false_or, or_false, true_and, and_true, false_and, and_false, or_self, and_self, Option.bind_some, ]
      have gf : ∀ y, y ≠ 76 + c → y ≠ 84 + c → y ≠ 92 + c → y ≠ 100 + c → y ≠ 2 → G' y = G y := fun y h1 h2 h3 h4 h5 => by rw [← eG]; simp (disch := omega) only [q_470, q_up_far, q_row_row, q_row_self, q_row_ne, q_up_ne, q_up_eq, q_rowup, ud_eq, ud_ne, q_add_id, q_sub_id, q_mul_id, q_w_eq, q_rem_n, q_div_n, ↓reduceIte, leT, leF, ltT, ltF, eqT, eqF, true_or, or_true, false_or, or_false, true_and, and_true, false_and, and_false, or_self, and_self, Option.bind_some, ]
      have n0 : G' (76 + c) = l := by rw [← eG]; simp (disch := omega) only [q_470, q_up_far, q_row_row, q_row_self, q_row_ne, q_up_ne, q_up_eq, q_rowup, ud_eq, ud_ne, q_add_id, q_sub_id, q_mul_id, q_w_eq, q_rem_n, q_div_n, ↓reduceIte, leT, leF, ltT, ltF, eqT, eqF, true_or, or_true, false_or, or_false, true_and, and_true, false_and, and_false, or_self, and_self, Option.bind_some, ]
      have n1 : G' (84 + c) = f := by rw [← eG]; simp (disch := omega) only [q_470, q_up_far, q_row_row, q_row_self, q_row_ne, q_up_ne, q_up_eq, q_rowup, ud_eq, ud_ne, q_add_id, q_sub_id, q_mul_id, q_w_eq, q_rem_n, q_div_n, ↓reduceIte, leT, leF, ltT, ltF, eqT, eqF, true_or, or_true, false_or, or_false, true_and, and_true, false_and, and_false, or_self, and_self, Option.bind_some, ]
      have n2 : G' (92 + c) = r := by rw [← eG]; simp (disch := omega) only [q_470, q_up_far, q_row_row, q_row_self, q_row_ne, q_up_ne, q_up_eq, q_rowup, ud_eq, ud_ne, q_add_id, q_sub_id, q_mul_id, q_w_eq, q_rem_n, q_div_n, ↓reduceIte, leT, leF, ltT, ltF, eqT, eqF, true_or, or_true, false_or, or_false, true_and, and_true, false_and, and_false, or_self, and_self, Option.bind_some, ]
      have n3 : G' (100 + c) = t := by rw [← eG]; simp (disch := omega) only [q_470, q_up_far, q_row_row, q_row_self, q_row_ne, q_up_ne, q_up_eq, q_rowup, ud_eq, ud_ne, q_add_id, q_sub_id, q_mul_id, q_w_eq, q_rem_n, q_div_n, ↓reduceIte, leT, leF, ltT, ltF, eqT, eqF, true_or, or_true, false_or, or_false, true_and, and_true, false_and, and_false, or_self, and_self, Option.bind_some, ]
      refine ⟨c, hc, q_row hc 470 G', ?_, ?_, hi.world2 hw1 ?_ ?_ ?_ ?_ ?_, ?_⟩
      · rw [← ehc]
        simp (disch := omega) only [q_470, q_up_far, q_row_row, q_row_self, q_row_ne, q_up_ne, q_up_eq, q_rowup, ud_eq, ud_ne, q_add_id, q_sub_id, q_mul_id, q_w_eq, q_rem_n, q_div_n, ↓reduceIte, leT, leF, ltT, ltF, eqT, eqF, true_or, or_true, false_or, or_false, true_and, and_true, false_and, and_false, or_self, and_self, Option.bind_some, ew, hp.w4 iw, hp.w5 iw, hp.w6 iw, hp.w7 iw, hp.w8 iw, hp.dish iw, hp.craft iw, hp.ask iw, hp.t6, hs.rains iw, hs.dishes iw, hs.crafts iw, hs.asks iw, hs.k468, hr.hour wr, hr.nd wr, hr.nc wr, hr.na wr, ed, er, et, kb, hb2, k_X11_outside, c_X11_craft, e_X11_craft_0, e_X11_craft_19, e_X11_craft_29, e_X11_craft_40, e_X11_craft_51, e_X11_craft_54, e_X11_craft_60, e_X11_craft_79, e_X11_craft_93, c_X10_addCraft, e_X10_addCraft_0, e_X10_addCraft_17, Int.add_sub_cancel]
      · rw [← eG, ← er, ← et]
        exact r_craft_ok (by rw [far _ (by omega) (by omega)]; exact hp.m0) hs.k470 (by rw [far _ (by omega) (by omega)]; exact hG) ed (by omega) (by omega) (by omega) (by omega) (by omega) (by omega) (by omega) (by omega) (by omega)
      · rw [← ehc]
        exact (begH_ptr hp iw (by omega) (by omega)).up (VP_w0 iw (by omega))
      · intro k j hk _
        rw [far k (by omega) (by omega)]
      · refine ⟨?_, ?_, ?_⟩
        · intro x' mx lx
          have cb := cel_b mx
          by_cases x1 : x' = 2
          · subst x1
            rw [lo_nc.1, lo_nc.2.1, g2, ← ehc, Int.add_zero, q_up_self]
          · by_cases xd : 13 + 15 * c ≤ cel x' ∧ cel x' < 13 + 15 * c + 15
            · have cr := cel_cr1 (by omega) (by omega) xd.1 (by omega)
              unfold Live at lx
              rw [g2] at lx
              obtain ⟨-, -, -, -, a5, a6, -, a8, -⟩ := lx
              unfold CR at cr
              rcases cr with y | y | y | y | y | y | y
              · clear a5 a6 a8 xd cb
                obtain ⟨q, eq⟩ : ∃ q, (x' - 76) / 8 = q := ⟨_, rfl⟩
                have hq : x' = 76 + 8 * q + c := by omega
                have q0 : 0 ≤ q ∧ q < 10 := by omega
                clear y eq
                have : q = 0 ∨ q = 1 ∨ q = 2 ∨ q = 3 ∨ q = 4 ∨ q = 5 ∨ q = 6 ∨ q = 7 ∨ q = 8 ∨ q = 9 := by omega
                rcases this with e | e | e | e | e | e | e | e | e | e
                · have lo := lo_loud (c := c) (by omega) (by omega)
                  have z : x' = 76 + c := by omega
                  rw [z, lo.1, lo.2.1, n0, ← ehc, q_up_far (by omega), show w + (13 + 15 * c + 0) = w + 13 + 15 * c by omega, begH_0_0]
                · have lo := lo_far (c := c) (by omega) (by omega)
                  have z : x' = 84 + c := by omega
                  rw [z, lo.1, lo.2.1, n1, ← ehc, q_up_far (by omega), show w + (13 + 15 * c + 0) = w + 13 + 15 * c by omega, begH_0_1]
                · have lo := lo_room (c := c) (by omega) (by omega)
                  have z : x' = 92 + c := by omega
                  rw [z, lo.1, lo.2.1, n2, ← ehc, q_up_far (by omega), show w + (13 + 15 * c + 3) = w + 13 + 15 * c + 3 by omega, begH_3_0]
                · have lo := lo_rate (c := c) (by omega) (by omega)
                  have z : x' = 100 + c := by omega
                  rw [z, lo.1, lo.2.1, n3, ← ehc, q_up_far (by omega), show w + (13 + 15 * c + 0) = w + 13 + 15 * c by omega, begH_0_2]
                · have lo := lo_blocks (c := c) (by omega) (by omega)
                  have z : x' = 108 + c := by omega
                  rw [z, lo.1, lo.2.1, gf _ (by omega) (by omega) (by omega) (by omega) (by omega), z1, ← ehc, q_up_far (by omega), show w + (13 + 15 * c + 3) = w + 13 + 15 * c + 3 by omega, begH_3_1]
                · have lo := lo_made (c := c) (by omega) (by omega)
                  have z : x' = 116 + c := by omega
                  rw [z, lo.1, lo.2.1, gf _ (by omega) (by omega) (by omega) (by omega) (by omega), z2, ← ehc, q_up_far (by omega), show w + (13 + 15 * c + 3) = w + 13 + 15 * c + 3 by omega, begH_3_2]
                · have lo := lo_had (c := c) (by omega) (by omega)
                  have z : x' = 124 + c := by omega
                  rw [z, lo.1, lo.2.1, gf _ (by omega) (by omega) (by omega) (by omega) (by omega), z3, ← ehc, q_up_far (by omega), show w + (13 + 15 * c + 3) = w + 13 + 15 * c + 3 by omega, begH_3_3]
                · have lo := lo_dropped (c := c) (by omega) (by omega)
                  have z : x' = 132 + c := by omega
                  rw [z, lo.1, lo.2.1, gf _ (by omega) (by omega) (by omega) (by omega) (by omega), z4, ← ehc, q_up_far (by omega), show w + (13 + 15 * c + 3) = w + 13 + 15 * c + 3 by omega, begH_3_4]
                · have lo := lo_lost (c := c) (by omega) (by omega)
                  have z : x' = 140 + c := by omega
                  rw [z, lo.1, lo.2.1, gf _ (by omega) (by omega) (by omega) (by omega) (by omega), z5, ← ehc, q_up_far (by omega), show w + (13 + 15 * c + 3) = w + 13 + 15 * c + 3 by omega, begH_3_5]
                · have lo := lo_orders (c := c) (by omega) (by omega)
                  have z : x' = 148 + c := by omega
                  rw [z, lo.1, lo.2.1, gf _ (by omega) (by omega) (by omega) (by omega) (by omega), z6, ← ehc, q_up_far (by omega), show w + (13 + 15 * c + 6) = w + 13 + 15 * c + 6 by omega, begH_6_0]
              · clear a5 a6 a8 xd cb
                obtain ⟨q, eq⟩ : ∃ q, x' = 156 + 3 * c + q := ⟨x' - (156 + 3 * c), by omega⟩
                have lo := lo_upat (c := c) (p := q) (by omega) (by omega) (by omega) (by omega)
                have zq := z7 q (by omega) (by omega)
                rw [eq, lo.1, lo.2.1, gf _ (by omega) (by omega) (by omega) (by omega) (by omega), zq.1, ← ehc, q_up_far (by omega), show w + (13 + 15 * c + 1) = w + 13 + 15 * c + 1 by omega, begH_u1 (by omega) (by omega)]
              · clear a5 a6 a8 xd cb
                obtain ⟨q, eq⟩ : ∃ q, x' = 180 + 3 * c + q := ⟨x' - (180 + 3 * c), by omega⟩
                have lo := lo_upfor (c := c) (p := q) (by omega) (by omega) (by omega) (by omega)
                have zq := z7 q (by omega) (by omega)
                rw [eq, lo.1, lo.2.1, gf _ (by omega) (by omega) (by omega) (by omega) (by omega), zq.2, ← ehc, q_up_far (by omega), show w + (13 + 15 * c + 2) = w + 13 + 15 * c + 2 by omega, begH_u2 (by omega) (by omega)]
              · exfalso
                have q := (a5 y.1 y.2.1).2
                clear a5 a6 a8 xd cb
                rw [y.2.2, gf _ (by omega) (by omega) (by omega) (by omega) (by omega), z1] at q
                omega
              · exfalso
                have q := (a6 y.1 y.2.1).2
                clear a5 a6 a8 xd cb
                rw [y.2.2, gf _ (by omega) (by omega) (by omega) (by omega) (by omega), z1] at q
                omega
              · exfalso
                have q := (a8 y.1 y.2.1).2
                clear a5 a6 a8 xd cb
                rw [y.2.2, gf _ (by omega) (by omega) (by omega) (by omega) (by omega), z6] at q
                omega
              · clear a5 a6 a8 xd cb
                obtain ⟨q, eq⟩ : ∃ q, x' = 1098 + 8 * c + q := ⟨x' - (1098 + 8 * c), by omega⟩
                have lo := lo_tto (c := c) (k := q) (by omega) (by omega) (by omega) (by omega)
                have zq := z8 q (by omega) (by omega)
                rw [eq, lo.1, lo.2.1, gf _ (by omega) (by omega) (by omega) (by omega) (by omega), zq.1, ← ehc, q_up_far (by omega), show w + (13 + 15 * c + 14) = w + 13 + 15 * c + 14 by omega, begH_n (by omega) (by omega)]
            · have nx : ∀ n, (n = 76 ∨ n = 84 ∨ n = 92 ∨ n = 100) → x' ≠ n + c := by
                intro n hn e
                apply xd
                rcases hn with rfl | rfl | rfl | rfl
                · rw [e, (lo_loud (c := c) (by omega) (by omega)).1]; omega
                · rw [e, (lo_far (c := c) (by omega) (by omega)).1]; omega
                · rw [e, (lo_room (c := c) (by omega) (by omega)).1]; omega
                · rw [e, (lo_rate (c := c) (by omega) (by omega)).1]; omega
              have ge : G' x' = G x' := gf x' (nx 76 (by omega)) (nx 84 (by omega)) (nx 92 (by omega)) (nx 100 (by omega)) x1
              have lv : Live G x' := by
                have hxd : cel x' < 13 + 15 * c ∨ 28 + 15 * c ≤ cel x' := by omega
                clear xd nx ge
                unfold Live at lx ⊢
                rw [g2, gf 1 (by omega) (by omega) (by omega) (by omega) (by omega), gf 3 (by omega) (by omega) (by omega) (by omega) (by omega)] at lx
                obtain ⟨a1, a2, a3, a4, a5, a6, a7, a8, a9⟩ := lx
                rw [ed]
                refine ⟨a1, ?_, ?_, ?_, ?_, ?_, a7, ?_, ?_⟩
                · intro y1 y2
                  have p := a2 y1 y2
                  have r := cel_r3 y1 y2
                  clear a1 a2 a3 a4 a5 a6 a7 a8 a9
                  omega
                · intro y1 y2
                  have p := a3 y1 y2
                  have r := cel_r4 y1 y2
                  clear a1 a2 a3 a4 a5 a6 a7 a8 a9
                  omega
                · intro y1 y2
                  have p := a4 y1 y2
                  have r := cel_r5 y1 y2
                  clear a1 a2 a3 a4 a5 a6 a7 a8 a9
                  omega
                · intro y1 y2
                  have q := a5 y1 y2
                  have r := cel_r6 y1 y2
                  clear a1 a2 a3 a4 a5 a6 a7 a8 a9
                  have : (x' - 204) / 12 < c := by omega
                  rw [gf _ (by omega) (by omega) (by omega) (by omega) (by omega)] at q
                  exact ⟨this, q.2⟩
                · intro y1 y2
                  have q := a6 y1 y2
                  have r := cel_r7 y1 y2
                  clear a1 a2 a3 a4 a5 a6 a7 a8 a9
                  have : (x' - 300) / 12 < c := by omega
                  rw [gf _ (by omega) (by omega) (by omega) (by omega) (by omega)] at q
                  exact ⟨this, q.2⟩
                · intro y1 y2
                  have q := a8 y1 y2
                  have r := cel_r9 y1 y2
                  clear a1 a2 a3 a4 a5 a6 a7 a8 a9
                  have : (x' - 522) / 12 % 8 < c := by omega
                  rw [gf _ (by omega) (by omega) (by omega) (by omega) (by omega)] at q
                  exact ⟨this, q.2⟩
                · intro y1 y2
                  have p := a9 y1 y2
                  have r := cel_r15 y1 y2
                  clear a1 a2 a3 a4 a5 a6 a7 a8 a9
                  omega
              rw [ge]
              have := hr.1 x' mx lv
              by_cases c0 : cel x' = 0
              · have sl : slt x' ≠ 2 := by
                  intro e
                  exact x1 (loc_inj mx lo_nc.2.2 (by rw [c0, lo_nc.1]) (by rw [e, lo_nc.2.1]))
                rw [c0, Int.add_zero] at this ⊢
                rw [farw _ sl]; exact this
              · rw [far _ (by omega) (by omega)]; exact this
        · intro c' s' h0 h1 h2 h3
          rw [g2] at h1
          by_cases ec : c' = c
          · subst ec
            rw [gf _ (by omega) (by omega) (by omega) (by omega) (by omega), (z8 s' h2 h3).2, ← ehc, q_up_far (by omega), begH_13_1]
            exact ib_zero h2 (by omega)
          · rw [far _ (by omega) (by omega), gf _ (by omega) (by omega) (by omega) (by omega) (by omega)]
            exact hr.2.1 c' s' h0 (by omega) h2 h3
        · intro i h0 h1
          rw [far _ (by omega) (by omega), gf _ (by omega) (by omega) (by omega) (by omega) (by omega)]
          exact hr.2.2 i h0 h1
      · have w1 := ((((wr.set (76, 84, 0, 9) (i := 76 + c) (v := l) (by decide) (by show (76 : Int) ≤ _; omega) (by show _ < (84 : Int); omega) (by show (0 : Int) ≤ l; omega) (by show l ≤ (9 : Int); omega)).set (84, 92, 0, 30) (i := 84 + c) (v := f) (by decide) (by show (84 : Int) ≤ _; omega) (by show _ < (92 : Int); omega) (by show (0 : Int) ≤ f; omega) (by show f ≤ (30 : Int); omega)).set (92, 100, 0, 12) (i := 92 + c) (v := r) (by decide) (by show (92 : Int) ≤ _; omega) (by show _ < (100 : Int); omega) (by show (0 : Int) ≤ r; omega) (by show r ≤ (12 : Int); omega)).set (100, 108, 0, 6) (i := 100 + c) (v := t) (by decide) (by show (100 : Int) ≤ _; omega) (by show _ < (108 : Int); omega) (by show (0 : Int) ≤ t; omega) (by show t ≤ (6 : Int); omega)).set (2, 3, 0, 8) (i := 2) (v := c + 1) (by decide) (by decide) (by decide) (by show (0 : Int) ≤ c + 1; omega) (by show c + 1 ≤ (8 : Int); omega)
        rw [eG] at w1
        refine ⟨w1, ?_, ?_, wf.2.2.2.1.fr wr (fun x hx => gf x (by omega) (by omega) (by omega) (by omega) (by omega)), ?_⟩
        · intro c' h0 h1
          rw [g2] at h1
          by_cases ec : c' = c
          · subst ec
            rw [n2, gf _ (by omega) (by omega) (by omega) (by omega) (by omega), z1]
            omega
          · rw [gf (92 + c') (by omega) (by omega) (by omega) (by omega) (by omega), gf (108 + c') (by omega) (by omega) (by omega) (by omega) (by omega)]
            exact wf.2.1 c' h0 (by omega)
        · intro a a0 a1
          rw [gf 3 (by omega) (by omega) (by omega) (by omega) (by omega)] at a1
          have := wf.2.2.1 a a0 a1
          rw [g2, gf 0 (by omega) (by omega) (by omega) (by omega) (by omega), gf 1 (by omega) (by omega) (by omega) (by omega) (by omega), gf (410 + a) (by omega) (by omega) (by omega) (by omega) (by omega), gf (424 + a) (by omega) (by omega) (by omega) (by omega) (by omega), gf (494 + a) (by omega) (by omega) (by omega) (by omega) (by omega), gf (480 + a) (by omega) (by omega) (by omega) (by omega) (by omega), gf (508 + a) (by omega) (by omega) (by omega) (by omega) (by omega)]
          rw [ed] at this
          exact ⟨by omega, this.2⟩
        · intro c' h0 h1
          rw [g2] at h0
          obtain ⟨b1, b2, b3, b4, b5, b6, b7, b8⟩ := wf.2.2.2.2 c' (by omega) h1
          rw [gf (108 + c') (by omega) (by omega) (by omega) (by omega) (by omega), gf (116 + c') (by omega) (by omega) (by omega) (by omega) (by omega), gf (124 + c') (by omega) (by omega) (by omega) (by omega) (by omega), gf (132 + c') (by omega) (by omega) (by omega) (by omega) (by omega), gf (140 + c') (by omega) (by omega) (by omega) (by omega) (by omega), gf (148 + c') (by omega) (by omega) (by omega) (by omega) (by omega)]
          refine ⟨b1, b2, b3, b4, b5, b6, ?_, ?_⟩
          · intro p p0 p1
            rw [gf (156 + 3 * c' + p) (by omega) (by omega) (by omega) (by omega) (by omega), gf (180 + 3 * c' + p) (by omega) (by omega) (by omega) (by omega) (by omega)]
            exact b7 p p0 p1
          · intro s s0 s1
            rw [gf (1098 + 8 * c' + s) (by omega) (by omega) (by omega) (by omega) (by omega), gf (1162 + 8 * c' + s) (by omega) (by omega) (by omega) (by omega) (by omega)]
            exact b8 s s0 s1
      · rw [gf 0 (by omega) (by omega) (by omega) (by omega) (by omega)]; exact hh
      · intro k hk
        exact ⟨by rw [q_row_ne (by omega), far _ (by omega) (by omega)], far _ (by omega) (by omega)⟩
  · by_cases a0 : x < 0
    · have dn := q_div_neg hx a0
      by_cases a1 : 1 ≤ l ∧ l ≤ 9 <;> by_cases a2 : 0 ≤ f ∧ f ≤ 30
      all_goals
        refine ⟨-1000001, (q_up h 468 0 (q_add (h 468 0) 1)), q_up (q_up h 468 0 (q_add (h 468 0) 1)) 474 0 (q_add (h 474 0) 1), ?_, ?_, hi.find 0 (by decide) (by decide), fun k hk => ⟨by rw [q_up_far (by omega), q_up_far (by omega)], by rw [q_up_far (by omega)]⟩⟩
        · simp (disch := omega) only [q_470, q_up_far, q_row_row, q_row_self, q_row_ne, q_up_ne, q_up_eq, q_rowup, ud_eq, ud_ne, q_add_id, q_sub_id, q_mul_id, q_w_eq, q_rem_n, q_div_n, ↓reduceIte, leT, leF, ltT, ltF, eqT, eqF, true_or, or_true, false_or, or_false, true_and, and_true, false_and, and_false, or_self, and_self, Option.bind_some, ew, hp.w4 iw, hp.w5 iw, hp.w6 iw, hp.w7 iw, hp.w8 iw, hp.dish iw, hp.craft iw, hp.ask iw, hp.t6, hs.rains iw, hs.dishes iw, hs.crafts iw, hs.asks iw, hs.k468, hr.hour wr, hr.nd wr, hr.nc wr, hr.na wr, k_X11_outside, k_f0 hp.t6 hs.k468, c_X11_craft, e_X11_craft_0, e_X11_craft_19, e_X11_craft_29, e_X11_craft_40, e_X11_craft_51, e_X11_craft_54, e_X11_craft_60, e_X11_craft_79, e_X11_craft_93]
        · simp (disch := omega) only [q_470, q_up_far, q_row_row, q_row_self, q_row_ne, q_up_ne, q_up_eq, q_rowup, ud_eq, ud_ne, q_add_id, q_sub_id, q_mul_id, q_w_eq, q_rem_n, q_div_n, ↓reduceIte, leT, leF, ltT, ltF, eqT, eqF, true_or, or_true, false_or, or_false, true_and, and_true, false_and, and_false, or_self, and_self, Option.bind_some, hp.m0, hp.m6, hs.k470, hs.k474, hG, k_X12_in, k_g0 (sh := sh) (h := (q_up h 468 0 (q_add (h 468 0) 1))) (by rw [q_up_far (by decide)]; exact hp.m6) hs.k474, c_X12_craft, e_X12_craft_0, e_X12_craft_7, e_X12_craft_17, e_X12_craft_34, e_X12_craft_46, e_X12_craft_52, e_X12_craft_74]
    · by_cases a1 : 1 ≤ l ∧ l ≤ 9 <;> by_cases a2 : 0 ≤ f ∧ f ≤ 30 <;> by_cases a3 : 1 ≤ x / 10 ∧ x / 10 ≤ 12 <;> by_cases a4 : x % 10 ≤ 6 <;> first | (exfalso; omega) | skip
      all_goals
        refine ⟨-1000001, (q_up h 468 0 (q_add (h 468 0) 1)), q_up (q_up h 468 0 (q_add (h 468 0) 1)) 474 0 (q_add (h 474 0) 1), ?_, ?_, hi.find 0 (by decide) (by decide), fun k hk => ⟨by rw [q_up_far (by omega), q_up_far (by omega)], by rw [q_up_far (by omega)]⟩⟩
        · simp (disch := omega) only [q_470, q_up_far, q_row_row, q_row_self, q_row_ne, q_up_ne, q_up_eq, q_rowup, ud_eq, ud_ne, q_add_id, q_sub_id, q_mul_id, q_w_eq, q_rem_n, q_div_n, ↓reduceIte, leT, leF, ltT, ltF, eqT, eqF, true_or, or_true, false_or, or_false, true_and, and_true, false_and, and_false, or_self, and_self, Option.bind_some, ew, hp.w4 iw, hp.w5 iw, hp.w6 iw, hp.w7 iw, hp.w8 iw, hp.dish iw, hp.craft iw, hp.ask iw, hp.t6, hs.rains iw, hs.dishes iw, hs.crafts iw, hs.asks iw, hs.k468, hr.hour wr, hr.nd wr, hr.nc wr, hr.na wr, k_X11_outside, k_f0 hp.t6 hs.k468, c_X11_craft, e_X11_craft_0, e_X11_craft_19, e_X11_craft_29, e_X11_craft_40, e_X11_craft_51, e_X11_craft_54, e_X11_craft_60, e_X11_craft_79, e_X11_craft_93]
        · simp (disch := omega) only [q_470, q_up_far, q_row_row, q_row_self, q_row_ne, q_up_ne, q_up_eq, q_rowup, ud_eq, ud_ne, q_add_id, q_sub_id, q_mul_id, q_w_eq, q_rem_n, q_div_n, ↓reduceIte, leT, leF, ltT, ltF, eqT, eqF, true_or, or_true, false_or, or_false, true_and, and_true, false_and, and_false, or_self, and_self, Option.bind_some, hp.m0, hp.m6, hs.k470, hs.k474, hG, k_X12_in, k_g0 (sh := sh) (h := (q_up h 468 0 (q_add (h 468 0) 1))) (by rw [q_up_far (by decide)]; exact hp.m6) hs.k474, c_X12_craft, e_X12_craft_0, e_X12_craft_7, e_X12_craft_17, e_X12_craft_34, e_X12_craft_46, e_X12_craft_52, e_X12_craft_74]
