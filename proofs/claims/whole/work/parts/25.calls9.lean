/-! the search -/
def bN (G : Int → Int) : Nat → Int
  | 0 => -1
  | n + 1 => if G (1290 + n) = 0 ∧ 0 < G (1226 + n) ∧ (bN G n < 0 ∨ G (1226 + bN G n) < G (1226 + n)) then n else bN G n
theorem bN_b (G : Int → Int) : ∀ n : Nat, (bN G n = -1 ∧ ∀ i : Int, 0 ≤ i → i < n → ¬ (G (1290 + i) = 0 ∧ 0 < G (1226 + i))) ∨ (0 ≤ bN G n ∧ bN G n < n ∧ G (1290 + bN G n) = 0 ∧ 0 < G (1226 + bN G n)) := by
  intro n
  induction n with
  | zero => left; exact ⟨rfl, fun i h0 h1 => by omega⟩
  | succ n ih =>
    unfold bN
    split
    · right
      rename_i e
      exact ⟨by omega, by omega, e.1, e.2.1⟩
    · rename_i e
      rcases ih with ⟨h1, h2⟩ | ⟨h1, h2, h3, h4⟩
      · left
        refine ⟨h1, ?_⟩
        intro i i0 i1 hh
        by_cases ei : i = n
        · subst ei
          exact e ⟨hh.1, hh.2, Or.inl (by omega)⟩
        · exact h2 i i0 (by omega) hh
      · right
        exact ⟨h1, by omega, h3, h4⟩
theorem k_isOpen {sh : Int × (Int → Nat × Int)} {h : Int → Int → Int} {i x s : Int} (hx : lb x i = s) (hs : s = 0 ∨ s = 1) : q_Cc 63 [(0, i), (3, x)] (sh, h) = some ((0, 1 - s), (sh, h)) := by
  have hx' : q_land (q_lshr x i) 1 = s := hx
  rcases hs with rfl | rfl <;> simp (disch := omega) only [q_470, q_up_far, q_row_row, q_row_self, q_row_ne, q_up_ne, q_up_eq, q_rowup, ud_eq, ud_ne, q_add_id, q_sub_id, q_mul_id, q_w_eq, q_rem_n, q_div_n, ↓reduceIte, leT, leF, ltT, ltF, eqT, eqF, true_or, or_true, false_or, or_false, true_and, and_true, false_and, and_false, or_self, and_self, Option.bind_some, hx', c_X6_isOpen, e_X6_isOpen_0, e_X6_isOpen_15, Int.reduceSub]
theorem k_bestBut {sh : Int × (Int → Nat × Int)} {h : Int → Int → Int} {b x : Int} {G : Int → Int} (b0 : 0 ≤ b) (p0 : h b 0 = b + 1) (l0 : (sh.2 (b + 1)).2 = 64) (ho : ∀ i, 0 ≤ i → i < 64 → h (b + 1) i = G (1226 + i)) (hx : ∀ i, 0 ≤ i → i < 64 → lb x i = G (1290 + i)) (hg : ∀ i, 0 ≤ i → i < 64 → G (1290 + i) = 0 ∨ G (1290 + i) = 1) : q_Cc 62 [(16, b), (3, x)] (sh, h) = some ((0, bN G 64), (sh, h)) := by
  rw [c_X6_bestBut, e_X6_bestBut_0]
  have := lp (fun i (y : Int × Int) => q_L 62 8 [(16, b), (3, x), (9, 0), (0, y.1), (0, y.2), (0, i)] [] (sh, h)) (fun i y => y.1 = bN G i.toNat ∧ y.2 = if bN G i.toNat < 0 then 0 else G (1226 + bN G i.toNat)) (fun r => r = some ((0, bN G 64), (sh, h))) 64 ?_ ?_ 0 (-1, 0) (by omega) (by omega) ⟨rfl, rfl⟩
  · exact this
  · intro i y i0 i1 hy
    obtain ⟨y1, y2⟩ := y
    obtain ⟨e1, e2⟩ := hy
    have e1 : y1 = bN G i.toNat := e1
    have e2 : y2 = if bN G i.toNat < 0 then 0 else G (1226 + bN G i.toNat) := e2
    have ei : (i.toNat : Int) = i := Int.toNat_of_nonneg i0
    have es : (i + 1).toNat = i.toNat + 1 := by omega
    have bb := bN_b G i.toNat
    have open1 := k_isOpen (sh := sh) (h := h) (hx i i0 i1) (hg i i0 i1)
    have bs : bN G (i.toNat + 1) = if G (1290 + i) = 0 ∧ 0 < G (1226 + i) ∧ (bN G i.toNat < 0 ∨ G (1226 + bN G i.toNat) < G (1226 + i)) then i else bN G i.toNat := by
      show (if G (1290 + (i.toNat : Int)) = 0 ∧ 0 < G (1226 + (i.toNat : Int)) ∧ (bN G i.toNat < 0 ∨ G (1226 + bN G i.toNat) < G (1226 + (i.toNat : Int))) then (i.toNat : Int) else bN G i.toNat) = _
      rw [ei]
    left
    by_cases c1 : G (1290 + i) = 0 ∧ y2 < G (1226 + i)
    · have cc : G (1290 + i) = 0 ∧ 0 < G (1226 + i) ∧ (bN G i.toNat < 0 ∨ G (1226 + bN G i.toNat) < G (1226 + i)) := by
        refine ⟨c1.1, ?_, ?_⟩
        · have := c1.2
          rw [e2] at this
          split at this
          · exact this
          · rcases bb with bb | bb <;> omega
        · have := c1.2
          rw [e2] at this
          split at this
          · left; assumption
          · right; exact this
      refine ⟨(i, G (1226 + i)), ?_, ?_, ?_⟩
      · show q_L 62 8 [(16, b), (3, x), (9, 0), (0, y1), (0, y2), (0, i)] [] (sh, h) = q_L 62 8 [(16, b), (3, x), (9, 0), (0, i), (0, G (1226 + i)), (0, i + 1)] [] (sh, h)
        rw [e_X6_bestBut_8]
        have c11 := c1.1
        have c12 := c1.2
        simp (disch := omega) only [q_470, q_up_far, q_row_row, q_row_self, q_row_ne, q_up_ne, q_up_eq, q_rowup, ud_eq, ud_ne, q_add_id, q_sub_id, q_mul_id, q_w_eq, q_rem_n, q_div_n, ↓reduceIte, leT, leF, ltT, ltF, eqT, eqF, true_or, or_true, false_or, or_false, true_and, and_true, false_and, and_false, or_self, and_self, Option.bind_some, open1, p0, l0, ho, e_X6_bestBut_21, e_X6_bestBut_48]
      · show i = bN G (i + 1).toNat
        rw [es, bs, if_pos cc]
      · show G (1226 + i) = if bN G (i + 1).toNat < 0 then 0 else G (1226 + bN G (i + 1).toNat)
        rw [es, bs, if_pos cc, if_neg (by omega)]
    · have cc : ¬ (G (1290 + i) = 0 ∧ 0 < G (1226 + i) ∧ (bN G i.toNat < 0 ∨ G (1226 + bN G i.toNat) < G (1226 + i))) := by
        intro hc
        apply c1
        refine ⟨hc.1, ?_⟩
        rw [e2]
        split
        · exact hc.2.1
        · rcases hc.2.2 with z | z
          · contradiction
          · exact z
      refine ⟨(y1, y2), ?_, ?_, ?_⟩
      · show q_L 62 8 [(16, b), (3, x), (9, 0), (0, y1), (0, y2), (0, i)] [] (sh, h) = q_L 62 8 [(16, b), (3, x), (9, 0), (0, y1), (0, y2), (0, i + 1)] [] (sh, h)
        rw [e_X6_bestBut_8]
        rcases hg i i0 i1 with g0 | g0
        · have c3 : ¬ y2 < G (1226 + i) := fun hh => c1 ⟨g0, hh⟩
          simp (disch := omega) only [q_470, q_up_far, q_row_row, q_row_self, q_row_ne, q_up_ne, q_up_eq, q_rowup, ud_eq, ud_ne, q_add_id, q_sub_id, q_mul_id, q_w_eq, q_rem_n, q_div_n, ↓reduceIte, leT, leF, ltT, ltF, eqT, eqF, true_or, or_true, false_or, or_false, true_and, and_true, false_and, and_false, or_self, and_self, Option.bind_some, open1, p0, l0, ho, g0, e_X6_bestBut_21, e_X6_bestBut_48, Int.reduceSub]
        · simp (disch := omega) only [q_470, q_up_far, q_row_row, q_row_self, q_row_ne, q_up_ne, q_up_eq, q_rowup, ud_eq, ud_ne, q_add_id, q_sub_id, q_mul_id, q_w_eq, q_rem_n, q_div_n, ↓reduceIte, leT, leF, ltT, ltF, eqT, eqF, true_or, or_true, false_or, or_false, true_and, and_true, false_and, and_false, or_self, and_self, Option.bind_some, open1, p0, l0, ho, g0, e_X6_bestBut_21, e_X6_bestBut_48, Int.reduceSub]
      · show y1 = bN G (i + 1).toNat
        rw [es, bs, if_neg cc]; exact e1
      · show y2 = if bN G (i + 1).toNat < 0 then 0 else G (1226 + bN G (i + 1).toNat)
        rw [es, bs, if_neg cc]; exact e2
  · intro y hy
    obtain ⟨y1, y2⟩ := y
    have e1 : y1 = bN G 64 := hy.1
    show q_L 62 8 [(16, b), (3, x), (9, 0), (0, y1), (0, y2), (0, 64)] [] (sh, h) = some ((0, bN G 64), (sh, h))
    rw [e_X6_bestBut_8, e1]
    simp (disch := omega) only [q_470, q_up_far, q_row_row, q_row_self, q_row_ne, q_up_ne, q_up_eq, q_rowup, ud_eq, ud_ne, q_add_id, q_sub_id, q_mul_id, q_w_eq, q_rem_n, q_div_n, ↓reduceIte, leT, leF, ltT, ltF, eqT, eqF, true_or, or_true, false_or, or_false, true_and, and_true, false_and, and_false, or_self, and_self, Option.bind_some, ]
theorem r_nextCell {sh : Int × (Int → Nat × Int)} {h : Int → Int → Int} {G : Int → Int} (e0 : h 469 0 = 470) (l : (sh.2 470).2 = 1354) (hG : h 470 = G) : q_Cc 242 [(22, 469), (0, 1290)] (sh, h) = some ((0, bN G 64), (sh, h)) := by
  rw [c_X12_nextCell, e_X12_nextCell_0]
  have := lp (fun i (y : Int × q_V) => q_L 242 4 [(22, 469), (0, 1290), (0, y.1), (0, i), y.2] [] (sh, h)) (fun i y => y.1 = bN G i.toNat) (fun r => r = some ((0, bN G 64), (sh, h))) 64 ?_ ?_ 0 (-1, (9, 0)) (by omega) (by omega) rfl
  · exact this
  · intro i y i0 i1 hy
    obtain ⟨y1, y2⟩ := y
    have e1 : y1 = bN G i.toNat := hy
    have ei : (i.toNat : Int) = i := Int.toNat_of_nonneg i0
    have es : (i + 1).toNat = i.toNat + 1 := by omega
    have bb := bN_b G i.toNat
    have bs : bN G (i.toNat + 1) = if G (1290 + i) = 0 ∧ 0 < G (1226 + i) ∧ (bN G i.toNat < 0 ∨ G (1226 + bN G i.toNat) < G (1226 + i)) then i else bN G i.toNat := by
      show (if G (1290 + (i.toNat : Int)) = 0 ∧ 0 < G (1226 + (i.toNat : Int)) ∧ (bN G i.toNat < 0 ∨ G (1226 + bN G i.toNat) < G (1226 + (i.toNat : Int))) then (i.toNat : Int) else bN G i.toNat) = _
      rw [ei]
    rw [← e1] at bs bb
    left
    show ∃ y : Int × q_V, q_L 242 4 [(22, 469), (0, 1290), (0, y1), (0, i), y2] [] (sh, h) = q_L 242 4 [(22, 469), (0, 1290), (0, y.1), (0, i + 1), y.2] [] (sh, h) ∧ y.1 = bN G (i + 1).toNat
    rw [es, bs, e_X12_nextCell_4]
    by_cases c1 : G (1290 + i) = 0
    · by_cases c2 : 0 < G (1226 + i)
      · by_cases c3 : y1 < 0
        · refine ⟨(i, (0, 1)), ?_, ?_⟩ <;> simp (disch := omega) only [q_470, q_up_far, q_row_row, q_row_self, q_row_ne, q_up_ne, q_up_eq, q_rowup, ud_eq, ud_ne, q_add_id, q_sub_id, q_mul_id, q_w_eq, q_rem_n, q_div_n, ↓reduceIte, leT, leF, ltT, ltF, eqT, eqF, true_or, or_true, false_or, or_false, true_and, and_true, false_and, and_false, or_self, and_self, Option.bind_some, e0, l, hG, e_X12_nextCell_38, e_X12_nextCell_39, e_X12_nextCell_73, e_X12_nextCell_77, e_X12_nextCell_78]
        · by_cases c4 : G (1226 + y1) < G (1226 + i)
          · refine ⟨(i, (0, 1)), ?_, ?_⟩ <;> simp (disch := omega) only [q_470, q_up_far, q_row_row, q_row_self, q_row_ne, q_up_ne, q_up_eq, q_rowup, ud_eq, ud_ne, q_add_id, q_sub_id, q_mul_id, q_w_eq, q_rem_n, q_div_n, ↓reduceIte, leT, leF, ltT, ltF, eqT, eqF, true_or, or_true, false_or, or_false, true_and, and_true, false_and, and_false, or_self, and_self, Option.bind_some, e0, l, hG, e_X12_nextCell_38, e_X12_nextCell_39, e_X12_nextCell_73, e_X12_nextCell_77, e_X12_nextCell_78]
          · refine ⟨(y1, (0, 1)), ?_, ?_⟩ <;> simp (disch := omega) only [q_470, q_up_far, q_row_row, q_row_self, q_row_ne, q_up_ne, q_up_eq, q_rowup, ud_eq, ud_ne, q_add_id, q_sub_id, q_mul_id, q_w_eq, q_rem_n, q_div_n, ↓reduceIte, leT, leF, ltT, ltF, eqT, eqF, true_or, or_true, false_or, or_false, true_and, and_true, false_and, and_false, or_self, and_self, Option.bind_some, e0, l, hG, e_X12_nextCell_38, e_X12_nextCell_39, e_X12_nextCell_73, e_X12_nextCell_77, e_X12_nextCell_78]
      · refine ⟨(y1, (0, 0)), ?_, ?_⟩ <;> simp (disch := omega) only [q_470, q_up_far, q_row_row, q_row_self, q_row_ne, q_up_ne, q_up_eq, q_rowup, ud_eq, ud_ne, q_add_id, q_sub_id, q_mul_id, q_w_eq, q_rem_n, q_div_n, ↓reduceIte, leT, leF, ltT, ltF, eqT, eqF, true_or, or_true, false_or, or_false, true_and, and_true, false_and, and_false, or_self, and_self, Option.bind_some, e0, l, hG, e_X12_nextCell_38, e_X12_nextCell_39, e_X12_nextCell_73, e_X12_nextCell_77, e_X12_nextCell_78]
    · refine ⟨(y1, (0, 0)), ?_, ?_⟩ <;> simp (disch := omega) only [q_470, q_up_far, q_row_row, q_row_self, q_row_ne, q_up_ne, q_up_eq, q_rowup, ud_eq, ud_ne, q_add_id, q_sub_id, q_mul_id, q_w_eq, q_rem_n, q_div_n, ↓reduceIte, leT, leF, ltT, ltF, eqT, eqF, true_or, or_true, false_or, or_false, true_and, and_true, false_and, and_false, or_self, and_self, Option.bind_some, e0, l, hG, e_X12_nextCell_38, e_X12_nextCell_39, e_X12_nextCell_73, e_X12_nextCell_77, e_X12_nextCell_78]
  · intro y hy
    obtain ⟨y1, y2⟩ := y
    have e1 : y1 = bN G 64 := hy
    show q_L 242 4 [(22, 469), (0, 1290), (0, y1), (0, 64), y2] [] (sh, h) = some ((0, bN G 64), (sh, h))
    rw [e_X12_nextCell_4, e1]
    simp (disch := omega) only [q_470, q_up_far, q_row_row, q_row_self, q_row_ne, q_up_ne, q_up_eq, q_rowup, ud_eq, ud_ne, q_add_id, q_sub_id, q_mul_id, q_w_eq, q_rem_n, q_div_n, ↓reduceIte, leT, leF, ltT, ltF, eqT, eqF, true_or, or_true, false_or, or_false, true_and, and_true, false_and, and_false, or_self, and_self, Option.bind_some, ]
theorem st_cell (i v : Int) : Step 141 241 [(0, i), (0, v)] := by
  intro sh h hs ho hi
  obtain ⟨w, G, hw1, iw, ew, hG, hp, hr, wf, hh⟩ := hi.opn
  have wr := wf.1
  have u0 := wr.hour; have u1 := wr.nd; have u2 := wr.nc; have u3 := wr.na
  by_cases v1 : (0 ≤ i ∧ i ≤ 63) ∧ 0 ≤ v ∧ v ≤ 99
  · have wf1 := wf.set (i := 1226 + i) (v := v) (1226, 1290, 0, 99) (by decide) (by show (1226 : Int) ≤ _; omega) (by show _ < (1290 : Int); omega) (by show (0 : Int) ≤ _; omega) (by show _ ≤ (99 : Int); omega) (by omega)
    have hr1 := hr.set wr (v := v) (lo_odds (j := i) (by omega) (by omega)) (a := w + 6) (by omega) (by omega)
    refine ⟨G (1226 + i), q_up (q_up h (w + 6) i v) (w + 5) 1 (q_land (h (w + 5) 1) (q_lxor (q_lshl 1 i) (-1))), q_row (q_up (q_up h (w + 6) i v) (w + 5) 1 (q_land (h (w + 5) 1) (q_lxor (q_lshl 1 i) (-1)))) 470 (ud (ud G (1290 + i) 0) (1226 + i) v), ?_, ?_, hi.world2 hw1 ?_ ?_ ?_ ?_ ?_, ?_⟩
    · simp (disch := omega) only [q_470, q_up_far, q_row_row, q_row_self, q_row_ne, q_up_ne, q_up_eq, q_rowup, ud_eq, ud_ne, q_add_id, q_sub_id, q_mul_id, q_w_eq, q_rem_n, q_div_n, ↓reduceIte, leT, leF, ltT, ltF, eqT, eqF, true_or, or_true, false_or, or_false, true_and, and_true, false_and, and_false, or_self, and_self, Option.bind_some, ew, hp.w4 iw, hp.w5 iw, hp.w6 iw, hp.w7 iw, hp.w8 iw, hp.dish iw, hp.craft iw, hp.ask iw, hp.t6, hs.rains iw, hs.dishes iw, hs.crafts iw, hs.asks iw, hs.k468, hr.hour wr, hr.nd wr, hr.nc wr, hr.na wr, hr.odds wr, hp.odds iw, hs.odds iw, k_X11_outside, c_X11_cell, e_X11_cell_0, e_X11_cell_7, e_X11_cell_17, e_X11_cell_20, e_X11_cell_26, e_X11_cell_39, c_X6_setOdds, e_X6_setOdds_0]
    · simp (disch := omega) only [q_470, q_up_far, q_row_row, q_row_self, q_row_ne, q_up_ne, q_up_eq, q_rowup, ud_eq, ud_ne, q_add_id, q_sub_id, q_mul_id, q_w_eq, q_rem_n, q_div_n, ↓reduceIte, leT, leF, ltT, ltF, eqT, eqF, true_or, or_true, false_or, or_false, true_and, and_true, false_and, and_false, or_self, and_self, Option.bind_some, hp.m0, hp.m6, hs.k470, hs.k474, hG, k_X12_in, c_X12_cell, e_X12_cell_0, e_X12_cell_7, e_X12_cell_17, e_X12_cell_20, e_X12_cell_26, e_X12_cell_48, c_X12_becomes, e_X12_becomes_0]
    · exact (hp.up (VP_r iw (by omega))).up (VP_s1 iw)
    · intro k j hk _; simp (disch := omega) only [q_up_ne]
    · rw [ud_comm (by omega)]
      refine hr1.seen wf1.1 (by omega) (by omega) ?_
      intro y y0 y1
      rw [lb_not (by omega) (by omega) y0 y1, q_up_far (by omega)]
    · exact (wf.set (i := 1290 + i) (v := 0) (1290, 1354, 0, 1) (by decide) (by show (1290 : Int) ≤ _; omega) (by show _ < (1354 : Int); omega) (by show (0 : Int) ≤ _; omega) (by show _ ≤ (1 : Int); omega) (by omega)).set (1226, 1290, 0, 99) (by decide) (by show (1226 : Int) ≤ _; omega) (by show _ < (1290 : Int); omega) (by show (0 : Int) ≤ _; omega) (by show _ ≤ (99 : Int); omega) (by rw [ud_ne (by omega)]; omega)
    · simp (disch := omega) only [ud_ne]; exact hh
    · intro k hk; constructor <;> simp (disch := omega) only [q_row_ne, q_up_far]
  · by_cases a1 : 0 ≤ i ∧ i ≤ 63 <;> by_cases a2 : 0 ≤ v ∧ v ≤ 99 <;> first | (exfalso; omega) | skip
    all_goals
      refine ⟨-1000001, (q_up h 468 0 (q_add (h 468 0) 1)), q_up (q_up h 468 0 (q_add (h 468 0) 1)) 474 0 (q_add (h 474 0) 1), ?_, ?_, hi.find 0 (by decide) (by decide), fun k hk => ⟨by rw [q_up_far (by omega), q_up_far (by omega)], by rw [q_up_far (by omega)]⟩⟩
      · simp (disch := omega) only [q_470, q_up_far, q_row_row, q_row_self, q_row_ne, q_up_ne, q_up_eq, q_rowup, ud_eq, ud_ne, q_add_id, q_sub_id, q_mul_id, q_w_eq, q_rem_n, q_div_n, ↓reduceIte, leT, leF, ltT, ltF, eqT, eqF, true_or, or_true, false_or, or_false, true_and, and_true, false_and, and_false, or_self, and_self, Option.bind_some, ew, hp.w4 iw, hp.w5 iw, hp.w6 iw, hp.w7 iw, hp.w8 iw, hp.dish iw, hp.craft iw, hp.ask iw, hp.t6, hs.rains iw, hs.dishes iw, hs.crafts iw, hs.asks iw, hs.k468, hr.hour wr, hr.nd wr, hr.nc wr, hr.na wr, k_X11_outside, k_f0 hp.t6 hs.k468, c_X11_cell, e_X11_cell_0, e_X11_cell_7, e_X11_cell_17, e_X11_cell_20, e_X11_cell_26, e_X11_cell_39]
      · simp (disch := omega) only [q_470, q_up_far, q_row_row, q_row_self, q_row_ne, q_up_ne, q_up_eq, q_rowup, ud_eq, ud_ne, q_add_id, q_sub_id, q_mul_id, q_w_eq, q_rem_n, q_div_n, ↓reduceIte, leT, leF, ltT, ltF, eqT, eqF, true_or, or_true, false_or, or_false, true_and, and_true, false_and, and_false, or_self, and_self, Option.bind_some, hp.m0, hp.m6, hs.k470, hs.k474, hG, k_X12_in, k_g0 (sh := sh) (h := (q_up h 468 0 (q_add (h 468 0) 1))) (by rw [q_up_far (by decide)]; exact hp.m6) hs.k474, c_X12_cell, e_X12_cell_0, e_X12_cell_7, e_X12_cell_17, e_X12_cell_20, e_X12_cell_26, e_X12_cell_48]
theorem st_seek : Step 142 243 [] := by
  intro sh h hs ho hi
  obtain ⟨w, G, hw1, iw, ew, hG, hp, hr, wf, hh⟩ := hi.opn
  have wr := wf.1
  have u0 := wr.hour; have u1 := wr.nd; have u2 := wr.nc; have u3 := wr.na
  have hg : ∀ i, 0 ≤ i → i < 64 → G (1290 + i) = 0 ∨ G (1290 + i) = 1 := fun i a b => by have := wr.seen (d := i) a b; omega
  have kb := k_bestBut (sh := sh) (h := h) (b := w + 5) (x := h (w + 5) 1) (G := G) (by omega) (by rw [hp.odds iw]; omega) (by rw [show w + 5 + 1 = w + 6 by omega]; exact hs.odds iw) (fun i a b => by rw [show w + 5 + 1 = w + 6 by omega]; exact hr.odds wr i a b) hr.2.2 hg
  rcases bN_b G 64 with ⟨b1, b2⟩ | ⟨b1, b2, b3, b4⟩
  · refine ⟨-1000004, (q_up h 468 3 (q_add (h 468 3) 1)), q_up (q_up h 468 3 (q_add (h 468 3) 1)) 474 3 (q_add (h 474 3) 1), ?_, ?_, hi.find 3 (by decide) (by decide), fun k hk => ⟨by rw [q_up_far (by omega), q_up_far (by omega)], by rw [q_up_far (by omega)]⟩⟩
    · simp (disch := omega) only [q_470, q_up_far, q_row_row, q_row_self, q_row_ne, q_up_ne, q_up_eq, q_rowup, ud_eq, ud_ne, q_add_id, q_sub_id, q_mul_id, q_w_eq, q_rem_n, q_div_n, ↓reduceIte, leT, leF, ltT, ltF, eqT, eqF, true_or, or_true, false_or, or_false, true_and, and_true, false_and, and_false, or_self, and_self, Option.bind_some, ew, hp.w4 iw, hp.w5 iw, hp.w6 iw, hp.w7 iw, hp.w8 iw, hp.dish iw, hp.craft iw, hp.ask iw, hp.t6, hs.rains iw, hs.dishes iw, hs.crafts iw, hs.asks iw, hs.k468, hr.hour wr, hr.nd wr, hr.nc wr, hr.na wr, k_X11_outside, k_f3 hp.t6 hs.k468, kb, b1, c_X11_seek, e_X11_seek_0, e_X11_seek_10, e_X11_seek_21, e_X11_seek_25, c_X6_lookNext, e_X6_lookNext_0, e_X6_lookNext_8, e_X6_lookNext_25]
    · simp (disch := omega) only [q_470, q_up_far, q_row_row, q_row_self, q_row_ne, q_up_ne, q_up_eq, q_rowup, ud_eq, ud_ne, q_add_id, q_sub_id, q_mul_id, q_w_eq, q_rem_n, q_div_n, ↓reduceIte, leT, leF, ltT, ltF, eqT, eqF, true_or, or_true, false_or, or_false, true_and, and_true, false_and, and_false, or_self, and_self, Option.bind_some, hp.m0, hp.m6, hs.k470, hs.k474, hG, k_X12_in, k_g3 (sh := sh) (h := (q_up h 468 3 (q_add (h 468 3) 1))) (by rw [q_up_far (by decide)]; exact hp.m6) hs.k474, r_nextCell (sh := sh) (G := G) (h := q_up h 468 3 (q_add (h 468 3) 1)) (by rw [q_up_far (by decide)]; exact hp.m0) hs.k470 (by rw [q_up_far (by decide)]; exact hG), b1, c_X12_seek, e_X12_seek_0, e_X12_seek_7, e_X12_seek_18]
  · obtain ⟨b, eb⟩ : ∃ b, bN G 64 = b := ⟨_, rfl⟩
    rw [eb] at kb b1 b2 b3 b4
    refine ⟨b, q_up h (w + 5) 1 (q_lor (h (w + 5) 1) (q_lshl 1 b)), q_row (q_up h (w + 5) 1 (q_lor (h (w + 5) 1) (q_lshl 1 b))) 470 (ud G (1290 + b) 1), ?_, ?_, hi.world2 hw1 ?_ ?_ ?_ ?_ ?_, ?_⟩
    · simp (disch := omega) only [q_470, q_up_far, q_row_row, q_row_self, q_row_ne, q_up_ne, q_up_eq, q_rowup, ud_eq, ud_ne, q_add_id, q_sub_id, q_mul_id, q_w_eq, q_rem_n, q_div_n, ↓reduceIte, leT, leF, ltT, ltF, eqT, eqF, true_or, or_true, false_or, or_false, true_and, and_true, false_and, and_false, or_self, and_self, Option.bind_some, ew, hp.w4 iw, hp.w5 iw, hp.w6 iw, hp.w7 iw, hp.w8 iw, hp.dish iw, hp.craft iw, hp.ask iw, hp.t6, hs.rains iw, hs.dishes iw, hs.crafts iw, hs.asks iw, hs.k468, hr.hour wr, hr.nd wr, hr.nc wr, hr.na wr, kb, c_X11_seek, e_X11_seek_0, e_X11_seek_10, e_X11_seek_21, e_X11_seek_25, c_X6_lookNext, e_X6_lookNext_0, e_X6_lookNext_8, e_X6_lookNext_25]
    · simp (disch := omega) only [q_470, q_up_far, q_row_row, q_row_self, q_row_ne, q_up_ne, q_up_eq, q_rowup, ud_eq, ud_ne, q_add_id, q_sub_id, q_mul_id, q_w_eq, q_rem_n, q_div_n, ↓reduceIte, leT, leF, ltT, ltF, eqT, eqF, true_or, or_true, false_or, or_false, true_and, and_true, false_and, and_false, or_self, and_self, Option.bind_some, hp.m0, hp.m6, hs.k470, hs.k474, hG, r_nextCell (sh := sh) (G := G) (h := q_up h (w + 5) 1 (q_lor (h (w + 5) 1) (q_lshl 1 b))) (by rw [q_up_far (by omega)]; exact hp.m0) hs.k470 (by rw [q_up_far (by omega)]; exact hG), eb, c_X12_seek, e_X12_seek_0, e_X12_seek_7, e_X12_seek_18]
    · exact hp.up (VP_s1 iw)
    · intro k j hk _; simp (disch := omega) only [q_up_ne]
    · refine hr.seen wr (by omega) (by omega) ?_
      intro y y0 y1
      exact lb_or (by omega) (by omega) y0 y1
    · exact wf.set (1290, 1354, 0, 1) (by decide) (by show (1290 : Int) ≤ _; omega) (by show _ < (1354 : Int); omega) (by show (0 : Int) ≤ _; omega) (by show _ ≤ (1 : Int); omega) (by omega)
    · simp (disch := omega) only [ud_ne]; exact hh
    · intro k hk; constructor <;> simp (disch := omega) only [q_row_ne, q_up_far]
