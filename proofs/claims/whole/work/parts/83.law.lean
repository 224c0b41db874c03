/-! the law's loop -/
theorem q_add_s {i d : Int} (i0 : 0 ≤ i) (i1 : i ≤ 3072) (d0 : 0 ≤ d) (d1 : d ≤ 6) : q_add i d = i + d := q_add_id (by omega) (by omega)
theorem law_0 {sh : Int × (Int → Nat × Int)} {h : Int → Int → Int} {i L : Int} (hs : Sh sh) (ho : Old sh h) (hi : Inv h) (hx : ∀ j, q_i32 (h (-6) j)) (hl : (sh.2 (-6)).2 = L) (i0 : 0 ≤ i) (i1 : i + 6 ≤ L) (L1 : L ≤ 3072) : ∃ h2, q_L 256 232 [(30, -6), (21, 0), (22, 469), (0, i)] [] (sh, h) = q_L 256 1712 [(30, -6), (21, 0), (22, 469), (0, i)] [] (sh, h2) ∧ Inv h2 ∧ ∀ k, k < 0 → h2 k = h k := by
  have a1 : q_add i 1 = i + 1 := q_add_s i0 (by omega) (by decide) (by decide)
  have a2 : q_add i 2 = i + 2 := q_add_s i0 (by omega) (by decide) (by decide)
  have a3 : q_add i 3 = i + 3 := q_add_s i0 (by omega) (by decide) (by decide)
  have a4 : q_add i 4 = i + 4 := q_add_s i0 (by omega) (by decide) (by decide)
  have a5 : q_add i 5 = i + 5 := q_add_s i0 (by omega) (by decide) (by decide)
  obtain ⟨v, h1, h2, c, r, inv, fr⟩ := st_rain (h (-6) (i + 1)) (h (-6) (i + 2)) (h (-6) (i + 3)) sh h hs ho hi
  have f1 : h1 (-6) = h (-6) := (fr (-6) (by decide)).2
  refine ⟨h2, ?_, inv, fun k hk => (fr k hk).1⟩
  clear inv fr hi ho hx
  simp (disch := omega) only [a1, a2, a3, a4, a5, hl, ↓reduceIte, leT, ltT, eqT, eqF, true_and, and_true, and_self, Option.bind_some, eq_self, e_L_law_232, e_L_law_251, e_L_law_270, c, r, f1]
theorem law_1 {sh : Int × (Int → Nat × Int)} {h : Int → Int → Int} {i L : Int} (hs : Sh sh) (ho : Old sh h) (hi : Inv h) (hx : ∀ j, q_i32 (h (-6) j)) (hl : (sh.2 (-6)).2 = L) (i0 : 0 ≤ i) (i1 : i + 6 ≤ L) (L1 : L ≤ 3072) : ∃ h2, q_L 256 275 [(30, -6), (21, 0), (22, 469), (0, i)] [] (sh, h) = q_L 256 1712 [(30, -6), (21, 0), (22, 469), (0, i)] [] (sh, h2) ∧ Inv h2 ∧ ∀ k, k < 0 → h2 k = h k := by
  have a1 : q_add i 1 = i + 1 := q_add_s i0 (by omega) (by decide) (by decide)
  have a2 : q_add i 2 = i + 2 := q_add_s i0 (by omega) (by decide) (by decide)
  have a3 : q_add i 3 = i + 3 := q_add_s i0 (by omega) (by decide) (by decide)
  have a4 : q_add i 4 = i + 4 := q_add_s i0 (by omega) (by decide) (by decide)
  have a5 : q_add i 5 = i + 5 := q_add_s i0 (by omega) (by decide) (by decide)
  obtain ⟨v, h1, h2, c, r, inv, fr⟩ := st_dish (h (-6) (i + 1)) (h (-6) (i + 2)) (h (-6) (i + 3)) sh h hs ho hi
  have f1 : h1 (-6) = h (-6) := (fr (-6) (by decide)).2
  refine ⟨h2, ?_, inv, fun k hk => (fr k hk).1⟩
  clear inv fr hi ho hx
  simp (disch := omega) only [a1, a2, a3, a4, a5, hl, ↓reduceIte, leT, ltT, eqT, eqF, true_and, and_true, and_self, Option.bind_some, eq_self, e_L_law_275, e_L_law_294, e_L_law_313, c, r, f1]
theorem law_2 {sh : Int × (Int → Nat × Int)} {h : Int → Int → Int} {i L : Int} (hs : Sh sh) (ho : Old sh h) (hi : Inv h) (hx : ∀ j, q_i32 (h (-6) j)) (hl : (sh.2 (-6)).2 = L) (i0 : 0 ≤ i) (i1 : i + 6 ≤ L) (L1 : L ≤ 3072) : ∃ h2, q_L 256 318 [(30, -6), (21, 0), (22, 469), (0, i)] [] (sh, h) = q_L 256 1712 [(30, -6), (21, 0), (22, 469), (0, i)] [] (sh, h2) ∧ Inv h2 ∧ ∀ k, k < 0 → h2 k = h k := by
  have a1 : q_add i 1 = i + 1 := q_add_s i0 (by omega) (by decide) (by decide)
  have a2 : q_add i 2 = i + 2 := q_add_s i0 (by omega) (by decide) (by decide)
  have a3 : q_add i 3 = i + 3 := q_add_s i0 (by omega) (by decide) (by decide)
  have a4 : q_add i 4 = i + 4 := q_add_s i0 (by omega) (by decide) (by decide)
  have a5 : q_add i 5 = i + 5 := q_add_s i0 (by omega) (by decide) (by decide)
  by_cases z : h (-6) (i + 2) = 0
  · obtain ⟨v, h1, h2, c, r, inv, fr⟩ := st_mend (h (-6) (i + 1)) 0 (Or.inl rfl) sh h hs ho hi
    have f1 : h1 (-6) = h (-6) := (fr (-6) (by decide)).2
    refine ⟨h2, ?_, inv, fun k hk => (fr k hk).1⟩
    clear inv fr hi ho hx
    simp (disch := omega) only [a1, a2, a3, a4, a5, hl, ↓reduceIte, leT, ltT, eqT, eqF, true_and, and_true, and_self, Option.bind_some, eq_self, e_L_law_318, e_L_law_337, e_L_law_340, e_L_law_359, e_L_law_362, z, c, r, f1]
  · obtain ⟨v, h1, h2, c, r, inv, fr⟩ := st_mend (h (-6) (i + 1)) 1 (Or.inr rfl) sh h hs ho hi
    have f1 : h1 (-6) = h (-6) := (fr (-6) (by decide)).2
    refine ⟨h2, ?_, inv, fun k hk => (fr k hk).1⟩
    clear inv fr hi ho hx
    simp (disch := omega) only [a1, a2, a3, a4, a5, hl, ↓reduceIte, leT, ltT, eqT, eqF, true_and, and_true, and_self, Option.bind_some, eq_self, e_L_law_318, e_L_law_337, e_L_law_340, e_L_law_359, e_L_law_362, c, r, f1]
theorem law_3 {sh : Int × (Int → Nat × Int)} {h : Int → Int → Int} {i L : Int} (hs : Sh sh) (ho : Old sh h) (hi : Inv h) (hx : ∀ j, q_i32 (h (-6) j)) (hl : (sh.2 (-6)).2 = L) (i0 : 0 ≤ i) (i1 : i + 6 ≤ L) (L1 : L ≤ 3072) : ∃ h2, q_L 256 367 [(30, -6), (21, 0), (22, 469), (0, i)] [] (sh, h) = q_L 256 1712 [(30, -6), (21, 0), (22, 469), (0, i)] [] (sh, h2) ∧ Inv h2 ∧ ∀ k, k < 0 → h2 k = h k := by
  have a1 : q_add i 1 = i + 1 := q_add_s i0 (by omega) (by decide) (by decide)
  have a2 : q_add i 2 = i + 2 := q_add_s i0 (by omega) (by decide) (by decide)
  have a3 : q_add i 3 = i + 3 := q_add_s i0 (by omega) (by decide) (by decide)
  have a4 : q_add i 4 = i + 4 := q_add_s i0 (by omega) (by decide) (by decide)
  have a5 : q_add i 5 = i + 5 := q_add_s i0 (by omega) (by decide) (by decide)
  obtain ⟨v, h1, h2, c, r, inv, fr⟩ := st_dishIs (h (-6) (i + 1)) (h (-6) (i + 2)) sh h hs ho hi
  have f1 : h1 (-6) = h (-6) := (fr (-6) (by decide)).2
  refine ⟨h2, ?_, inv, fun k hk => (fr k hk).1⟩
  clear inv fr hi ho hx
  simp (disch := omega) only [a1, a2, a3, a4, a5, hl, ↓reduceIte, leT, ltT, eqT, eqF, true_and, and_true, and_self, Option.bind_some, eq_self, e_L_law_367, e_L_law_381, e_L_law_395, c, r, f1]
theorem law_4 {sh : Int × (Int → Nat × Int)} {h : Int → Int → Int} {i L : Int} (hs : Sh sh) (ho : Old sh h) (hi : Inv h) (hx : ∀ j, q_i32 (h (-6) j)) (hl : (sh.2 (-6)).2 = L) (i0 : 0 ≤ i) (i1 : i + 6 ≤ L) (L1 : L ≤ 3072) : ∃ h2, q_L 256 400 [(30, -6), (21, 0), (22, 469), (0, i)] [] (sh, h) = q_L 256 1712 [(30, -6), (21, 0), (22, 469), (0, i)] [] (sh, h2) ∧ Inv h2 ∧ ∀ k, k < 0 → h2 k = h k := by
  have a1 : q_add i 1 = i + 1 := q_add_s i0 (by omega) (by decide) (by decide)
  have a2 : q_add i 2 = i + 2 := q_add_s i0 (by omega) (by decide) (by decide)
  have a3 : q_add i 3 = i + 3 := q_add_s i0 (by omega) (by decide) (by decide)
  have a4 : q_add i 4 = i + 4 := q_add_s i0 (by omega) (by decide) (by decide)
  have a5 : q_add i 5 = i + 5 := q_add_s i0 (by omega) (by decide) (by decide)
  obtain ⟨v, h1, h2, c, r, inv, fr⟩ := st_craft (h (-6) (i + 1)) (h (-6) (i + 2)) (h (-6) (i + 3)) (hx _) sh h hs ho hi
  have f1 : h1 (-6) = h (-6) := (fr (-6) (by decide)).2
  refine ⟨h2, ?_, inv, fun k hk => (fr k hk).1⟩
  clear inv fr hi ho hx
  simp (disch := omega) only [a1, a2, a3, a4, a5, hl, ↓reduceIte, leT, ltT, eqT, eqF, true_and, and_true, and_self, Option.bind_some, eq_self, e_L_law_400, e_L_law_419, e_L_law_438, c, r, f1]
theorem law_5 {sh : Int × (Int → Nat × Int)} {h : Int → Int → Int} {i L : Int} (hs : Sh sh) (ho : Old sh h) (hi : Inv h) (hx : ∀ j, q_i32 (h (-6) j)) (hl : (sh.2 (-6)).2 = L) (i0 : 0 ≤ i) (i1 : i + 6 ≤ L) (L1 : L ≤ 3072) : ∃ h2, q_L 256 443 [(30, -6), (21, 0), (22, 469), (0, i)] [] (sh, h) = q_L 256 1712 [(30, -6), (21, 0), (22, 469), (0, i)] [] (sh, h2) ∧ Inv h2 ∧ ∀ k, k < 0 → h2 k = h k := by
  have a1 : q_add i 1 = i + 1 := q_add_s i0 (by omega) (by decide) (by decide)
  have a2 : q_add i 2 = i + 2 := q_add_s i0 (by omega) (by decide) (by decide)
  have a3 : q_add i 3 = i + 3 := q_add_s i0 (by omega) (by decide) (by decide)
  have a4 : q_add i 4 = i + 4 := q_add_s i0 (by omega) (by decide) (by decide)
  have a5 : q_add i 5 = i + 5 := q_add_s i0 (by omega) (by decide) (by decide)
  obtain ⟨v, h1, h2, c, r, inv, fr⟩ := st_craftIs (h (-6) (i + 1)) (h (-6) (i + 2)) sh h hs ho hi
  have f1 : h1 (-6) = h (-6) := (fr (-6) (by decide)).2
  refine ⟨h2, ?_, inv, fun k hk => (fr k hk).1⟩
  clear inv fr hi ho hx
  simp (disch := omega) only [a1, a2, a3, a4, a5, hl, ↓reduceIte, leT, ltT, eqT, eqF, true_and, and_true, and_self, Option.bind_some, eq_self, e_L_law_443, e_L_law_457, e_L_law_471, c, r, f1]
theorem law_6 {sh : Int × (Int → Nat × Int)} {h : Int → Int → Int} {i L : Int} (hs : Sh sh) (ho : Old sh h) (hi : Inv h) (hx : ∀ j, q_i32 (h (-6) j)) (hl : (sh.2 (-6)).2 = L) (i0 : 0 ≤ i) (i1 : i + 6 ≤ L) (L1 : L ≤ 3072) : ∃ h2, q_L 256 476 [(30, -6), (21, 0), (22, 469), (0, i)] [] (sh, h) = q_L 256 1712 [(30, -6), (21, 0), (22, 469), (0, i)] [] (sh, h2) ∧ Inv h2 ∧ ∀ k, k < 0 → h2 k = h k := by
  have a1 : q_add i 1 = i + 1 := q_add_s i0 (by omega) (by decide) (by decide)
  have a2 : q_add i 2 = i + 2 := q_add_s i0 (by omega) (by decide) (by decide)
  have a3 : q_add i 3 = i + 3 := q_add_s i0 (by omega) (by decide) (by decide)
  have a4 : q_add i 4 = i + 4 := q_add_s i0 (by omega) (by decide) (by decide)
  have a5 : q_add i 5 = i + 5 := q_add_s i0 (by omega) (by decide) (by decide)
  obtain ⟨v, h1, h2, c, r, inv, fr⟩ := st_rises (h (-6) (i + 1)) (h (-6) (i + 2)) (h (-6) (i + 3)) (h (-6) (i + 4)) sh h hs ho hi
  have f1 : h1 (-6) = h (-6) := (fr (-6) (by decide)).2
  refine ⟨h2, ?_, inv, fun k hk => (fr k hk).1⟩
  clear inv fr hi ho hx
  simp (disch := omega) only [a1, a2, a3, a4, a5, hl, ↓reduceIte, leT, ltT, eqT, eqF, true_and, and_true, and_self, Option.bind_some, eq_self, e_L_law_476, e_L_law_500, e_L_law_524, c, r, f1]
theorem law_7 {sh : Int × (Int → Nat × Int)} {h : Int → Int → Int} {i L : Int} (hs : Sh sh) (ho : Old sh h) (hi : Inv h) (hx : ∀ j, q_i32 (h (-6) j)) (hl : (sh.2 (-6)).2 = L) (i0 : 0 ≤ i) (i1 : i + 6 ≤ L) (L1 : L ≤ 3072) : ∃ h2, q_L 256 529 [(30, -6), (21, 0), (22, 469), (0, i)] [] (sh, h) = q_L 256 1712 [(30, -6), (21, 0), (22, 469), (0, i)] [] (sh, h2) ∧ Inv h2 ∧ ∀ k, k < 0 → h2 k = h k := by
  have a1 : q_add i 1 = i + 1 := q_add_s i0 (by omega) (by decide) (by decide)
  have a2 : q_add i 2 = i + 2 := q_add_s i0 (by omega) (by decide) (by decide)
  have a3 : q_add i 3 = i + 3 := q_add_s i0 (by omega) (by decide) (by decide)
  have a4 : q_add i 4 = i + 4 := q_add_s i0 (by omega) (by decide) (by decide)
  have a5 : q_add i 5 = i + 5 := q_add_s i0 (by omega) (by decide) (by decide)
  obtain ⟨v, h1, h2, c, r, inv, fr⟩ := st_up (h (-6) (i + 1)) (h (-6) (i + 2)) (h (-6) (i + 3)) sh h hs ho hi
  have f1 : h1 (-6) = h (-6) := (fr (-6) (by decide)).2
  refine ⟨h2, ?_, inv, fun k hk => (fr k hk).1⟩
  clear inv fr hi ho hx
  simp (disch := omega) only [a1, a2, a3, a4, a5, hl, ↓reduceIte, leT, ltT, eqT, eqF, true_and, and_true, and_self, Option.bind_some, eq_self, e_L_law_529, e_L_law_548, e_L_law_567, c, r, f1]
theorem law_8 {sh : Int × (Int → Nat × Int)} {h : Int → Int → Int} {i L : Int} (hs : Sh sh) (ho : Old sh h) (hi : Inv h) (hx : ∀ j, q_i32 (h (-6) j)) (hl : (sh.2 (-6)).2 = L) (i0 : 0 ≤ i) (i1 : i + 6 ≤ L) (L1 : L ≤ 3072) : ∃ h2, q_L 256 572 [(30, -6), (21, 0), (22, 469), (0, i)] [] (sh, h) = q_L 256 1712 [(30, -6), (21, 0), (22, 469), (0, i)] [] (sh, h2) ∧ Inv h2 ∧ ∀ k, k < 0 → h2 k = h k := by
  have a1 : q_add i 1 = i + 1 := q_add_s i0 (by omega) (by decide) (by decide)
  have a2 : q_add i 2 = i + 2 := q_add_s i0 (by omega) (by decide) (by decide)
  have a3 : q_add i 3 = i + 3 := q_add_s i0 (by omega) (by decide) (by decide)
  have a4 : q_add i 4 = i + 4 := q_add_s i0 (by omega) (by decide) (by decide)
  have a5 : q_add i 5 = i + 5 := q_add_s i0 (by omega) (by decide) (by decide)
  obtain ⟨v, h1, h2, c, r, inv, fr⟩ := st_rise (h (-6) (i + 1)) (h (-6) (i + 2)) (h (-6) (i + 3)) (h (-6) (i + 4)) sh h hs ho hi
  have f1 : h1 (-6) = h (-6) := (fr (-6) (by decide)).2
  refine ⟨h2, ?_, inv, fun k hk => (fr k hk).1⟩
  clear inv fr hi ho hx
  simp (disch := omega) only [a1, a2, a3, a4, a5, hl, ↓reduceIte, leT, ltT, eqT, eqF, true_and, and_true, and_self, Option.bind_some, eq_self, e_L_law_572, e_L_law_596, e_L_law_620, c, r, f1]
theorem law_9 {sh : Int × (Int → Nat × Int)} {h : Int → Int → Int} {i L : Int} (hs : Sh sh) (ho : Old sh h) (hi : Inv h) (hx : ∀ j, q_i32 (h (-6) j)) (hl : (sh.2 (-6)).2 = L) (i0 : 0 ≤ i) (i1 : i + 6 ≤ L) (L1 : L ≤ 3072) : ∃ h2, q_L 256 625 [(30, -6), (21, 0), (22, 469), (0, i)] [] (sh, h) = q_L 256 1712 [(30, -6), (21, 0), (22, 469), (0, i)] [] (sh, h2) ∧ Inv h2 ∧ ∀ k, k < 0 → h2 k = h k := by
  have a1 : q_add i 1 = i + 1 := q_add_s i0 (by omega) (by decide) (by decide)
  have a2 : q_add i 2 = i + 2 := q_add_s i0 (by omega) (by decide) (by decide)
  have a3 : q_add i 3 = i + 3 := q_add_s i0 (by omega) (by decide) (by decide)
  have a4 : q_add i 4 = i + 4 := q_add_s i0 (by omega) (by decide) (by decide)
  have a5 : q_add i 5 = i + 5 := q_add_s i0 (by omega) (by decide) (by decide)
  obtain ⟨v, h1, h2, c, r, inv, fr⟩ := st_link (h (-6) (i + 1)) (h (-6) (i + 2)) (h (-6) (i + 3)) sh h hs ho hi
  have f1 : h1 (-6) = h (-6) := (fr (-6) (by decide)).2
  refine ⟨h2, ?_, inv, fun k hk => (fr k hk).1⟩
  clear inv fr hi ho hx
  simp (disch := omega) only [a1, a2, a3, a4, a5, hl, ↓reduceIte, leT, ltT, eqT, eqF, true_and, and_true, and_self, Option.bind_some, eq_self, e_L_law_625, e_L_law_644, e_L_law_663, c, r, f1]
theorem law_10 {sh : Int × (Int → Nat × Int)} {h : Int → Int → Int} {i L : Int} (hs : Sh sh) (ho : Old sh h) (hi : Inv h) (hx : ∀ j, q_i32 (h (-6) j)) (hl : (sh.2 (-6)).2 = L) (i0 : 0 ≤ i) (i1 : i + 6 ≤ L) (L1 : L ≤ 3072) : ∃ h2, q_L 256 668 [(30, -6), (21, 0), (22, 469), (0, i)] [] (sh, h) = q_L 256 1712 [(30, -6), (21, 0), (22, 469), (0, i)] [] (sh, h2) ∧ Inv h2 ∧ ∀ k, k < 0 → h2 k = h k := by
  have a1 : q_add i 1 = i + 1 := q_add_s i0 (by omega) (by decide) (by decide)
  have a2 : q_add i 2 = i + 2 := q_add_s i0 (by omega) (by decide) (by decide)
  have a3 : q_add i 3 = i + 3 := q_add_s i0 (by omega) (by decide) (by decide)
  have a4 : q_add i 4 = i + 4 := q_add_s i0 (by omega) (by decide) (by decide)
  have a5 : q_add i 5 = i + 5 := q_add_s i0 (by omega) (by decide) (by decide)
  obtain ⟨v, h1, h2, c, r, inv, fr⟩ := st_feed (h (-6) (i + 1)) (h (-6) (i + 2)) sh h hs ho hi
  have f1 : h1 (-6) = h (-6) := (fr (-6) (by decide)).2
  refine ⟨h2, ?_, inv, fun k hk => (fr k hk).1⟩
  clear inv fr hi ho hx
  simp (disch := omega) only [a1, a2, a3, a4, a5, hl, ↓reduceIte, leT, ltT, eqT, eqF, true_and, and_true, and_self, Option.bind_some, eq_self, e_L_law_668, e_L_law_682, e_L_law_696, c, r, f1]
theorem law_11 {sh : Int × (Int → Nat × Int)} {h : Int → Int → Int} {i L : Int} (hs : Sh sh) (ho : Old sh h) (hi : Inv h) (hx : ∀ j, q_i32 (h (-6) j)) (hl : (sh.2 (-6)).2 = L) (i0 : 0 ≤ i) (i1 : i + 6 ≤ L) (L1 : L ≤ 3072) : ∃ h2, q_L 256 701 [(30, -6), (21, 0), (22, 469), (0, i)] [] (sh, h) = q_L 256 1712 [(30, -6), (21, 0), (22, 469), (0, i)] [] (sh, h2) ∧ Inv h2 ∧ ∀ k, k < 0 → h2 k = h k := by
  have a1 : q_add i 1 = i + 1 := q_add_s i0 (by omega) (by decide) (by decide)
  have a2 : q_add i 2 = i + 2 := q_add_s i0 (by omega) (by decide) (by decide)
  have a3 : q_add i 3 = i + 3 := q_add_s i0 (by omega) (by decide) (by decide)
  have a4 : q_add i 4 = i + 4 := q_add_s i0 (by omega) (by decide) (by decide)
  have a5 : q_add i 5 = i + 5 := q_add_s i0 (by omega) (by decide) (by decide)
  obtain ⟨v, h1, h2, c, r, inv, fr⟩ := st_wipe  sh h hs ho hi
  have f1 : h1 (-6) = h (-6) := (fr (-6) (by decide)).2
  refine ⟨h2, ?_, inv, fun k hk => (fr k hk).1⟩
  clear inv fr hi ho hx
  simp (disch := omega) only [a1, a2, a3, a4, a5, hl, ↓reduceIte, leT, ltT, eqT, eqF, true_and, and_true, and_self, Option.bind_some, eq_self, e_L_law_701, e_L_law_705, e_L_law_709, c, r, f1]
theorem law_12 {sh : Int × (Int → Nat × Int)} {h : Int → Int → Int} {i L : Int} (hs : Sh sh) (ho : Old sh h) (hi : Inv h) (hx : ∀ j, q_i32 (h (-6) j)) (hl : (sh.2 (-6)).2 = L) (i0 : 0 ≤ i) (i1 : i + 6 ≤ L) (L1 : L ≤ 3072) : ∃ h2, q_L 256 714 [(30, -6), (21, 0), (22, 469), (0, i)] [] (sh, h) = q_L 256 1712 [(30, -6), (21, 0), (22, 469), (0, i)] [] (sh, h2) ∧ Inv h2 ∧ ∀ k, k < 0 → h2 k = h k := by
  have a1 : q_add i 1 = i + 1 := q_add_s i0 (by omega) (by decide) (by decide)
  have a2 : q_add i 2 = i + 2 := q_add_s i0 (by omega) (by decide) (by decide)
  have a3 : q_add i 3 = i + 3 := q_add_s i0 (by omega) (by decide) (by decide)
  have a4 : q_add i 4 = i + 4 := q_add_s i0 (by omega) (by decide) (by decide)
  have a5 : q_add i 5 = i + 5 := q_add_s i0 (by omega) (by decide) (by decide)
  obtain ⟨v, h1, h2, c, r, inv, fr⟩ := st_asks  sh h hs ho hi
  have f1 : h1 (-6) = h (-6) := (fr (-6) (by decide)).2
  refine ⟨h2, ?_, inv, fun k hk => (fr k hk).1⟩
  clear inv fr hi ho hx
  simp (disch := omega) only [a1, a2, a3, a4, a5, hl, ↓reduceIte, leT, ltT, eqT, eqF, true_and, and_true, and_self, Option.bind_some, eq_self, e_L_law_714, e_L_law_718, e_L_law_722, c, r, f1]
theorem law_13 {sh : Int × (Int → Nat × Int)} {h : Int → Int → Int} {i L : Int} (hs : Sh sh) (ho : Old sh h) (hi : Inv h) (hx : ∀ j, q_i32 (h (-6) j)) (hl : (sh.2 (-6)).2 = L) (i0 : 0 ≤ i) (i1 : i + 6 ≤ L) (L1 : L ≤ 3072) : ∃ h2, q_L 256 727 [(30, -6), (21, 0), (22, 469), (0, i)] [] (sh, h) = q_L 256 1712 [(30, -6), (21, 0), (22, 469), (0, i)] [] (sh, h2) ∧ Inv h2 ∧ ∀ k, k < 0 → h2 k = h k := by
  have a1 : q_add i 1 = i + 1 := q_add_s i0 (by omega) (by decide) (by decide)
  have a2 : q_add i 2 = i + 2 := q_add_s i0 (by omega) (by decide) (by decide)
  have a3 : q_add i 3 = i + 3 := q_add_s i0 (by omega) (by decide) (by decide)
  have a4 : q_add i 4 = i + 4 := q_add_s i0 (by omega) (by decide) (by decide)
  have a5 : q_add i 5 = i + 5 := q_add_s i0 (by omega) (by decide) (by decide)
  obtain ⟨v, h1, h2, c, r, inv, fr⟩ := st_asking (h (-6) (i + 1)) (h (-6) (i + 2)) sh h hs ho hi
  have f1 : h1 (-6) = h (-6) := (fr (-6) (by decide)).2
  refine ⟨h2, ?_, inv, fun k hk => (fr k hk).1⟩
  clear inv fr hi ho hx
  simp (disch := omega) only [a1, a2, a3, a4, a5, hl, ↓reduceIte, leT, ltT, eqT, eqF, true_and, and_true, and_self, Option.bind_some, eq_self, e_L_law_727, e_L_law_741, e_L_law_755, c, r, f1]
theorem law_14 {sh : Int × (Int → Nat × Int)} {h : Int → Int → Int} {i L : Int} (hs : Sh sh) (ho : Old sh h) (hi : Inv h) (hx : ∀ j, q_i32 (h (-6) j)) (hl : (sh.2 (-6)).2 = L) (i0 : 0 ≤ i) (i1 : i + 6 ≤ L) (L1 : L ≤ 3072) : ∃ h2, q_L 256 760 [(30, -6), (21, 0), (22, 469), (0, i)] [] (sh, h) = q_L 256 1712 [(30, -6), (21, 0), (22, 469), (0, i)] [] (sh, h2) ∧ Inv h2 ∧ ∀ k, k < 0 → h2 k = h k := by
  have a1 : q_add i 1 = i + 1 := q_add_s i0 (by omega) (by decide) (by decide)
  have a2 : q_add i 2 = i + 2 := q_add_s i0 (by omega) (by decide) (by decide)
  have a3 : q_add i 3 = i + 3 := q_add_s i0 (by omega) (by decide) (by decide)
  have a4 : q_add i 4 = i + 4 := q_add_s i0 (by omega) (by decide) (by decide)
  have a5 : q_add i 5 = i + 5 := q_add_s i0 (by omega) (by decide) (by decide)
  obtain ⟨v, h1, h2, c, r, inv, fr⟩ := st_as (h (-6) (i + 1)) (h (-6) (i + 2)) sh h hs ho hi
  have f1 : h1 (-6) = h (-6) := (fr (-6) (by decide)).2
  refine ⟨h2, ?_, inv, fun k hk => (fr k hk).1⟩
  clear inv fr hi ho hx
  simp (disch := omega) only [a1, a2, a3, a4, a5, hl, ↓reduceIte, leT, ltT, eqT, eqF, true_and, and_true, and_self, Option.bind_some, eq_self, e_L_law_760, e_L_law_774, e_L_law_788, c, r, f1]
theorem law_15 {sh : Int × (Int → Nat × Int)} {h : Int → Int → Int} {i L : Int} (hs : Sh sh) (ho : Old sh h) (hi : Inv h) (hx : ∀ j, q_i32 (h (-6) j)) (hl : (sh.2 (-6)).2 = L) (i0 : 0 ≤ i) (i1 : i + 6 ≤ L) (L1 : L ≤ 3072) : ∃ h2, q_L 256 793 [(30, -6), (21, 0), (22, 469), (0, i)] [] (sh, h) = q_L 256 1712 [(30, -6), (21, 0), (22, 469), (0, i)] [] (sh, h2) ∧ Inv h2 ∧ ∀ k, k < 0 → h2 k = h k := by
  have a1 : q_add i 1 = i + 1 := q_add_s i0 (by omega) (by decide) (by decide)
  have a2 : q_add i 2 = i + 2 := q_add_s i0 (by omega) (by decide) (by decide)
  have a3 : q_add i 3 = i + 3 := q_add_s i0 (by omega) (by decide) (by decide)
  have a4 : q_add i 4 = i + 4 := q_add_s i0 (by omega) (by decide) (by decide)
  have a5 : q_add i 5 = i + 5 := q_add_s i0 (by omega) (by decide) (by decide)
  obtain ⟨v, h1, h2, c, r, inv, fr⟩ := st_worth (h (-6) (i + 1)) (h (-6) (i + 2)) sh h hs ho hi
  have f1 : h1 (-6) = h (-6) := (fr (-6) (by decide)).2
  refine ⟨h2, ?_, inv, fun k hk => (fr k hk).1⟩
  clear inv fr hi ho hx
  simp (disch := omega) only [a1, a2, a3, a4, a5, hl, ↓reduceIte, leT, ltT, eqT, eqF, true_and, and_true, and_self, Option.bind_some, eq_self, e_L_law_793, e_L_law_807, e_L_law_821, c, r, f1]
theorem law_16 {sh : Int × (Int → Nat × Int)} {h : Int → Int → Int} {i L : Int} (hs : Sh sh) (ho : Old sh h) (hi : Inv h) (hx : ∀ j, q_i32 (h (-6) j)) (hl : (sh.2 (-6)).2 = L) (i0 : 0 ≤ i) (i1 : i + 6 ≤ L) (L1 : L ≤ 3072) : ∃ h2, q_L 256 826 [(30, -6), (21, 0), (22, 469), (0, i)] [] (sh, h) = q_L 256 1712 [(30, -6), (21, 0), (22, 469), (0, i)] [] (sh, h2) ∧ Inv h2 ∧ ∀ k, k < 0 → h2 k = h k := by
  have a1 : q_add i 1 = i + 1 := q_add_s i0 (by omega) (by decide) (by decide)
  have a2 : q_add i 2 = i + 2 := q_add_s i0 (by omega) (by decide) (by decide)
  have a3 : q_add i 3 = i + 3 := q_add_s i0 (by omega) (by decide) (by decide)
  have a4 : q_add i 4 = i + 4 := q_add_s i0 (by omega) (by decide) (by decide)
  have a5 : q_add i 5 = i + 5 := q_add_s i0 (by omega) (by decide) (by decide)
  obtain ⟨v, h1, h2, c, r, inv, fr⟩ := st_plan (h (-6) (i + 1)) sh h hs ho hi
  have f1 : h1 (-6) = h (-6) := (fr (-6) (by decide)).2
  refine ⟨h2, ?_, inv, fun k hk => (fr k hk).1⟩
  clear inv fr hi ho hx
  simp (disch := omega) only [a1, a2, a3, a4, a5, hl, ↓reduceIte, leT, ltT, eqT, eqF, true_and, and_true, and_self, Option.bind_some, eq_self, e_L_law_826, e_L_law_835, e_L_law_844, c, r, f1]
theorem law_17 {sh : Int × (Int → Nat × Int)} {h : Int → Int → Int} {i L : Int} (hs : Sh sh) (ho : Old sh h) (hi : Inv h) (hx : ∀ j, q_i32 (h (-6) j)) (hl : (sh.2 (-6)).2 = L) (i0 : 0 ≤ i) (i1 : i + 6 ≤ L) (L1 : L ≤ 3072) : ∃ h2, q_L 256 849 [(30, -6), (21, 0), (22, 469), (0, i)] [] (sh, h) = q_L 256 1712 [(30, -6), (21, 0), (22, 469), (0, i)] [] (sh, h2) ∧ Inv h2 ∧ ∀ k, k < 0 → h2 k = h k := by
  have a1 : q_add i 1 = i + 1 := q_add_s i0 (by omega) (by decide) (by decide)
  have a2 : q_add i 2 = i + 2 := q_add_s i0 (by omega) (by decide) (by decide)
  have a3 : q_add i 3 = i + 3 := q_add_s i0 (by omega) (by decide) (by decide)
  have a4 : q_add i 4 = i + 4 := q_add_s i0 (by omega) (by decide) (by decide)
  have a5 : q_add i 5 = i + 5 := q_add_s i0 (by omega) (by decide) (by decide)
  obtain ⟨v, h1, h2, c, r, inv, fr⟩ := st_begins (h (-6) (i + 1)) sh h hs ho hi
  have f1 : h1 (-6) = h (-6) := (fr (-6) (by decide)).2
  refine ⟨h2, ?_, inv, fun k hk => (fr k hk).1⟩
  clear inv fr hi ho hx
  simp (disch := omega) only [a1, a2, a3, a4, a5, hl, ↓reduceIte, leT, ltT, eqT, eqF, true_and, and_true, and_self, Option.bind_some, eq_self, e_L_law_849, e_L_law_858, e_L_law_867, c, r, f1]
theorem law_18 {sh : Int × (Int → Nat × Int)} {h : Int → Int → Int} {i L : Int} (hs : Sh sh) (ho : Old sh h) (hi : Inv h) (hx : ∀ j, q_i32 (h (-6) j)) (hl : (sh.2 (-6)).2 = L) (i0 : 0 ≤ i) (i1 : i + 6 ≤ L) (L1 : L ≤ 3072) : ∃ h2, q_L 256 872 [(30, -6), (21, 0), (22, 469), (0, i)] [] (sh, h) = q_L 256 1712 [(30, -6), (21, 0), (22, 469), (0, i)] [] (sh, h2) ∧ Inv h2 ∧ ∀ k, k < 0 → h2 k = h k := by
  have a1 : q_add i 1 = i + 1 := q_add_s i0 (by omega) (by decide) (by decide)
  have a2 : q_add i 2 = i + 2 := q_add_s i0 (by omega) (by decide) (by decide)
  have a3 : q_add i 3 = i + 3 := q_add_s i0 (by omega) (by decide) (by decide)
  have a4 : q_add i 4 = i + 4 := q_add_s i0 (by omega) (by decide) (by decide)
  have a5 : q_add i 5 = i + 5 := q_add_s i0 (by omega) (by decide) (by decide)
  obtain ⟨v, h1, h2, c, r, inv, fr⟩ := st_without (h (-6) (i + 1)) sh h hs ho hi
  have f1 : h1 (-6) = h (-6) := (fr (-6) (by decide)).2
  refine ⟨h2, ?_, inv, fun k hk => (fr k hk).1⟩
  clear inv fr hi ho hx
  simp (disch := omega) only [a1, a2, a3, a4, a5, hl, ↓reduceIte, leT, ltT, eqT, eqF, true_and, and_true, and_self, Option.bind_some, eq_self, e_L_law_872, e_L_law_881, e_L_law_890, c, r, f1]
theorem law_19 {sh : Int × (Int → Nat × Int)} {h : Int → Int → Int} {i L : Int} (hs : Sh sh) (ho : Old sh h) (hi : Inv h) (hx : ∀ j, q_i32 (h (-6) j)) (hl : (sh.2 (-6)).2 = L) (i0 : 0 ≤ i) (i1 : i + 6 ≤ L) (L1 : L ≤ 3072) : ∃ h2, q_L 256 895 [(30, -6), (21, 0), (22, 469), (0, i)] [] (sh, h) = q_L 256 1712 [(30, -6), (21, 0), (22, 469), (0, i)] [] (sh, h2) ∧ Inv h2 ∧ ∀ k, k < 0 → h2 k = h k := by
  have a1 : q_add i 1 = i + 1 := q_add_s i0 (by omega) (by decide) (by decide)
  have a2 : q_add i 2 = i + 2 := q_add_s i0 (by omega) (by decide) (by decide)
  have a3 : q_add i 3 = i + 3 := q_add_s i0 (by omega) (by decide) (by decide)
  have a4 : q_add i 4 = i + 4 := q_add_s i0 (by omega) (by decide) (by decide)
  have a5 : q_add i 5 = i + 5 := q_add_s i0 (by omega) (by decide) (by decide)
  obtain ⟨v, h1, h2, c, r, inv, fr⟩ := st_takes (h (-6) (i + 1)) (h (-6) (i + 2)) sh h hs ho hi
  have f1 : h1 (-6) = h (-6) := (fr (-6) (by decide)).2
  refine ⟨h2, ?_, inv, fun k hk => (fr k hk).1⟩
  clear inv fr hi ho hx
  simp (disch := omega) only [a1, a2, a3, a4, a5, hl, ↓reduceIte, leT, ltT, eqT, eqF, true_and, and_true, and_self, Option.bind_some, eq_self, e_L_law_895, e_L_law_909, e_L_law_923, c, r, f1]
theorem law_20 {sh : Int × (Int → Nat × Int)} {h : Int → Int → Int} {i L : Int} (hs : Sh sh) (ho : Old sh h) (hi : Inv h) (hx : ∀ j, q_i32 (h (-6) j)) (hl : (sh.2 (-6)).2 = L) (i0 : 0 ≤ i) (i1 : i + 6 ≤ L) (L1 : L ≤ 3072) : ∃ h2, q_L 256 928 [(30, -6), (21, 0), (22, 469), (0, i)] [] (sh, h) = q_L 256 1712 [(30, -6), (21, 0), (22, 469), (0, i)] [] (sh, h2) ∧ Inv h2 ∧ ∀ k, k < 0 → h2 k = h k := by
  have a1 : q_add i 1 = i + 1 := q_add_s i0 (by omega) (by decide) (by decide)
  have a2 : q_add i 2 = i + 2 := q_add_s i0 (by omega) (by decide) (by decide)
  have a3 : q_add i 3 = i + 3 := q_add_s i0 (by omega) (by decide) (by decide)
  have a4 : q_add i 4 = i + 4 := q_add_s i0 (by omega) (by decide) (by decide)
  have a5 : q_add i 5 = i + 5 := q_add_s i0 (by omega) (by decide) (by decide)
  obtain ⟨v, h1, h2, c, r, inv, fr⟩ := st_bars (h (-6) (i + 1)) (h (-6) (i + 2)) sh h hs ho hi
  have f1 : h1 (-6) = h (-6) := (fr (-6) (by decide)).2
  refine ⟨h2, ?_, inv, fun k hk => (fr k hk).1⟩
  clear inv fr hi ho hx
  simp (disch := omega) only [a1, a2, a3, a4, a5, hl, ↓reduceIte, leT, ltT, eqT, eqF, true_and, and_true, and_self, Option.bind_some, eq_self, e_L_law_928, e_L_law_942, e_L_law_956, c, r, f1]
theorem law_21 {sh : Int × (Int → Nat × Int)} {h : Int → Int → Int} {i L : Int} (hs : Sh sh) (ho : Old sh h) (hi : Inv h) (hx : ∀ j, q_i32 (h (-6) j)) (hl : (sh.2 (-6)).2 = L) (i0 : 0 ≤ i) (i1 : i + 6 ≤ L) (L1 : L ≤ 3072) : ∃ h2, q_L 256 961 [(30, -6), (21, 0), (22, 469), (0, i)] [] (sh, h) = q_L 256 1712 [(30, -6), (21, 0), (22, 469), (0, i)] [] (sh, h2) ∧ Inv h2 ∧ ∀ k, k < 0 → h2 k = h k := by
  have a1 : q_add i 1 = i + 1 := q_add_s i0 (by omega) (by decide) (by decide)
  have a2 : q_add i 2 = i + 2 := q_add_s i0 (by omega) (by decide) (by decide)
  have a3 : q_add i 3 = i + 3 := q_add_s i0 (by omega) (by decide) (by decide)
  have a4 : q_add i 4 = i + 4 := q_add_s i0 (by omega) (by decide) (by decide)
  have a5 : q_add i 5 = i + 5 := q_add_s i0 (by omega) (by decide) (by decide)
  obtain ⟨v, h1, h2, c, r, inv, fr⟩ := st_judge (h (-6) (i + 1)) sh h hs ho hi
  have f1 : h1 (-6) = h (-6) := (fr (-6) (by decide)).2
  refine ⟨h2, ?_, inv, fun k hk => (fr k hk).1⟩
  clear inv fr hi ho hx
  simp (disch := omega) only [a1, a2, a3, a4, a5, hl, ↓reduceIte, leT, ltT, eqT, eqF, true_and, and_true, and_self, Option.bind_some, eq_self, e_L_law_961, e_L_law_970, e_L_law_979, c, r, f1]
theorem law_22 {sh : Int × (Int → Nat × Int)} {h : Int → Int → Int} {i L : Int} (hs : Sh sh) (ho : Old sh h) (hi : Inv h) (hx : ∀ j, q_i32 (h (-6) j)) (hl : (sh.2 (-6)).2 = L) (i0 : 0 ≤ i) (i1 : i + 6 ≤ L) (L1 : L ≤ 3072) : ∃ h2, q_L 256 984 [(30, -6), (21, 0), (22, 469), (0, i)] [] (sh, h) = q_L 256 1712 [(30, -6), (21, 0), (22, 469), (0, i)] [] (sh, h2) ∧ Inv h2 ∧ ∀ k, k < 0 → h2 k = h k := by
  have a1 : q_add i 1 = i + 1 := q_add_s i0 (by omega) (by decide) (by decide)
  have a2 : q_add i 2 = i + 2 := q_add_s i0 (by omega) (by decide) (by decide)
  have a3 : q_add i 3 = i + 3 := q_add_s i0 (by omega) (by decide) (by decide)
  have a4 : q_add i 4 = i + 4 := q_add_s i0 (by omega) (by decide) (by decide)
  have a5 : q_add i 5 = i + 5 := q_add_s i0 (by omega) (by decide) (by decide)
  obtain ⟨v, h1, h2, c, r, inv, fr⟩ := st_hold  sh h hs ho hi
  have f1 : h1 (-6) = h (-6) := (fr (-6) (by decide)).2
  refine ⟨h2, ?_, inv, fun k hk => (fr k hk).1⟩
  clear inv fr hi ho hx
  simp (disch := omega) only [a1, a2, a3, a4, a5, hl, ↓reduceIte, leT, ltT, eqT, eqF, true_and, and_true, and_self, Option.bind_some, eq_self, e_L_law_984, e_L_law_988, e_L_law_992, c, r, f1]
theorem law_23 {sh : Int × (Int → Nat × Int)} {h : Int → Int → Int} {i L : Int} (hs : Sh sh) (ho : Old sh h) (hi : Inv h) (hx : ∀ j, q_i32 (h (-6) j)) (hl : (sh.2 (-6)).2 = L) (i0 : 0 ≤ i) (i1 : i + 6 ≤ L) (L1 : L ≤ 3072) : ∃ h2, q_L 256 997 [(30, -6), (21, 0), (22, 469), (0, i)] [] (sh, h) = q_L 256 1712 [(30, -6), (21, 0), (22, 469), (0, i)] [] (sh, h2) ∧ Inv h2 ∧ ∀ k, k < 0 → h2 k = h k := by
  have a1 : q_add i 1 = i + 1 := q_add_s i0 (by omega) (by decide) (by decide)
  have a2 : q_add i 2 = i + 2 := q_add_s i0 (by omega) (by decide) (by decide)
  have a3 : q_add i 3 = i + 3 := q_add_s i0 (by omega) (by decide) (by decide)
  have a4 : q_add i 4 = i + 4 := q_add_s i0 (by omega) (by decide) (by decide)
  have a5 : q_add i 5 = i + 5 := q_add_s i0 (by omega) (by decide) (by decide)
  obtain ⟨v, h1, h2, c, r, inv, fr⟩ := st_drop (h (-6) (i + 1)) sh h hs ho hi
  have f1 : h1 (-6) = h (-6) := (fr (-6) (by decide)).2
  refine ⟨h2, ?_, inv, fun k hk => (fr k hk).1⟩
  clear inv fr hi ho hx
  simp (disch := omega) only [a1, a2, a3, a4, a5, hl, ↓reduceIte, leT, ltT, eqT, eqF, true_and, and_true, and_self, Option.bind_some, eq_self, e_L_law_997, e_L_law_1006, e_L_law_1015, c, r, f1]
theorem law_24 {sh : Int × (Int → Nat × Int)} {h : Int → Int → Int} {i L : Int} (hs : Sh sh) (ho : Old sh h) (hi : Inv h) (hx : ∀ j, q_i32 (h (-6) j)) (hl : (sh.2 (-6)).2 = L) (i0 : 0 ≤ i) (i1 : i + 6 ≤ L) (L1 : L ≤ 3072) : ∃ h2, q_L 256 1020 [(30, -6), (21, 0), (22, 469), (0, i)] [] (sh, h) = q_L 256 1712 [(30, -6), (21, 0), (22, 469), (0, i)] [] (sh, h2) ∧ Inv h2 ∧ ∀ k, k < 0 → h2 k = h k := by
  have a1 : q_add i 1 = i + 1 := q_add_s i0 (by omega) (by decide) (by decide)
  have a2 : q_add i 2 = i + 2 := q_add_s i0 (by omega) (by decide) (by decide)
  have a3 : q_add i 3 = i + 3 := q_add_s i0 (by omega) (by decide) (by decide)
  have a4 : q_add i 4 = i + 4 := q_add_s i0 (by omega) (by decide) (by decide)
  have a5 : q_add i 5 = i + 5 := q_add_s i0 (by omega) (by decide) (by decide)
  obtain ⟨v, h1, h2, c, r, inv, fr⟩ := st_run (h (-6) (i + 1)) sh h hs ho hi
  have f1 : h1 (-6) = h (-6) := (fr (-6) (by decide)).2
  refine ⟨h2, ?_, inv, fun k hk => (fr k hk).1⟩
  clear inv fr hi ho hx
  simp (disch := omega) only [a1, a2, a3, a4, a5, hl, ↓reduceIte, leT, ltT, eqT, eqF, true_and, and_true, and_self, Option.bind_some, eq_self, e_L_law_1020, e_L_law_1029, e_L_law_1038, c, r, f1]
theorem law_25 {sh : Int × (Int → Nat × Int)} {h : Int → Int → Int} {i L : Int} (hs : Sh sh) (ho : Old sh h) (hi : Inv h) (hx : ∀ j, q_i32 (h (-6) j)) (hl : (sh.2 (-6)).2 = L) (i0 : 0 ≤ i) (i1 : i + 6 ≤ L) (L1 : L ≤ 3072) : ∃ h2, q_L 256 1043 [(30, -6), (21, 0), (22, 469), (0, i)] [] (sh, h) = q_L 256 1712 [(30, -6), (21, 0), (22, 469), (0, i)] [] (sh, h2) ∧ Inv h2 ∧ ∀ k, k < 0 → h2 k = h k := by
  have a1 : q_add i 1 = i + 1 := q_add_s i0 (by omega) (by decide) (by decide)
  have a2 : q_add i 2 = i + 2 := q_add_s i0 (by omega) (by decide) (by decide)
  have a3 : q_add i 3 = i + 3 := q_add_s i0 (by omega) (by decide) (by decide)
  have a4 : q_add i 4 = i + 4 := q_add_s i0 (by omega) (by decide) (by decide)
  have a5 : q_add i 5 = i + 5 := q_add_s i0 (by omega) (by decide) (by decide)
  obtain ⟨v, h1, h2, c, r, inv, fr⟩ := st_block (h (-6) (i + 1)) (h (-6) (i + 2)) (h (-6) (i + 3)) sh h hs ho hi
  have f1 : h1 (-6) = h (-6) := (fr (-6) (by decide)).2
  refine ⟨h2, ?_, inv, fun k hk => (fr k hk).1⟩
  clear inv fr hi ho hx
  simp (disch := omega) only [a1, a2, a3, a4, a5, hl, ↓reduceIte, leT, ltT, eqT, eqF, true_and, and_true, and_self, Option.bind_some, eq_self, e_L_law_1043, e_L_law_1062, e_L_law_1081, c, r, f1]
theorem law_26 {sh : Int × (Int → Nat × Int)} {h : Int → Int → Int} {i L : Int} (hs : Sh sh) (ho : Old sh h) (hi : Inv h) (hx : ∀ j, q_i32 (h (-6) j)) (hl : (sh.2 (-6)).2 = L) (i0 : 0 ≤ i) (i1 : i + 6 ≤ L) (L1 : L ≤ 3072) : ∃ h2, q_L 256 1086 [(30, -6), (21, 0), (22, 469), (0, i)] [] (sh, h) = q_L 256 1712 [(30, -6), (21, 0), (22, 469), (0, i)] [] (sh, h2) ∧ Inv h2 ∧ ∀ k, k < 0 → h2 k = h k := by
  have a1 : q_add i 1 = i + 1 := q_add_s i0 (by omega) (by decide) (by decide)
  have a2 : q_add i 2 = i + 2 := q_add_s i0 (by omega) (by decide) (by decide)
  have a3 : q_add i 3 = i + 3 := q_add_s i0 (by omega) (by decide) (by decide)
  have a4 : q_add i 4 = i + 4 := q_add_s i0 (by omega) (by decide) (by decide)
  have a5 : q_add i 5 = i + 5 := q_add_s i0 (by omega) (by decide) (by decide)
  obtain ⟨v, h1, h2, c, r, inv, fr⟩ := st_name (h (-6) (i + 1)) (h (-6) (i + 2)) sh h hs ho hi
  have f1 : h1 (-6) = h (-6) := (fr (-6) (by decide)).2
  refine ⟨h2, ?_, inv, fun k hk => (fr k hk).1⟩
  clear inv fr hi ho hx
  simp (disch := omega) only [a1, a2, a3, a4, a5, hl, ↓reduceIte, leT, ltT, eqT, eqF, true_and, and_true, and_self, Option.bind_some, eq_self, e_L_law_1086, e_L_law_1100, e_L_law_1114, c, r, f1]
theorem law_27 {sh : Int × (Int → Nat × Int)} {h : Int → Int → Int} {i L : Int} (hs : Sh sh) (ho : Old sh h) (hi : Inv h) (hx : ∀ j, q_i32 (h (-6) j)) (hl : (sh.2 (-6)).2 = L) (i0 : 0 ≤ i) (i1 : i + 6 ≤ L) (L1 : L ≤ 3072) : ∃ h2, q_L 256 1119 [(30, -6), (21, 0), (22, 469), (0, i)] [] (sh, h) = q_L 256 1712 [(30, -6), (21, 0), (22, 469), (0, i)] [] (sh, h2) ∧ Inv h2 ∧ ∀ k, k < 0 → h2 k = h k := by
  have a1 : q_add i 1 = i + 1 := q_add_s i0 (by omega) (by decide) (by decide)
  have a2 : q_add i 2 = i + 2 := q_add_s i0 (by omega) (by decide) (by decide)
  have a3 : q_add i 3 = i + 3 := q_add_s i0 (by omega) (by decide) (by decide)
  have a4 : q_add i 4 = i + 4 := q_add_s i0 (by omega) (by decide) (by decide)
  have a5 : q_add i 5 = i + 5 := q_add_s i0 (by omega) (by decide) (by decide)
  obtain ⟨v, h1, h2, c, r, inv, fr⟩ := st_over (h (-6) (i + 1)) (h (-6) (i + 2)) sh h hs ho hi
  have f1 : h1 (-6) = h (-6) := (fr (-6) (by decide)).2
  refine ⟨h2, ?_, inv, fun k hk => (fr k hk).1⟩
  clear inv fr hi ho hx
  simp (disch := omega) only [a1, a2, a3, a4, a5, hl, ↓reduceIte, leT, ltT, eqT, eqF, true_and, and_true, and_self, Option.bind_some, eq_self, e_L_law_1119, e_L_law_1133, e_L_law_1147, c, r, f1]
theorem law_28 {sh : Int × (Int → Nat × Int)} {h : Int → Int → Int} {i L : Int} (hs : Sh sh) (ho : Old sh h) (hi : Inv h) (hx : ∀ j, q_i32 (h (-6) j)) (hl : (sh.2 (-6)).2 = L) (i0 : 0 ≤ i) (i1 : i + 6 ≤ L) (L1 : L ≤ 3072) : ∃ h2, q_L 256 1152 [(30, -6), (21, 0), (22, 469), (0, i)] [] (sh, h) = q_L 256 1712 [(30, -6), (21, 0), (22, 469), (0, i)] [] (sh, h2) ∧ Inv h2 ∧ ∀ k, k < 0 → h2 k = h k := by
  have a1 : q_add i 1 = i + 1 := q_add_s i0 (by omega) (by decide) (by decide)
  have a2 : q_add i 2 = i + 2 := q_add_s i0 (by omega) (by decide) (by decide)
  have a3 : q_add i 3 = i + 3 := q_add_s i0 (by omega) (by decide) (by decide)
  have a4 : q_add i 4 = i + 4 := q_add_s i0 (by omega) (by decide) (by decide)
  have a5 : q_add i 5 = i + 5 := q_add_s i0 (by omega) (by decide) (by decide)
  obtain ⟨v, h1, h2, c, r, inv, fr⟩ := st_order (h (-6) (i + 1)) (h (-6) (i + 2)) sh h hs ho hi
  have f1 : h1 (-6) = h (-6) := (fr (-6) (by decide)).2
  refine ⟨h2, ?_, inv, fun k hk => (fr k hk).1⟩
  clear inv fr hi ho hx
  simp (disch := omega) only [a1, a2, a3, a4, a5, hl, ↓reduceIte, leT, ltT, eqT, eqF, true_and, and_true, and_self, Option.bind_some, eq_self, e_L_law_1152, e_L_law_1166, e_L_law_1180, c, r, f1]
theorem law_29 {sh : Int × (Int → Nat × Int)} {h : Int → Int → Int} {i L : Int} (hs : Sh sh) (ho : Old sh h) (hi : Inv h) (hx : ∀ j, q_i32 (h (-6) j)) (hl : (sh.2 (-6)).2 = L) (i0 : 0 ≤ i) (i1 : i + 6 ≤ L) (L1 : L ≤ 3072) : ∃ h2, q_L 256 1185 [(30, -6), (21, 0), (22, 469), (0, i)] [] (sh, h) = q_L 256 1712 [(30, -6), (21, 0), (22, 469), (0, i)] [] (sh, h2) ∧ Inv h2 ∧ ∀ k, k < 0 → h2 k = h k := by
  have a1 : q_add i 1 = i + 1 := q_add_s i0 (by omega) (by decide) (by decide)
  have a2 : q_add i 2 = i + 2 := q_add_s i0 (by omega) (by decide) (by decide)
  have a3 : q_add i 3 = i + 3 := q_add_s i0 (by omega) (by decide) (by decide)
  have a4 : q_add i 4 = i + 4 := q_add_s i0 (by omega) (by decide) (by decide)
  have a5 : q_add i 5 = i + 5 := q_add_s i0 (by omega) (by decide) (by decide)
  obtain ⟨v, h1, h2, c, r, inv, fr⟩ := st_again (h (-6) (i + 1)) (h (-6) (i + 2)) sh h hs ho hi
  have f1 : h1 (-6) = h (-6) := (fr (-6) (by decide)).2
  refine ⟨h2, ?_, inv, fun k hk => (fr k hk).1⟩
  clear inv fr hi ho hx
  simp (disch := omega) only [a1, a2, a3, a4, a5, hl, ↓reduceIte, leT, ltT, eqT, eqF, true_and, and_true, and_self, Option.bind_some, eq_self, e_L_law_1185, e_L_law_1199, e_L_law_1213, c, r, f1]
theorem law_30 {sh : Int × (Int → Nat × Int)} {h : Int → Int → Int} {i L : Int} (hs : Sh sh) (ho : Old sh h) (hi : Inv h) (hx : ∀ j, q_i32 (h (-6) j)) (hl : (sh.2 (-6)).2 = L) (i0 : 0 ≤ i) (i1 : i + 6 ≤ L) (L1 : L ≤ 3072) : ∃ h2, q_L 256 1218 [(30, -6), (21, 0), (22, 469), (0, i)] [] (sh, h) = q_L 256 1712 [(30, -6), (21, 0), (22, 469), (0, i)] [] (sh, h2) ∧ Inv h2 ∧ ∀ k, k < 0 → h2 k = h k := by
  have a1 : q_add i 1 = i + 1 := q_add_s i0 (by omega) (by decide) (by decide)
  have a2 : q_add i 2 = i + 2 := q_add_s i0 (by omega) (by decide) (by decide)
  have a3 : q_add i 3 = i + 3 := q_add_s i0 (by omega) (by decide) (by decide)
  have a4 : q_add i 4 = i + 4 := q_add_s i0 (by omega) (by decide) (by decide)
  have a5 : q_add i 5 = i + 5 := q_add_s i0 (by omega) (by decide) (by decide)
  obtain ⟨v, h1, h2, c, r, inv, fr⟩ := st_orderIs (h (-6) (i + 1)) (h (-6) (i + 2)) (h (-6) (i + 3)) sh h hs ho hi
  have f1 : h1 (-6) = h (-6) := (fr (-6) (by decide)).2
  refine ⟨h2, ?_, inv, fun k hk => (fr k hk).1⟩
  clear inv fr hi ho hx
  simp (disch := omega) only [a1, a2, a3, a4, a5, hl, ↓reduceIte, leT, ltT, eqT, eqF, true_and, and_true, and_self, Option.bind_some, eq_self, e_L_law_1218, e_L_law_1237, e_L_law_1256, c, r, f1]
theorem law_31 {sh : Int × (Int → Nat × Int)} {h : Int → Int → Int} {i L : Int} (hs : Sh sh) (ho : Old sh h) (hi : Inv h) (hx : ∀ j, q_i32 (h (-6) j)) (hl : (sh.2 (-6)).2 = L) (i0 : 0 ≤ i) (i1 : i + 6 ≤ L) (L1 : L ≤ 3072) : ∃ h2, q_L 256 1261 [(30, -6), (21, 0), (22, 469), (0, i)] [] (sh, h) = q_L 256 1712 [(30, -6), (21, 0), (22, 469), (0, i)] [] (sh, h2) ∧ Inv h2 ∧ ∀ k, k < 0 → h2 k = h k := by
  have a1 : q_add i 1 = i + 1 := q_add_s i0 (by omega) (by decide) (by decide)
  have a2 : q_add i 2 = i + 2 := q_add_s i0 (by omega) (by decide) (by decide)
  have a3 : q_add i 3 = i + 3 := q_add_s i0 (by omega) (by decide) (by decide)
  have a4 : q_add i 4 = i + 4 := q_add_s i0 (by omega) (by decide) (by decide)
  have a5 : q_add i 5 = i + 5 := q_add_s i0 (by omega) (by decide) (by decide)
  by_cases z : h (-6) (i + 4) = 0
  · obtain ⟨v, h1, h2, c, r, inv, fr⟩ := st_table (h (-6) (i + 1)) (h (-6) (i + 2)) (h (-6) (i + 3)) 0 (Or.inl rfl) sh h hs ho hi
    have f1 : h1 (-6) = h (-6) := (fr (-6) (by decide)).2
    refine ⟨h2, ?_, inv, fun k hk => (fr k hk).1⟩
    clear inv fr hi ho hx
    simp (disch := omega) only [a1, a2, a3, a4, a5, hl, ↓reduceIte, leT, ltT, eqT, eqF, true_and, and_true, and_self, Option.bind_some, eq_self, e_L_law_1261, e_L_law_1290, e_L_law_1293, e_L_law_1322, e_L_law_1325, z, c, r, f1]
  · obtain ⟨v, h1, h2, c, r, inv, fr⟩ := st_table (h (-6) (i + 1)) (h (-6) (i + 2)) (h (-6) (i + 3)) 1 (Or.inr rfl) sh h hs ho hi
    have f1 : h1 (-6) = h (-6) := (fr (-6) (by decide)).2
    refine ⟨h2, ?_, inv, fun k hk => (fr k hk).1⟩
    clear inv fr hi ho hx
    simp (disch := omega) only [a1, a2, a3, a4, a5, hl, ↓reduceIte, leT, ltT, eqT, eqF, true_and, and_true, and_self, Option.bind_some, eq_self, e_L_law_1261, e_L_law_1290, e_L_law_1293, e_L_law_1322, e_L_law_1325, c, r, f1]
theorem law_32 {sh : Int × (Int → Nat × Int)} {h : Int → Int → Int} {i L : Int} (hs : Sh sh) (ho : Old sh h) (hi : Inv h) (hx : ∀ j, q_i32 (h (-6) j)) (hl : (sh.2 (-6)).2 = L) (i0 : 0 ≤ i) (i1 : i + 6 ≤ L) (L1 : L ≤ 3072) : ∃ h2, q_L 256 1330 [(30, -6), (21, 0), (22, 469), (0, i)] [] (sh, h) = q_L 256 1712 [(30, -6), (21, 0), (22, 469), (0, i)] [] (sh, h2) ∧ Inv h2 ∧ ∀ k, k < 0 → h2 k = h k := by
  have a1 : q_add i 1 = i + 1 := q_add_s i0 (by omega) (by decide) (by decide)
  have a2 : q_add i 2 = i + 2 := q_add_s i0 (by omega) (by decide) (by decide)
  have a3 : q_add i 3 = i + 3 := q_add_s i0 (by omega) (by decide) (by decide)
  have a4 : q_add i 4 = i + 4 := q_add_s i0 (by omega) (by decide) (by decide)
  have a5 : q_add i 5 = i + 5 := q_add_s i0 (by omega) (by decide) (by decide)
  obtain ⟨v, h1, h2, c, r, inv, fr⟩ := st_silence (h (-6) (i + 1)) (h (-6) (i + 2)) sh h hs ho hi
  have f1 : h1 (-6) = h (-6) := (fr (-6) (by decide)).2
  refine ⟨h2, ?_, inv, fun k hk => (fr k hk).1⟩
  clear inv fr hi ho hx
  simp (disch := omega) only [a1, a2, a3, a4, a5, hl, ↓reduceIte, leT, ltT, eqT, eqF, true_and, and_true, and_self, Option.bind_some, eq_self, e_L_law_1330, e_L_law_1344, e_L_law_1358, c, r, f1]
theorem law_33 {sh : Int × (Int → Nat × Int)} {h : Int → Int → Int} {i L : Int} (hs : Sh sh) (ho : Old sh h) (hi : Inv h) (hx : ∀ j, q_i32 (h (-6) j)) (hl : (sh.2 (-6)).2 = L) (i0 : 0 ≤ i) (i1 : i + 6 ≤ L) (L1 : L ≤ 3072) : ∃ h2, q_L 256 1363 [(30, -6), (21, 0), (22, 469), (0, i)] [] (sh, h) = q_L 256 1712 [(30, -6), (21, 0), (22, 469), (0, i)] [] (sh, h2) ∧ Inv h2 ∧ ∀ k, k < 0 → h2 k = h k := by
  have a1 : q_add i 1 = i + 1 := q_add_s i0 (by omega) (by decide) (by decide)
  have a2 : q_add i 2 = i + 2 := q_add_s i0 (by omega) (by decide) (by decide)
  have a3 : q_add i 3 = i + 3 := q_add_s i0 (by omega) (by decide) (by decide)
  have a4 : q_add i 4 = i + 4 := q_add_s i0 (by omega) (by decide) (by decide)
  have a5 : q_add i 5 = i + 5 := q_add_s i0 (by omega) (by decide) (by decide)
  obtain ⟨v, h1, h2, c, r, inv, fr⟩ := st_ever (h (-6) (i + 1)) sh h hs ho hi
  have f1 : h1 (-6) = h (-6) := (fr (-6) (by decide)).2
  refine ⟨h2, ?_, inv, fun k hk => (fr k hk).1⟩
  clear inv fr hi ho hx
  simp (disch := omega) only [a1, a2, a3, a4, a5, hl, ↓reduceIte, leT, ltT, eqT, eqF, true_and, and_true, and_self, Option.bind_some, eq_self, e_L_law_1363, e_L_law_1372, e_L_law_1381, c, r, f1]
theorem law_34 {sh : Int × (Int → Nat × Int)} {h : Int → Int → Int} {i L : Int} (hs : Sh sh) (ho : Old sh h) (hi : Inv h) (hx : ∀ j, q_i32 (h (-6) j)) (hl : (sh.2 (-6)).2 = L) (i0 : 0 ≤ i) (i1 : i + 6 ≤ L) (L1 : L ≤ 3072) : ∃ h2, q_L 256 1386 [(30, -6), (21, 0), (22, 469), (0, i)] [] (sh, h) = q_L 256 1712 [(30, -6), (21, 0), (22, 469), (0, i)] [] (sh, h2) ∧ Inv h2 ∧ ∀ k, k < 0 → h2 k = h k := by
  have a1 : q_add i 1 = i + 1 := q_add_s i0 (by omega) (by decide) (by decide)
  have a2 : q_add i 2 = i + 2 := q_add_s i0 (by omega) (by decide) (by decide)
  have a3 : q_add i 3 = i + 3 := q_add_s i0 (by omega) (by decide) (by decide)
  have a4 : q_add i 4 = i + 4 := q_add_s i0 (by omega) (by decide) (by decide)
  have a5 : q_add i 5 = i + 5 := q_add_s i0 (by omega) (by decide) (by decide)
  obtain ⟨v, h1, h2, c, r, inv, fr⟩ := st_cell (h (-6) (i + 1)) (h (-6) (i + 2)) sh h hs ho hi
  have f1 : h1 (-6) = h (-6) := (fr (-6) (by decide)).2
  refine ⟨h2, ?_, inv, fun k hk => (fr k hk).1⟩
  clear inv fr hi ho hx
  simp (disch := omega) only [a1, a2, a3, a4, a5, hl, ↓reduceIte, leT, ltT, eqT, eqF, true_and, and_true, and_self, Option.bind_some, eq_self, e_L_law_1386, e_L_law_1400, e_L_law_1414, c, r, f1]
theorem law_35 {sh : Int × (Int → Nat × Int)} {h : Int → Int → Int} {i L : Int} (hs : Sh sh) (ho : Old sh h) (hi : Inv h) (hx : ∀ j, q_i32 (h (-6) j)) (hl : (sh.2 (-6)).2 = L) (i0 : 0 ≤ i) (i1 : i + 6 ≤ L) (L1 : L ≤ 3072) : ∃ h2, q_L 256 1419 [(30, -6), (21, 0), (22, 469), (0, i)] [] (sh, h) = q_L 256 1712 [(30, -6), (21, 0), (22, 469), (0, i)] [] (sh, h2) ∧ Inv h2 ∧ ∀ k, k < 0 → h2 k = h k := by
  have a1 : q_add i 1 = i + 1 := q_add_s i0 (by omega) (by decide) (by decide)
  have a2 : q_add i 2 = i + 2 := q_add_s i0 (by omega) (by decide) (by decide)
  have a3 : q_add i 3 = i + 3 := q_add_s i0 (by omega) (by decide) (by decide)
  have a4 : q_add i 4 = i + 4 := q_add_s i0 (by omega) (by decide) (by decide)
  have a5 : q_add i 5 = i + 5 := q_add_s i0 (by omega) (by decide) (by decide)
  obtain ⟨v, h1, h2, c, r, inv, fr⟩ := st_seek  sh h hs ho hi
  have f1 : h1 (-6) = h (-6) := (fr (-6) (by decide)).2
  refine ⟨h2, ?_, inv, fun k hk => (fr k hk).1⟩
  clear inv fr hi ho hx
  simp (disch := omega) only [a1, a2, a3, a4, a5, hl, ↓reduceIte, leT, ltT, eqT, eqF, true_and, and_true, and_self, Option.bind_some, eq_self, e_L_law_1419, e_L_law_1423, e_L_law_1427, c, r, f1]
theorem law_36 {sh : Int × (Int → Nat × Int)} {h : Int → Int → Int} {i L : Int} (hs : Sh sh) (ho : Old sh h) (hi : Inv h) (hx : ∀ j, q_i32 (h (-6) j)) (hl : (sh.2 (-6)).2 = L) (i0 : 0 ≤ i) (i1 : i + 6 ≤ L) (L1 : L ≤ 3072) : ∃ h2, q_L 256 1432 [(30, -6), (21, 0), (22, 469), (0, i)] [] (sh, h) = q_L 256 1712 [(30, -6), (21, 0), (22, 469), (0, i)] [] (sh, h2) ∧ Inv h2 ∧ ∀ k, k < 0 → h2 k = h k := by
  have a1 : q_add i 1 = i + 1 := q_add_s i0 (by omega) (by decide) (by decide)
  have a2 : q_add i 2 = i + 2 := q_add_s i0 (by omega) (by decide) (by decide)
  have a3 : q_add i 3 = i + 3 := q_add_s i0 (by omega) (by decide) (by decide)
  have a4 : q_add i 4 = i + 4 := q_add_s i0 (by omega) (by decide) (by decide)
  have a5 : q_add i 5 = i + 5 := q_add_s i0 (by omega) (by decide) (by decide)
  obtain ⟨v, h1, h2, c, r, inv, fr⟩ := st_stop (h (-6) (i + 1)) sh h hs ho hi
  have f1 : h1 (-6) = h (-6) := (fr (-6) (by decide)).2
  refine ⟨h2, ?_, inv, fun k hk => (fr k hk).1⟩
  clear inv fr hi ho hx
  simp (disch := omega) only [a1, a2, a3, a4, a5, hl, ↓reduceIte, leT, ltT, eqT, eqF, true_and, and_true, and_self, Option.bind_some, eq_self, e_L_law_1432, e_L_law_1441, e_L_law_1450, c, r, f1]
theorem law_37 {sh : Int × (Int → Nat × Int)} {h : Int → Int → Int} {i L : Int} (hs : Sh sh) (ho : Old sh h) (hi : Inv h) (hx : ∀ j, q_i32 (h (-6) j)) (hl : (sh.2 (-6)).2 = L) (i0 : 0 ≤ i) (i1 : i + 6 ≤ L) (L1 : L ≤ 3072) : ∃ h2, q_L 256 1455 [(30, -6), (21, 0), (22, 469), (0, i)] [] (sh, h) = q_L 256 1712 [(30, -6), (21, 0), (22, 469), (0, i)] [] (sh, h2) ∧ Inv h2 ∧ ∀ k, k < 0 → h2 k = h k := by
  have a1 : q_add i 1 = i + 1 := q_add_s i0 (by omega) (by decide) (by decide)
  have a2 : q_add i 2 = i + 2 := q_add_s i0 (by omega) (by decide) (by decide)
  have a3 : q_add i 3 = i + 3 := q_add_s i0 (by omega) (by decide) (by decide)
  have a4 : q_add i 4 = i + 4 := q_add_s i0 (by omega) (by decide) (by decide)
  have a5 : q_add i 5 = i + 5 := q_add_s i0 (by omega) (by decide) (by decide)
  obtain ⟨v, h1, h2, c, r, inv, fr⟩ := st_check (h (-6) (i + 1)) sh h hs ho hi
  have f1 : h1 (-6) = h (-6) := (fr (-6) (by decide)).2
  refine ⟨h2, ?_, inv, fun k hk => (fr k hk).1⟩
  clear inv fr hi ho hx
  simp (disch := omega) only [a1, a2, a3, a4, a5, hl, ↓reduceIte, leT, ltT, eqT, eqF, true_and, and_true, and_self, Option.bind_some, eq_self, e_L_law_1455, e_L_law_1464, e_L_law_1473, c, r, f1]
theorem law_38 {sh : Int × (Int → Nat × Int)} {h : Int → Int → Int} {i L : Int} (hs : Sh sh) (ho : Old sh h) (hi : Inv h) (hx : ∀ j, q_i32 (h (-6) j)) (hl : (sh.2 (-6)).2 = L) (i0 : 0 ≤ i) (i1 : i + 6 ≤ L) (L1 : L ≤ 3072) : ∃ h2, q_L 256 1478 [(30, -6), (21, 0), (22, 469), (0, i)] [] (sh, h) = q_L 256 1712 [(30, -6), (21, 0), (22, 469), (0, i)] [] (sh, h2) ∧ Inv h2 ∧ ∀ k, k < 0 → h2 k = h k := by
  have a1 : q_add i 1 = i + 1 := q_add_s i0 (by omega) (by decide) (by decide)
  have a2 : q_add i 2 = i + 2 := q_add_s i0 (by omega) (by decide) (by decide)
  have a3 : q_add i 3 = i + 3 := q_add_s i0 (by omega) (by decide) (by decide)
  have a4 : q_add i 4 = i + 4 := q_add_s i0 (by omega) (by decide) (by decide)
  have a5 : q_add i 5 = i + 5 := q_add_s i0 (by omega) (by decide) (by decide)
  obtain ⟨v, h1, h2, c, r, inv, fr⟩ := st_sheet (h (-6) (i + 1)) (h (-6) (i + 2)) (h (-6) (i + 3)) sh h hs ho hi
  have f1 : h1 (-6) = h (-6) := (fr (-6) (by decide)).2
  refine ⟨h2, ?_, inv, fun k hk => (fr k hk).1⟩
  clear inv fr hi ho hx
  simp (disch := omega) only [a1, a2, a3, a4, a5, hl, ↓reduceIte, leT, ltT, eqT, eqF, true_and, and_true, and_self, Option.bind_some, eq_self, e_L_law_1478, e_L_law_1497, e_L_law_1516, c, r, f1]
theorem law_39 {sh : Int × (Int → Nat × Int)} {h : Int → Int → Int} {i L : Int} (hs : Sh sh) (ho : Old sh h) (hi : Inv h) (hx : ∀ j, q_i32 (h (-6) j)) (hl : (sh.2 (-6)).2 = L) (i0 : 0 ≤ i) (i1 : i + 6 ≤ L) (L1 : L ≤ 3072) : ∃ h2, q_L 256 1521 [(30, -6), (21, 0), (22, 469), (0, i)] [] (sh, h) = q_L 256 1712 [(30, -6), (21, 0), (22, 469), (0, i)] [] (sh, h2) ∧ Inv h2 ∧ ∀ k, k < 0 → h2 k = h k := by
  have a1 : q_add i 1 = i + 1 := q_add_s i0 (by omega) (by decide) (by decide)
  have a2 : q_add i 2 = i + 2 := q_add_s i0 (by omega) (by decide) (by decide)
  have a3 : q_add i 3 = i + 3 := q_add_s i0 (by omega) (by decide) (by decide)
  have a4 : q_add i 4 = i + 4 := q_add_s i0 (by omega) (by decide) (by decide)
  have a5 : q_add i 5 = i + 5 := q_add_s i0 (by omega) (by decide) (by decide)
  obtain ⟨v, h1, h2, c, r, inv, fr⟩ := st_write (h (-6) (i + 1)) (h (-6) (i + 2)) (h (-6) (i + 3)) (hx _) sh h hs ho hi
  have f1 : h1 (-6) = h (-6) := (fr (-6) (by decide)).2
  refine ⟨h2, ?_, inv, fun k hk => (fr k hk).1⟩
  clear inv fr hi ho hx
  simp (disch := omega) only [a1, a2, a3, a4, a5, hl, ↓reduceIte, leT, ltT, eqT, eqF, true_and, and_true, and_self, Option.bind_some, eq_self, e_L_law_1521, e_L_law_1540, e_L_law_1559, c, r, f1]
theorem law_40 {sh : Int × (Int → Nat × Int)} {h : Int → Int → Int} {i L : Int} (hs : Sh sh) (ho : Old sh h) (hi : Inv h) (hx : ∀ j, q_i32 (h (-6) j)) (hl : (sh.2 (-6)).2 = L) (i0 : 0 ≤ i) (i1 : i + 6 ≤ L) (L1 : L ≤ 3072) : ∃ h2, q_L 256 1564 [(30, -6), (21, 0), (22, 469), (0, i)] [] (sh, h) = q_L 256 1712 [(30, -6), (21, 0), (22, 469), (0, i)] [] (sh, h2) ∧ Inv h2 ∧ ∀ k, k < 0 → h2 k = h k := by
  have a1 : q_add i 1 = i + 1 := q_add_s i0 (by omega) (by decide) (by decide)
  have a2 : q_add i 2 = i + 2 := q_add_s i0 (by omega) (by decide) (by decide)
  have a3 : q_add i 3 = i + 3 := q_add_s i0 (by omega) (by decide) (by decide)
  have a4 : q_add i 4 = i + 4 := q_add_s i0 (by omega) (by decide) (by decide)
  have a5 : q_add i 5 = i + 5 := q_add_s i0 (by omega) (by decide) (by decide)
  obtain ⟨v, h1, h2, c, r, inv, fr⟩ := st_copy (h (-6) (i + 1)) (h (-6) (i + 2)) (h (-6) (i + 3)) (h (-6) (i + 4)) (h (-6) (i + 5)) (hx _) sh h hs ho hi
  have f1 : h1 (-6) = h (-6) := (fr (-6) (by decide)).2
  refine ⟨h2, ?_, inv, fun k hk => (fr k hk).1⟩
  clear inv fr hi ho hx
  simp (disch := omega) only [a1, a2, a3, a4, a5, hl, ↓reduceIte, leT, ltT, eqT, eqF, true_and, and_true, and_self, Option.bind_some, eq_self, e_L_law_1564, e_L_law_1593, e_L_law_1622, c, r, f1]
theorem law_41 {sh : Int × (Int → Nat × Int)} {h : Int → Int → Int} {i L : Int} (hs : Sh sh) (ho : Old sh h) (hi : Inv h) (hx : ∀ j, q_i32 (h (-6) j)) (hl : (sh.2 (-6)).2 = L) (i0 : 0 ≤ i) (i1 : i + 6 ≤ L) (L1 : L ≤ 3072) : ∃ h2, q_L 256 1627 [(30, -6), (21, 0), (22, 469), (0, i)] [] (sh, h) = q_L 256 1712 [(30, -6), (21, 0), (22, 469), (0, i)] [] (sh, h2) ∧ Inv h2 ∧ ∀ k, k < 0 → h2 k = h k := by
  have a1 : q_add i 1 = i + 1 := q_add_s i0 (by omega) (by decide) (by decide)
  have a2 : q_add i 2 = i + 2 := q_add_s i0 (by omega) (by decide) (by decide)
  have a3 : q_add i 3 = i + 3 := q_add_s i0 (by omega) (by decide) (by decide)
  have a4 : q_add i 4 = i + 4 := q_add_s i0 (by omega) (by decide) (by decide)
  have a5 : q_add i 5 = i + 5 := q_add_s i0 (by omega) (by decide) (by decide)
  obtain ⟨v, h1, h2, c, r, inv, fr⟩ := st_image  sh h hs ho hi
  have f1 : h1 (-6) = h (-6) := (fr (-6) (by decide)).2
  refine ⟨h2, ?_, inv, fun k hk => (fr k hk).1⟩
  clear inv fr hi ho hx
  simp (disch := omega) only [a1, a2, a3, a4, a5, hl, ↓reduceIte, leT, ltT, eqT, eqF, true_and, and_true, and_self, Option.bind_some, eq_self, e_L_law_1627, e_L_law_1631, e_L_law_1635, c, r, f1]
theorem law_42 {sh : Int × (Int → Nat × Int)} {h : Int → Int → Int} {i L : Int} (hs : Sh sh) (ho : Old sh h) (hi : Inv h) (hx : ∀ j, q_i32 (h (-6) j)) (hl : (sh.2 (-6)).2 = L) (i0 : 0 ≤ i) (i1 : i + 6 ≤ L) (L1 : L ≤ 3072) : ∃ h2, q_L 256 1640 [(30, -6), (21, 0), (22, 469), (0, i)] [] (sh, h) = q_L 256 1712 [(30, -6), (21, 0), (22, 469), (0, i)] [] (sh, h2) ∧ Inv h2 ∧ ∀ k, k < 0 → h2 k = h k := by
  have a1 : q_add i 1 = i + 1 := q_add_s i0 (by omega) (by decide) (by decide)
  have a2 : q_add i 2 = i + 2 := q_add_s i0 (by omega) (by decide) (by decide)
  have a3 : q_add i 3 = i + 3 := q_add_s i0 (by omega) (by decide) (by decide)
  have a4 : q_add i 4 = i + 4 := q_add_s i0 (by omega) (by decide) (by decide)
  have a5 : q_add i 5 = i + 5 := q_add_s i0 (by omega) (by decide) (by decide)
  obtain ⟨v, h1, h2, c, r, inv, fr⟩ := st_undo  sh h hs ho hi
  have f1 : h1 (-6) = h (-6) := (fr (-6) (by decide)).2
  refine ⟨h2, ?_, inv, fun k hk => (fr k hk).1⟩
  clear inv fr hi ho hx
  simp (disch := omega) only [a1, a2, a3, a4, a5, hl, ↓reduceIte, leT, ltT, eqT, eqF, true_and, and_true, and_self, Option.bind_some, eq_self, e_L_law_1640, e_L_law_1644, e_L_law_1648, c, r, f1]
theorem law_43 {sh : Int × (Int → Nat × Int)} {h : Int → Int → Int} {i L : Int} (hs : Sh sh) (ho : Old sh h) (hi : Inv h) (hx : ∀ j, q_i32 (h (-6) j)) (hl : (sh.2 (-6)).2 = L) (i0 : 0 ≤ i) (i1 : i + 6 ≤ L) (L1 : L ≤ 3072) : ∃ h2, q_L 256 1653 [(30, -6), (21, 0), (22, 469), (0, i)] [] (sh, h) = q_L 256 1712 [(30, -6), (21, 0), (22, 469), (0, i)] [] (sh, h2) ∧ Inv h2 ∧ ∀ k, k < 0 → h2 k = h k := by
  have a1 : q_add i 1 = i + 1 := q_add_s i0 (by omega) (by decide) (by decide)
  have a2 : q_add i 2 = i + 2 := q_add_s i0 (by omega) (by decide) (by decide)
  have a3 : q_add i 3 = i + 3 := q_add_s i0 (by omega) (by decide) (by decide)
  have a4 : q_add i 4 = i + 4 := q_add_s i0 (by omega) (by decide) (by decide)
  have a5 : q_add i 5 = i + 5 := q_add_s i0 (by omega) (by decide) (by decide)
  obtain ⟨v, h1, h2, c, r, inv, fr⟩ := st_tear  sh h hs ho hi
  have f1 : h1 (-6) = h (-6) := (fr (-6) (by decide)).2
  refine ⟨h2, ?_, inv, fun k hk => (fr k hk).1⟩
  clear inv fr hi ho hx
  simp (disch := omega) only [a1, a2, a3, a4, a5, hl, ↓reduceIte, leT, ltT, eqT, eqF, true_and, and_true, and_self, Option.bind_some, eq_self, e_L_law_1653, e_L_law_1657, e_L_law_1661, c, r, f1]
theorem law_44 {sh : Int × (Int → Nat × Int)} {h : Int → Int → Int} {i L : Int} (hs : Sh sh) (ho : Old sh h) (hi : Inv h) (hx : ∀ j, q_i32 (h (-6) j)) (hl : (sh.2 (-6)).2 = L) (i0 : 0 ≤ i) (i1 : i + 6 ≤ L) (L1 : L ≤ 3072) : ∃ h2, q_L 256 1666 [(30, -6), (21, 0), (22, 469), (0, i)] [] (sh, h) = q_L 256 1712 [(30, -6), (21, 0), (22, 469), (0, i)] [] (sh, h2) ∧ Inv h2 ∧ ∀ k, k < 0 → h2 k = h k := by
  have a1 : q_add i 1 = i + 1 := q_add_s i0 (by omega) (by decide) (by decide)
  have a2 : q_add i 2 = i + 2 := q_add_s i0 (by omega) (by decide) (by decide)
  have a3 : q_add i 3 = i + 3 := q_add_s i0 (by omega) (by decide) (by decide)
  have a4 : q_add i 4 = i + 4 := q_add_s i0 (by omega) (by decide) (by decide)
  have a5 : q_add i 5 = i + 5 := q_add_s i0 (by omega) (by decide) (by decide)
  obtain ⟨v, h1, h2, c, r, inv, fr⟩ := st_count (h (-6) (i + 1)) sh h hs ho hi
  have f1 : h1 (-6) = h (-6) := (fr (-6) (by decide)).2
  refine ⟨h2, ?_, inv, fun k hk => (fr k hk).1⟩
  clear inv fr hi ho hx
  simp (disch := omega) only [a1, a2, a3, a4, a5, hl, ↓reduceIte, leT, ltT, eqT, eqF, true_and, and_true, and_self, Option.bind_some, eq_self, e_L_law_1666, e_L_law_1675, e_L_law_1684, c, r, f1]
theorem law_45 {sh : Int × (Int → Nat × Int)} {h : Int → Int → Int} {i L : Int} (hs : Sh sh) (ho : Old sh h) (hi : Inv h) (hx : ∀ j, q_i32 (h (-6) j)) (hl : (sh.2 (-6)).2 = L) (i0 : 0 ≤ i) (i1 : i + 6 ≤ L) (L1 : L ≤ 3072) : ∃ h2, q_L 256 1689 [(30, -6), (21, 0), (22, 469), (0, i)] [] (sh, h) = q_L 256 1712 [(30, -6), (21, 0), (22, 469), (0, i)] [] (sh, h2) ∧ Inv h2 ∧ ∀ k, k < 0 → h2 k = h k := by
  have a1 : q_add i 1 = i + 1 := q_add_s i0 (by omega) (by decide) (by decide)
  have a2 : q_add i 2 = i + 2 := q_add_s i0 (by omega) (by decide) (by decide)
  have a3 : q_add i 3 = i + 3 := q_add_s i0 (by omega) (by decide) (by decide)
  have a4 : q_add i 4 = i + 4 := q_add_s i0 (by omega) (by decide) (by decide)
  have a5 : q_add i 5 = i + 5 := q_add_s i0 (by omega) (by decide) (by decide)
  obtain ⟨v, h1, h2, c, r, inv, fr⟩ := st_status (h (-6) (i + 1)) sh h hs ho hi
  have f1 : h1 (-6) = h (-6) := (fr (-6) (by decide)).2
  refine ⟨h2, ?_, inv, fun k hk => (fr k hk).1⟩
  clear inv fr hi ho hx
  simp (disch := omega) only [a1, a2, a3, a4, a5, hl, ↓reduceIte, leT, ltT, eqT, eqF, true_and, and_true, and_self, Option.bind_some, eq_self, e_L_law_1689, e_L_law_1698, e_L_law_1707, c, r, f1]
theorem law_step {sh : Int × (Int → Nat × Int)} {h : Int → Int → Int} {i L : Int} (hs : Sh sh) (ho : Old sh h) (hi : Inv h) (hx : ∀ j, q_i32 (h (-6) j)) (hl : (sh.2 (-6)).2 = L) (i0 : 0 ≤ i) (i1 : i + 6 ≤ L) (L1 : L ≤ 3072) : ∃ h2, q_L 256 18 [(30, -6), (21, 0), (22, 469), (0, i)] [] (sh, h) = q_L 256 1712 [(30, -6), (21, 0), (22, 469), (0, i)] [] (sh, h2) ∧ Inv h2 ∧ ∀ k, k < 0 → h2 k = h k := by
  have s6 : q_sub L 6 = L - 6 := q_sub_id (by omega) (by omega)
  rw [e_L_law_18, hl, s6, if_neg (by omega), if_pos ⟨i0, by omega⟩]
  generalize q_and (h (-6) i) 63 = t
  by_cases t0 : t = 0
  · rw [if_pos t0]; exact law_0 hs ho hi hx hl i0 i1 L1
  rw [if_neg t0]
  by_cases t1 : t = 1
  · rw [if_pos t1]; exact law_1 hs ho hi hx hl i0 i1 L1
  rw [if_neg t1]
  by_cases t2 : t = 2
  · rw [if_pos t2]; exact law_2 hs ho hi hx hl i0 i1 L1
  rw [if_neg t2]
  by_cases t3 : t = 3
  · rw [if_pos t3]; exact law_3 hs ho hi hx hl i0 i1 L1
  rw [if_neg t3]
  by_cases t4 : t = 4
  · rw [if_pos t4]; exact law_4 hs ho hi hx hl i0 i1 L1
  rw [if_neg t4]
  by_cases t5 : t = 5
  · rw [if_pos t5]; exact law_5 hs ho hi hx hl i0 i1 L1
  rw [if_neg t5]
  by_cases t6 : t = 6
  · rw [if_pos t6]; exact law_6 hs ho hi hx hl i0 i1 L1
  rw [if_neg t6]
  by_cases t7 : t = 7
  · rw [if_pos t7]; exact law_7 hs ho hi hx hl i0 i1 L1
  rw [if_neg t7]
  by_cases t8 : t = 8
  · rw [if_pos t8]; exact law_8 hs ho hi hx hl i0 i1 L1
  rw [if_neg t8]
  by_cases t9 : t = 9
  · rw [if_pos t9]; exact law_9 hs ho hi hx hl i0 i1 L1
  rw [if_neg t9]
  by_cases t10 : t = 10
  · rw [if_pos t10]; exact law_10 hs ho hi hx hl i0 i1 L1
  rw [if_neg t10]
  by_cases t11 : t = 11
  · rw [if_pos t11]; exact law_11 hs ho hi hx hl i0 i1 L1
  rw [if_neg t11]
  by_cases t12 : t = 12
  · rw [if_pos t12]; exact law_12 hs ho hi hx hl i0 i1 L1
  rw [if_neg t12]
  by_cases t13 : t = 13
  · rw [if_pos t13]; exact law_13 hs ho hi hx hl i0 i1 L1
  rw [if_neg t13]
  by_cases t14 : t = 14
  · rw [if_pos t14]; exact law_14 hs ho hi hx hl i0 i1 L1
  rw [if_neg t14]
  by_cases t15 : t = 15
  · rw [if_pos t15]; exact law_15 hs ho hi hx hl i0 i1 L1
  rw [if_neg t15]
  by_cases t16 : t = 16
  · rw [if_pos t16]; exact law_16 hs ho hi hx hl i0 i1 L1
  rw [if_neg t16]
  by_cases t17 : t = 17
  · rw [if_pos t17]; exact law_17 hs ho hi hx hl i0 i1 L1
  rw [if_neg t17]
  by_cases t18 : t = 18
  · rw [if_pos t18]; exact law_18 hs ho hi hx hl i0 i1 L1
  rw [if_neg t18]
  by_cases t19 : t = 19
  · rw [if_pos t19]; exact law_19 hs ho hi hx hl i0 i1 L1
  rw [if_neg t19]
  by_cases t20 : t = 20
  · rw [if_pos t20]; exact law_20 hs ho hi hx hl i0 i1 L1
  rw [if_neg t20]
  by_cases t21 : t = 21
  · rw [if_pos t21]; exact law_21 hs ho hi hx hl i0 i1 L1
  rw [if_neg t21]
  by_cases t22 : t = 22
  · rw [if_pos t22]; exact law_22 hs ho hi hx hl i0 i1 L1
  rw [if_neg t22]
  by_cases t23 : t = 23
  · rw [if_pos t23]; exact law_23 hs ho hi hx hl i0 i1 L1
  rw [if_neg t23]
  by_cases t24 : t = 24
  · rw [if_pos t24]; exact law_24 hs ho hi hx hl i0 i1 L1
  rw [if_neg t24]
  by_cases t25 : t = 25
  · rw [if_pos t25]; exact law_25 hs ho hi hx hl i0 i1 L1
  rw [if_neg t25]
  by_cases t26 : t = 26
  · rw [if_pos t26]; exact law_26 hs ho hi hx hl i0 i1 L1
  rw [if_neg t26]
  by_cases t27 : t = 27
  · rw [if_pos t27]; exact law_27 hs ho hi hx hl i0 i1 L1
  rw [if_neg t27]
  by_cases t28 : t = 28
  · rw [if_pos t28]; exact law_28 hs ho hi hx hl i0 i1 L1
  rw [if_neg t28]
  by_cases t29 : t = 29
  · rw [if_pos t29]; exact law_29 hs ho hi hx hl i0 i1 L1
  rw [if_neg t29]
  by_cases t30 : t = 30
  · rw [if_pos t30]; exact law_30 hs ho hi hx hl i0 i1 L1
  rw [if_neg t30]
  by_cases t31 : t = 31
  · rw [if_pos t31]; exact law_31 hs ho hi hx hl i0 i1 L1
  rw [if_neg t31]
  by_cases t32 : t = 32
  · rw [if_pos t32]; exact law_32 hs ho hi hx hl i0 i1 L1
  rw [if_neg t32]
  by_cases t33 : t = 33
  · rw [if_pos t33]; exact law_33 hs ho hi hx hl i0 i1 L1
  rw [if_neg t33]
  by_cases t34 : t = 34
  · rw [if_pos t34]; exact law_34 hs ho hi hx hl i0 i1 L1
  rw [if_neg t34]
  by_cases t35 : t = 35
  · rw [if_pos t35]; exact law_35 hs ho hi hx hl i0 i1 L1
  rw [if_neg t35]
  by_cases t36 : t = 36
  · rw [if_pos t36]; exact law_36 hs ho hi hx hl i0 i1 L1
  rw [if_neg t36]
  by_cases t37 : t = 37
  · rw [if_pos t37]; exact law_37 hs ho hi hx hl i0 i1 L1
  rw [if_neg t37]
  by_cases t38 : t = 38
  · rw [if_pos t38]; exact law_38 hs ho hi hx hl i0 i1 L1
  rw [if_neg t38]
  by_cases t39 : t = 39
  · rw [if_pos t39]; exact law_39 hs ho hi hx hl i0 i1 L1
  rw [if_neg t39]
  by_cases t40 : t = 40
  · rw [if_pos t40]; exact law_40 hs ho hi hx hl i0 i1 L1
  rw [if_neg t40]
  by_cases t41 : t = 41
  · rw [if_pos t41]; exact law_41 hs ho hi hx hl i0 i1 L1
  rw [if_neg t41]
  by_cases t42 : t = 42
  · rw [if_pos t42]; exact law_42 hs ho hi hx hl i0 i1 L1
  rw [if_neg t42]
  by_cases t43 : t = 43
  · rw [if_pos t43]; exact law_43 hs ho hi hx hl i0 i1 L1
  rw [if_neg t43]
  by_cases t44 : t = 44
  · rw [if_pos t44]; exact law_44 hs ho hi hx hl i0 i1 L1
  rw [if_neg t44]
  by_cases t45 : t = 45
  · rw [if_pos t45]; exact law_45 hs ho hi hx hl i0 i1 L1
  rw [if_neg t45]
  exact ⟨h, rfl, hi, fun _ _ => rfl⟩
theorem law_all {sh : Int × (Int → Nat × Int)} {h : Int → Int → Int} {L : Int} (hs : Sh sh) (ho : Old sh h) (hi : Inv h) (hx : ∀ j, q_i32 (h (-6) j)) (hl : (sh.2 (-6)).2 = L) (L0 : 0 ≤ L) (L1 : L ≤ 3072) : ∃ h', q_L 256 18 [(30, -6), (21, 0), (22, 469), (0, 0)] [] (sh, h) = some ((0, 1), (sh, h')) := by
  refine lpw (fun x : Int × (Int → Int → Int) => q_L 256 18 [(30, -6), (21, 0), (22, 469), (0, x.1)] [] (sh, x.2)) (fun x => 0 ≤ x.1 ∧ x.1 ≤ 3078 ∧ Inv x.2 ∧ ∀ k, k < 0 → x.2 k = h k) (fun x => (3100 - x.1).toNat) (fun r => ∃ h', r = some ((0, 1), (sh, h'))) ?_ (0, h) ⟨Int.le_refl _, by show (0 : Int) ≤ 3078; decide, hi, fun _ _ => rfl⟩
  intro x hI
  obtain ⟨i, g⟩ := x
  obtain ⟨i0, i1, gi, gl⟩ := hI
  have i0 : 0 ≤ i := i0
  have i1 : i ≤ 3078 := i1
  have gi : Inv g := gi
  have gl : ∀ k, k < 0 → g k = h k := gl
  by_cases z : L - 6 < i
  · right
    refine ⟨g, ?_⟩
    show q_L 256 18 [(30, -6), (21, 0), (22, 469), (0, i)] [] (sh, g) = _
    have s6 : q_sub L 6 = L - 6 := q_sub_id (by omega) (by omega)
    rw [e_L_law_18, hl, s6, if_pos z]
  · left
    obtain ⟨h2, e, inv, fr⟩ := law_step (sh := sh) (h := g) (i := i) hs ⟨ho.1, fun j => by rw [gl (-5) (by decide)]; exact ho.2 j⟩ gi (fun j => by rw [gl (-6) (by decide)]; exact hx j) hl i0 (by omega) L1
    refine ⟨(i + 6, h2), ?_, ⟨by show 0 ≤ i + 6; omega, by show i + 6 ≤ 3078; omega, inv, fun k hk => (fr k hk).trans (gl k hk)⟩, by show (3100 - (i + 6)).toNat < (3100 - i).toNat; omega⟩
    show q_L 256 18 [(30, -6), (21, 0), (22, 469), (0, i)] [] (sh, g) = q_L 256 18 [(30, -6), (21, 0), (22, 469), (0, i + 6)] [] (sh, h2)
    rw [e, e_L_law_1712, q_w_eq (by omega) (by omega)]
