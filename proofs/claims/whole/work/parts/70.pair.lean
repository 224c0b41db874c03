/-! a word and a number behind it -/
/-- ok, the number or where the fault is, where what is behind begins -/
def pr (b : Int → Int) (L a w lo hi : Int) : Int × Int × Int :=
  if (nx b L a).2.2.1 = 1 ∧ (nx b L a).2.2.2 = w then
    (if (nx b L (nx b L a).1).2.2.1 = 2 ∧ lo ≤ (nx b L (nx b L a).1).2.2.2 ∧ (nx b L (nx b L a).1).2.2.2 ≤ hi then (1, (nx b L (nx b L a).1).2.2.2, (nx b L (nx b L a).1).1) else (0, (nx b L (nx b L a).1).2.1, 0))
  else (0, (nx b L a).2.1, 0)
theorem nx_b {b : Int → Int} {L a : Int} (L1 : L ≤ 110) (a0 : 0 ≤ a) (a1 : a ≤ L) : a ≤ (nx b L a).2.1 ∧ (nx b L a).2.1 ≤ (nx b L a).1 ∧ (nx b L a).1 ≤ L := NX_b (nx_ok L1 a0 a1)
/-- the class stands before the piece at a -/
def CA (h : Int → Int → Int) (a : Int) : Prop := h 452 4 = a
/-- the class has read the piece at a -/
def CPc (h : Int → Int → Int) (b : Int → Int) (L a : Int) : Prop := CK h (nx b L a).1 (nx b L a).2.1 (nx b L a).2.2.1 (nx b L a).2.2.2
def RR (h : Int → Int → Int) (b : Int → Int) (L a : Int) : Prop := RK h (nx b L a).1 (nx b L a).2.1 (nx b L a).2.2.1 (nx b L a).2.2.2
theorem k_nx {sh : Int × (Int → Nat × Int)} {h : Int → Int → Int} {b : Int → Int} {L a : Int} (hs : Sh sh) (t : TX h b L) (a0 : 0 ≤ a) (a1 : a ≤ L) (ha : h 452 4 = a) : ∃ h', q_Cc 83 [(19, 452)] (sh, h) = some ((9, 0), (sh, h')) ∧ FN h h' ∧ CPc h' b L a := k_next hs t a0 ha (nx_ok t.2.2.2.1 a0 a1)
theorem r_nx {sh : Int × (Int → Nat × Int)} {h : Int → Int → Int} {b : Int → Int} {L a : Int} (hs : Sh sh) (t : TR h b L) (a0 : 0 ≤ a) (a1 : a ≤ L) (ha : h 469 11 = a) : ∃ h', q_Cc 190 [(22, 469)] (sh, h) = some ((9, 0), (sh, h')) ∧ FM h h' ∧ RR h' b L a := r_next hs t a0 ha (nx_ok t.2.2.2.2.1 a0 a1)
theorem k_number {sh : Int × (Int → Nat × Int)} {h : Int → Int → Int} {b : Int → Int} {L a lo hi : Int} (hs : Sh sh) (t : TX h b L) (a0 : 0 ≤ a) (a1 : a ≤ L) (ha : h 452 4 = a) : ∃ h', q_Cc 82 [(19, 452), (0, lo), (0, hi)] (sh, h) = some ((0, if (nx b L a).2.2.1 = 2 ∧ lo ≤ (nx b L a).2.2.2 ∧ (nx b L a).2.2.2 ≤ hi then 1 else 0), (sh, h')) ∧ FN h h' ∧ CPc h' b L a := by
  obtain ⟨h', q, f, c⟩ := k_nx hs t a0 a1 ha
  refine ⟨h', ?_, f, c⟩
  obtain ⟨c1, c2, c3, c4⟩ := c
  obtain ⟨s, es⟩ : ∃ s, (nx b L a).2.2.1 = s := ⟨_, rfl⟩
  obtain ⟨v, ev⟩ : ∃ v, (nx b L a).2.2.2 = v := ⟨_, rfl⟩
  rw [es] at c3 c4
  rw [ev] at c4
  rw [es, ev]
  by_cases z1 : s = 2
  · have c5 := c4 (Or.inr z1)
    by_cases z2 : lo ≤ v ∧ v ≤ hi
    · rw [if_pos ⟨z1, z2⟩]
      simp (disch := omega) only [q_470, q_up_far, q_row_row, q_row_self, q_row_ne, q_up_ne, q_up_eq, q_rowup, ud_eq, ud_ne, q_add_id, q_sub_id, q_mul_id, q_w_eq, q_rem_n, q_div_n, ↓reduceIte, leT, leF, ltT, ltF, eqT, eqF, true_or, or_true, false_or, or_false, true_and, and_true, false_and, and_false, or_self, and_self, Option.bind_some, q, c3, c5, z1, c_X9_readNumber, e_X9_readNumber_0, e_X9_readNumber_4, e_X9_readNumber_32, e_X9_readNumber_33]
    · rw [if_neg (fun h => z2 h.2)]
      by_cases z3 : v < lo <;> simp (disch := omega) only [q_470, q_up_far, q_row_row, q_row_self, q_row_ne, q_up_ne, q_up_eq, q_rowup, ud_eq, ud_ne, q_add_id, q_sub_id, q_mul_id, q_w_eq, q_rem_n, q_div_n, ↓reduceIte, leT, leF, ltT, ltF, eqT, eqF, true_or, or_true, false_or, or_false, true_and, and_true, false_and, and_false, or_self, and_self, Option.bind_some, q, c3, c5, z1, c_X9_readNumber, e_X9_readNumber_0, e_X9_readNumber_4, e_X9_readNumber_32, e_X9_readNumber_33]
  · rw [if_neg (fun h => z1 h.1)]
    simp (disch := omega) only [q_470, q_up_far, q_row_row, q_row_self, q_row_ne, q_up_ne, q_up_eq, q_rowup, ud_eq, ud_ne, q_add_id, q_sub_id, q_mul_id, q_w_eq, q_rem_n, q_div_n, ↓reduceIte, leT, leF, ltT, ltF, eqT, eqF, true_or, or_true, false_or, or_false, true_and, and_true, false_and, and_false, or_self, and_self, Option.bind_some, q, c3, c_X9_readNumber, e_X9_readNumber_0, e_X9_readNumber_4, e_X9_readNumber_32, e_X9_readNumber_33]
theorem k_pair {sh : Int × (Int → Nat × Int)} {h : Int → Int → Int} {b : Int → Int} {L a w lo hi : Int} (hs : Sh sh) (t : TX h b L) (a0 : 0 ≤ a) (a1 : a ≤ L) (ha : h 452 4 = a) : ∃ h', q_Cc 81 [(19, 452), (0, w), (0, lo), (0, hi)] (sh, h) = some ((0, (pr b L a w lo hi).1), (sh, h')) ∧ FN h h' ∧ ((pr b L a w lo hi).1 = 1 → h' 452 7 = (pr b L a w lo hi).2.1 ∧ h' 452 4 = (pr b L a w lo hi).2.2 ∧ lo ≤ (pr b L a w lo hi).2.1 ∧ (pr b L a w lo hi).2.1 ≤ hi ∧ 0 ≤ (pr b L a w lo hi).2.2 ∧ (pr b L a w lo hi).2.2 ≤ L) ∧ ((pr b L a w lo hi).1 = 1 ∨ ((pr b L a w lo hi).1 = 0 ∧ h' 452 5 = (pr b L a w lo hi).2.1)) := by
  obtain ⟨h1, q1, f1, c1⟩ := k_nx hs t a0 a1 ha
  have n1 := nx_b (b := b) t.2.2.2.1 a0 a1
  have t1 := t.fn f1
  obtain ⟨d1, d2, d3, d4⟩ := c1
  have n2 := nx_b (b := b) t.2.2.2.1 (show 0 ≤ (nx b L a).1 by omega) n1.2.2
  obtain ⟨h2, q2, f2, c2⟩ := k_number (sh := sh) (lo := lo) (hi := hi) hs t1 (by omega) n1.2.2 d1
  obtain ⟨g1, g2, g3, g4⟩ := c2
  unfold pr
  by_cases z1 : (nx b L a).2.2.1 = 1 ∧ (nx b L a).2.2.2 = w
  · rw [if_pos z1]
    rw [z1.1] at d3
    have d5 := d4 (Or.inl z1.1)
    rw [z1.2] at d5
    by_cases z2 : (nx b L (nx b L a).1).2.2.1 = 2 ∧ lo ≤ (nx b L (nx b L a).1).2.2.2 ∧ (nx b L (nx b L a).1).2.2.2 ≤ hi
    · rw [if_pos z2] at q2 ⊢
      refine ⟨h2, ?_, f1.trans f2, fun _ => ⟨g4 (Or.inr z2.1), g1, z2.2.1, z2.2.2, by show 0 ≤ (nx b L (nx b L a).1).1; omega, n2.2.2⟩, Or.inl rfl⟩
      simp (disch := omega) only [q_470, q_up_far, q_row_row, q_row_self, q_row_ne, q_up_ne, q_up_eq, q_rowup, ud_eq, ud_ne, q_add_id, q_sub_id, q_mul_id, q_w_eq, q_rem_n, q_div_n, ↓reduceIte, leT, leF, ltT, ltF, eqT, eqF, true_or, or_true, false_or, or_false, true_and, and_true, false_and, and_false, or_self, and_self, Option.bind_some, q1, q2, d3, d5, c_X9_readPair, e_X9_readPair_0, e_X9_readPair_4, e_X9_readPair_26, e_X9_readPair_33, e_X9_readPair_34]
    · rw [if_neg z2] at q2 ⊢
      refine ⟨h2, ?_, f1.trans f2, fun (e : (0 : Int) = 1) => absurd e (by decide), Or.inr ⟨rfl, g2⟩⟩
      simp (disch := omega) only [q_470, q_up_far, q_row_row, q_row_self, q_row_ne, q_up_ne, q_up_eq, q_rowup, ud_eq, ud_ne, q_add_id, q_sub_id, q_mul_id, q_w_eq, q_rem_n, q_div_n, ↓reduceIte, leT, leF, ltT, ltF, eqT, eqF, true_or, or_true, false_or, or_false, true_and, and_true, false_and, and_false, or_self, and_self, Option.bind_some, q1, q2, d3, d5, c_X9_readPair, e_X9_readPair_0, e_X9_readPair_4, e_X9_readPair_26, e_X9_readPair_33, e_X9_readPair_34]
  · rw [if_neg z1]
    refine ⟨h1, ?_, f1, fun (e : (0 : Int) = 1) => absurd e (by decide), Or.inr ⟨rfl, d2⟩⟩
    by_cases z2 : (nx b L a).2.2.1 = 1
    · have d5 := d4 (Or.inl z2)
      have z3 : ¬ (nx b L a).2.2.2 = w := fun e => z1 ⟨z2, e⟩
      simp (disch := omega) only [q_470, q_up_far, q_row_row, q_row_self, q_row_ne, q_up_ne, q_up_eq, q_rowup, ud_eq, ud_ne, q_add_id, q_sub_id, q_mul_id, q_w_eq, q_rem_n, q_div_n, ↓reduceIte, leT, leF, ltT, ltF, eqT, eqF, true_or, or_true, false_or, or_false, true_and, and_true, false_and, and_false, or_self, and_self, Option.bind_some, q1, d3, d5, z2, c_X9_readPair, e_X9_readPair_0, e_X9_readPair_4, e_X9_readPair_26, e_X9_readPair_33, e_X9_readPair_34]
    · simp (disch := omega) only [q_470, q_up_far, q_row_row, q_row_self, q_row_ne, q_up_ne, q_up_eq, q_rowup, ud_eq, ud_ne, q_add_id, q_sub_id, q_mul_id, q_w_eq, q_rem_n, q_div_n, ↓reduceIte, leT, leF, ltT, ltF, eqT, eqF, true_or, or_true, false_or, or_false, true_and, and_true, false_and, and_false, or_self, and_self, Option.bind_some, q1, d3, c_X9_readPair, e_X9_readPair_0, e_X9_readPair_4, e_X9_readPair_26, e_X9_readPair_33, e_X9_readPair_34]
/-- the reference: what stands behind a word; it has read the piece at a -/
theorem r_after {sh : Int × (Int → Nat × Int)} {h : Int → Int → Int} {b : Int → Int} {L a w lo hi : Int} (hs : Sh sh) (t : TR h b L) (a0 : 0 ≤ a) (a1 : a ≤ L) (w0 : 0 ≤ w) (ha : RR h b L a) (hf : h 469 15 = -1) : ∃ h' v, q_Cc 192 [(22, 469), (0, w), (0, lo), (0, hi)] (sh, h) = some ((0, v), (sh, h')) ∧ (∀ x y, ¬ (x = 469 ∧ 11 ≤ y ∧ y ≤ 15) → h' x y = h x y) ∧ ((pr b L a w lo hi).1 = 1 → v = (pr b L a w lo hi).2.1 ∧ h' 469 15 = -1 ∧ RR h' b L (pr b L a w lo hi).2.2 ∧ lo ≤ v ∧ v ≤ hi ∧ 0 ≤ (pr b L a w lo hi).2.2 ∧ (pr b L a w lo hi).2.2 ≤ L) ∧ ((pr b L a w lo hi).1 = 1 ∨ ((pr b L a w lo hi).1 = 0 ∧ v = 0 ∧ h' 469 15 = (pr b L a w lo hi).2.1 ∧ 0 ≤ (pr b L a w lo hi).2.1 ∧ (pr b L a w lo hi).2.1 ≤ L)) := by
  have n1 := nx_b (b := b) t.2.2.2.2.1 a0 a1
  have L1 := t.2.2.2.2.1
  obtain ⟨d1, d2, d3, d4, d5⟩ := ha
  by_cases z1 : (nx b L a).2.2.1 = 1 ∧ (nx b L a).2.2.2 = w
  · have e3 := d3 (by omega)
    have e5 := d5 (Or.inl z1.1)
    rw [z1.1] at e3
    rw [z1.2] at e5
    obtain ⟨h1, q1, f1, c1⟩ := r_nx hs t (show 0 ≤ (nx b L a).1 by omega) n1.2.2 d1
    have n2 := nx_b (b := b) L1 (show 0 ≤ (nx b L a).1 by omega) n1.2.2
    have t1 := t.fm f1
    have hf1 : h1 469 15 = -1 := by rw [f1 469 15 (by omega)]; exact hf
    obtain ⟨g1, g2, g3, g4, g5⟩ := id c1
    unfold pr
    rw [if_pos z1]
    by_cases z2 : (nx b L (nx b L a).1).2.2.1 = 2 ∧ lo ≤ (nx b L (nx b L a).1).2.2.2 ∧ (nx b L (nx b L a).1).2.2.2 ≤ hi
    · rw [if_pos z2]
      have i3 := g3 (by omega)
      rw [z2.1] at i3
      have i5 := g5 (Or.inr z2.1)
      obtain ⟨h2, q2, f2, c2⟩ := r_nx hs t1 (show 0 ≤ (nx b L (nx b L a).1).1 by omega) n2.2.2 g1
      refine ⟨h2, (nx b L (nx b L a).1).2.2.2, ?_, ?_, fun _ => ⟨rfl, ?_, c2, z2.2.1, z2.2.2, by show 0 ≤ (nx b L (nx b L a).1).1; omega, n2.2.2⟩, Or.inl rfl⟩
      · have z3 := z2.2.1; have z4 := z2.2.2
        simp (disch := omega) only [q_470, q_up_far, q_row_row, q_row_self, q_row_ne, q_up_ne, q_up_eq, q_rowup, ud_eq, ud_ne, q_add_id, q_sub_id, q_mul_id, q_w_eq, q_rem_n, q_div_n, ↓reduceIte, leT, leF, ltT, ltF, eqT, eqF, true_or, or_true, false_or, or_false, true_and, and_true, false_and, and_false, or_self, and_self, Option.bind_some, q1, q2, hf, e3, e5, i3, i5, k_X12_in, c_X12_after, e_X12_after_0, e_X12_after_23, e_X12_after_27, e_X12_after_40, e_X12_after_57, e_X12_after_60, e_X12_after_64, e_X12_after_76]
      · intro x y hn
        rw [f2 x y (by omega), f1 x y (by omega)]
      · rw [f2 469 15 (by omega)]; exact hf1
    · rw [if_neg z2]
      refine ⟨q_up h1 469 15 (nx b L (nx b L a).1).2.1, 0, ?_, ?_, fun (e : (0 : Int) = 1) => absurd e (by decide), Or.inr ⟨rfl, rfl, q_up_self _ _ _ _, by show 0 ≤ (nx b L (nx b L a).1).2.1; omega, by show (nx b L (nx b L a).1).2.1 ≤ L; omega⟩⟩
      · obtain ⟨tk, etk⟩ : ∃ tk, h1 469 13 = tk := ⟨_, rfl⟩
        by_cases z3 : (nx b L (nx b L a).1).2.2.1 = 2
        · have i3 := g3 (by omega)
          rw [z3] at i3
          have i5 := g5 (Or.inr z3)
          have z4 : ¬ (lo ≤ (nx b L (nx b L a).1).2.2.2 ∧ (nx b L (nx b L a).1).2.2.2 ≤ hi) := fun e => z2 ⟨z3, e⟩
          by_cases z5 : lo ≤ (nx b L (nx b L a).1).2.2.2 <;> simp (disch := omega) only [q_470, q_up_far, q_row_row, q_row_self, q_row_ne, q_up_ne, q_up_eq, q_rowup, ud_eq, ud_ne, q_add_id, q_sub_id, q_mul_id, q_w_eq, q_rem_n, q_div_n, ↓reduceIte, leT, leF, ltT, ltF, eqT, eqF, true_or, or_true, false_or, or_false, true_and, and_true, false_and, and_false, or_self, and_self, Option.bind_some, q1, hf, hf1, e3, e5, i3, i5, g2, k_X12_in, c_X12_after, e_X12_after_0, e_X12_after_23, e_X12_after_27, e_X12_after_40, e_X12_after_57, e_X12_after_60, e_X12_after_64, e_X12_after_76, c_X12_wrong, e_X12_wrong_0, e_X12_wrong_19]
        · have tn : ¬ tk = 2 := by
            by_cases z4 : (nx b L (nx b L a).1).2.2.1 = 4
            · rcases g4 z4 with q | ⟨q, -⟩ <;> omega
            · have := g3 z4; omega
          simp (disch := omega) only [q_470, q_up_far, q_row_row, q_row_self, q_row_ne, q_up_ne, q_up_eq, q_rowup, ud_eq, ud_ne, q_add_id, q_sub_id, q_mul_id, q_w_eq, q_rem_n, q_div_n, ↓reduceIte, leT, leF, ltT, ltF, eqT, eqF, true_or, or_true, false_or, or_false, true_and, and_true, false_and, and_false, or_self, and_self, Option.bind_some, q1, hf, hf1, e3, e5, etk, g2, c_X12_after, e_X12_after_0, e_X12_after_23, e_X12_after_27, e_X12_after_40, e_X12_after_57, e_X12_after_60, e_X12_after_64, e_X12_after_76, c_X12_wrong, e_X12_wrong_0, e_X12_wrong_19]
      · intro x y hn
        rw [q_up_ne (by omega), f1 x y (by omega)]
  · unfold pr
    rw [if_neg z1]
    refine ⟨q_up h 469 15 (nx b L a).2.1, 0, ?_, ?_, fun (e : (0 : Int) = 1) => absurd e (by decide), Or.inr ⟨rfl, rfl, q_up_self _ _ _ _, by show 0 ≤ (nx b L a).2.1; omega, by show (nx b L a).2.1 ≤ L; omega⟩⟩
    · obtain ⟨tk, etk⟩ : ∃ tk, h 469 13 = tk := ⟨_, rfl⟩
      obtain ⟨tl, etl⟩ : ∃ tl, h 469 14 = tl := ⟨_, rfl⟩
      have tn : tk = 1 → ¬ tl = w := by
        intro e
        by_cases z4 : (nx b L a).2.2.1 = 4
        · rcases d4 z4 with q | ⟨q, q2⟩ <;> omega
        · have e3 := d3 z4
          have e1 : (nx b L a).2.2.1 = 1 := by omega
          have e5 := d5 (Or.inl e1)
          intro e6
          exact z1 ⟨e1, by omega⟩
      by_cases z2 : tk = 1
      · have z3 := tn z2
        simp (disch := omega) only [q_470, q_up_far, q_row_row, q_row_self, q_row_ne, q_up_ne, q_up_eq, q_rowup, ud_eq, ud_ne, q_add_id, q_sub_id, q_mul_id, q_w_eq, q_rem_n, q_div_n, ↓reduceIte, leT, leF, ltT, ltF, eqT, eqF, true_or, or_true, false_or, or_false, true_and, and_true, false_and, and_false, or_self, and_self, Option.bind_some, hf, etk, etl, z2, d2, c_X12_after, e_X12_after_0, e_X12_after_23, e_X12_after_27, e_X12_after_40, e_X12_after_57, e_X12_after_60, e_X12_after_64, e_X12_after_76, c_X12_wrong, e_X12_wrong_0, e_X12_wrong_19]
      · simp (disch := omega) only [q_470, q_up_far, q_row_row, q_row_self, q_row_ne, q_up_ne, q_up_eq, q_rowup, ud_eq, ud_ne, q_add_id, q_sub_id, q_mul_id, q_w_eq, q_rem_n, q_div_n, ↓reduceIte, leT, leF, ltT, ltF, eqT, eqF, true_or, or_true, false_or, or_false, true_and, and_true, false_and, and_false, or_self, and_self, Option.bind_some, hf, etk, d2, c_X12_after, e_X12_after_0, e_X12_after_23, e_X12_after_27, e_X12_after_40, e_X12_after_57, e_X12_after_60, e_X12_after_64, e_X12_after_76, c_X12_wrong, e_X12_wrong_0, e_X12_wrong_19]
    · intro x y hn
      rw [q_up_ne (by omega)]
theorem r_after0 {sh : Int × (Int → Nat × Int)} {h : Int → Int → Int} {w lo hi f : Int} (hf : h 469 15 = f) (f0 : 0 ≤ f) : q_Cc 192 [(22, 469), (0, w), (0, lo), (0, hi)] (sh, h) = some ((0, 0), (sh, h)) := by
  simp (disch := omega) only [q_470, q_up_far, q_row_row, q_row_self, q_row_ne, q_up_ne, q_up_eq, q_rowup, ud_eq, ud_ne, q_add_id, q_sub_id, q_mul_id, q_w_eq, q_rem_n, q_div_n, ↓reduceIte, leT, leF, ltT, ltF, eqT, eqF, true_or, or_true, false_or, or_false, true_and, and_true, false_and, and_false, or_self, and_self, Option.bind_some, hf, c_X12_after, e_X12_after_0, e_X12_after_23, e_X12_after_27, e_X12_after_40, e_X12_after_57, e_X12_after_60, e_X12_after_64, e_X12_after_76]
