/-! which askings the planner looks at -/
theorem q_up_up (h : Int → Int → Int) (k j a b : Int) : q_up (q_up h k j a) k j b = q_up h k j b := by
  funext x y
  unfold q_up
  by_cases e : x = k ∧ y = j
  · rw [if_pos e, if_pos e]
  · rw [if_neg e, if_neg e, if_neg e]
/-- after n askings: how many are looked at, and which; R what the row bore before -/
def lkN (G : Int → Int) (but : Int) (R : Int → Int) : Nat → Int × (Int → Int)
  | 0 => (0, R)
  | n + 1 => if G (480 + n) = 0 ∧ (n : Int) ≠ but ∧ (lkN G but R n).1 < 5 then ((lkN G but R n).1 + 1, ud (lkN G but R n).2 (lkN G but R n).1 n) else lkN G but R n
theorem lkN_b (G : Int → Int) (but : Int) (R : Int → Int) : ∀ n : Nat, 0 ≤ (lkN G but R n).1 ∧ (lkN G but R n).1 ≤ 5 := by
  intro n
  induction n with
  | zero => exact ⟨Int.le_refl _, by show (0 : Int) ≤ 5; decide⟩
  | succ n ih =>
    unfold lkN
    split
    · rename_i z
      show 0 ≤ (lkN G but R n).1 + 1 ∧ (lkN G but R n).1 + 1 ≤ 5
      omega
    · exact ih
theorem lkN_succ {G : Int → Int} {but : Int} {R : Int → Int} {a : Int} (a0 : 0 ≤ a) : lkN G but R (a + 1).toNat = if G (480 + a) = 0 ∧ a ≠ but ∧ (lkN G but R a.toNat).1 < 5 then ((lkN G but R a.toNat).1 + 1, ud (lkN G but R a.toNat).2 (lkN G but R a.toNat).1 a) else lkN G but R a.toNat := by
  have ei : (a.toNat : Int) = a := Int.toNat_of_nonneg a0
  have es : (a + 1).toNat = a.toNat + 1 := by omega
  rw [es]
  show (if G (480 + (a.toNat : Int)) = 0 ∧ (a.toNat : Int) ≠ but ∧ (lkN G but R a.toNat).1 < 5 then ((lkN G but R a.toNat).1 + 1, ud (lkN G but R a.toNat).2 (lkN G but R a.toNat).1 (a.toNat : Int)) else lkN G but R a.toNat) = _
  rw [ei]
theorem r_lookN {sh : Int × (Int → Nat × Int)} {h : Int → Int → Int} {but : Int} {G : Int → Int} (e0 : h 469 0 = 470) (e19 : h 469 19 = 481) (l : (sh.2 470).2 = 1354) (l19 : (sh.2 481).2 = 5) (hG : h 470 = G) (wr : WFR G) : q_Cc 203 [(22, 469), (0, but)] (sh, h) = some ((9, 0), (sh, q_row (q_up h 469 18 (lkN G but (h 481) (G 3).toNat).1) 481 (lkN G but (h 481) (G 3).toNat).2)) := by
  have u3 := wr.na
  rw [c_X12_looks, e_X12_looks_0]
  have := lp (fun i (y : Int × (Int → Int)) => q_L 203 7 [(22, 469), (0, but), (0, i)] [] (sh, q_row (q_up h 469 18 y.1) 481 y.2)) (fun i y => y = lkN G but (h 481) i.toNat) (fun r => r = some ((9, 0), (sh, q_row (q_up h 469 18 (lkN G but (h 481) (G 3).toNat).1) 481 (lkN G but (h 481) (G 3).toNat).2))) (G 3) ?_ ?_ 0 (0, h 481) (by omega) u3.1 rfl
  · have this : q_L 203 7 [(22, 469), (0, but), (0, 0)] [] (sh, q_row (q_up h 469 18 0) 481 (h 481)) = _ := this
    have e : q_row (q_up h 469 18 0) 481 (h 481) = q_up h 469 18 0 := by
      have : (q_up h 469 18 0) 481 = h 481 := q_up_far (by decide)
      rw [← this, q_row_id]
    rw [e] at this
    exact this
  · intro i y i0 i1 hI
    obtain ⟨m, R⟩ := y
    have b := lkN_b G but (h 481) i.toNat
    have ss := lkN_succ (G := G) (but := but) (R := h 481) i0
    rw [← hI] at b ss
    have b : 0 ≤ m ∧ m ≤ 5 := b
    left
    show ∃ y : Int × (Int → Int), q_L 203 7 [(22, 469), (0, but), (0, i)] [] (sh, q_row (q_up h 469 18 m) 481 R) = q_L 203 7 [(22, 469), (0, but), (0, i + 1)] [] (sh, q_row (q_up h 469 18 y.1) 481 y.2) ∧ y = lkN G but (h 481) (i + 1).toNat
    by_cases z : G (480 + i) = 0 ∧ i ≠ but ∧ m < 5
    · rw [if_pos z] at ss
      obtain ⟨z1, z2, z3⟩ := z
      refine ⟨(m + 1, ud R m i), ?_, ss.symm⟩
      rw [e_X12_looks_7]
      simp (disch := omega) only [q_470, q_up_far, q_row_row, q_row_self, q_row_ne, q_up_ne, q_up_eq, q_rowup, ud_eq, ud_ne, q_add_id, q_sub_id, q_mul_id, q_w_eq, q_rem_n, q_div_n, ↓reduceIte, leT, leF, ltT, ltF, eqT, eqF, true_or, or_true, false_or, or_false, true_and, and_true, false_and, and_false, or_self, and_self, Option.bind_some, q_rowin, q_up_up, e0, e19, l, l19, hG, z1, e_X12_looks_63]
    · rw [if_neg z] at ss
      refine ⟨(m, R), ?_, ss.symm⟩
      rw [e_X12_looks_7]
      by_cases z1 : G (480 + i) = 0
      · by_cases z2 : i = but
        · simp (disch := omega) only [q_470, q_up_far, q_row_row, q_row_self, q_row_ne, q_up_ne, q_up_eq, q_rowup, ud_eq, ud_ne, q_add_id, q_sub_id, q_mul_id, q_w_eq, q_rem_n, q_div_n, ↓reduceIte, leT, leF, ltT, ltF, eqT, eqF, true_or, or_true, false_or, or_false, true_and, and_true, false_and, and_false, or_self, and_self, Option.bind_some, q_rowin, q_up_up, e0, e19, l, l19, hG, z1, e_X12_looks_63]
        · have z3 : ¬ m < 5 := fun hm => z ⟨z1, z2, hm⟩
          simp (disch := omega) only [q_470, q_up_far, q_row_row, q_row_self, q_row_ne, q_up_ne, q_up_eq, q_rowup, ud_eq, ud_ne, q_add_id, q_sub_id, q_mul_id, q_w_eq, q_rem_n, q_div_n, ↓reduceIte, leT, leF, ltT, ltF, eqT, eqF, true_or, or_true, false_or, or_false, true_and, and_true, false_and, and_false, or_self, and_self, Option.bind_some, q_rowin, q_up_up, e0, e19, l, l19, hG, z1, e_X12_looks_63]
      · simp (disch := omega) only [q_470, q_up_far, q_row_row, q_row_self, q_row_ne, q_up_ne, q_up_eq, q_rowup, ud_eq, ud_ne, q_add_id, q_sub_id, q_mul_id, q_w_eq, q_rem_n, q_div_n, ↓reduceIte, leT, leF, ltT, ltF, eqT, eqF, true_or, or_true, false_or, or_false, true_and, and_true, false_and, and_false, or_self, and_self, Option.bind_some, q_rowin, q_up_up, e0, e19, l, l19, hG, e_X12_looks_63]
  · intro y hI
    have e : y.1 = (lkN G but (h 481) (G 3).toNat).1 := by rw [hI]
    have e2 : y.2 = (lkN G but (h 481) (G 3).toNat).2 := by rw [hI]
    show q_L 203 7 [(22, 469), (0, but), (0, G 3)] [] (sh, q_row (q_up h 469 18 y.1) 481 y.2) = _
    rw [e, e2, e_X12_looks_7]
    simp (disch := omega) only [q_470, q_up_far, q_row_row, q_row_self, q_row_ne, q_up_ne, q_up_eq, q_rowup, ud_eq, ud_ne, q_add_id, q_sub_id, q_mul_id, q_w_eq, q_rem_n, q_div_n, ↓reduceIte, leT, leF, ltT, ltF, eqT, eqF, true_or, or_true, false_or, or_false, true_and, and_true, false_and, and_false, or_self, and_self, Option.bind_some, e0, l, hG]
