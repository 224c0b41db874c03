/-! the planner's ends, the reference's free hours, the class's looks -/
theorem k_findEnds {sh : Int × (Int → Nat × Int)} {h : Int → Int → Int} {w : Int} {G : Int → Int} (hs : Sh sh) (hp : Ptr h) (iw : isW w) (hr : RelW h w G) (wf : WF G) : ∃ R, q_Cc 44 [(15, 442), (20, w)] (sh, h) = some ((9, 0), (sh, q_row h 451 R)) ∧ ∀ d, 0 ≤ d → d < 6 → R d = enN G (G 3).toNat d := by
  have wr := wf.1
  have u0 := wr.hour; have u1 := wr.nd; have u3 := wr.na
  have w0 := iw.b
  rw [c_X5_findEnds, e_X5_findEnds_0]
  have := lp (fun i (R : Int → Int) => q_L 44 2 [(15, 442), (20, w), (0, i), (9, 0)] [] (sh, q_row h 451 R)) (fun i R => ∀ d, 0 ≤ d → d < i → R d = -1) (fun r => ∃ R, r = some ((9, 0), (sh, q_row h 451 R)) ∧ ∀ d, 0 ≤ d → d < 6 → R d = enN G (G 3).toNat d) 6 ?_ ?_ 0 (h 451) (by omega) (by omega) (fun d a b => by omega)
  · have this : ∃ R, q_L 44 2 [(15, 442), (20, w), (0, 0), (9, 0)] [] (sh, q_row h 451 (h 451)) = some ((9, 0), (sh, q_row h 451 R)) ∧ ∀ d, 0 ≤ d → d < 6 → R d = enN G (G 3).toNat d := this
    rw [q_row_id] at this
    exact this
  · intro i R i0 i1 hR
    left
    refine ⟨ud R i (-1), ?_, ?_⟩
    · rw [e_X5_findEnds_2]
      simp (disch := omega) only [q_470, q_up_far, q_row_row, q_row_self, q_row_ne, q_up_ne, q_up_eq, q_rowup, ud_eq, ud_ne, q_add_id, q_sub_id, q_mul_id, q_w_eq, q_rem_n, q_div_n, ↓reduceIte, leT, leF, ltT, ltF, eqT, eqF, true_or, or_true, false_or, or_false, true_and, and_true, false_and, and_false, or_self, and_self, Option.bind_some, hp.pl11, hs.k451]
    · intro d d0 d1
      by_cases e : d = i
      · rw [ud_eq e]
      · rw [ud_ne e]; exact hR d d0 (by omega)
  · intro R hR
    have := lp (fun i (y : (Int → Int) × q_V) => q_L 44 23 [(15, 442), (20, w), (0, i), y.2] [] (sh, q_row h 451 y.1)) (fun i y => ∀ d, 0 ≤ d → d < 6 → y.1 d = enN G i.toNat d) (fun r => ∃ R, r = some ((9, 0), (sh, q_row h 451 R)) ∧ ∀ d, 0 ≤ d → d < 6 → R d = enN G (G 3).toNat d) (G 3) ?_ ?_ 0 (R, (9, 0)) (by omega) u3.1 (fun d a b => hR d a b)
    · obtain ⟨R', q1, q2⟩ := this
      have q1 : q_L 44 23 [(15, 442), (20, w), (0, 0), (9, 0)] [] (sh, q_row h 451 R) = some ((9, 0), (sh, q_row h 451 R')) := q1
      refine ⟨R', ?_, q2⟩
      show q_L 44 2 [(15, 442), (20, w), (0, 6), (9, 0)] [] (sh, q_row h 451 R) = _
      rw [e_X5_findEnds_2]
      simp (disch := omega) only [q_470, q_up_far, q_row_row, q_row_self, q_row_ne, q_up_ne, q_up_eq, q_rowup, ud_eq, ud_ne, q_add_id, q_sub_id, q_mul_id, q_w_eq, q_rem_n, q_div_n, ↓reduceIte, leT, leF, ltT, ltF, eqT, eqF, true_or, or_true, false_or, or_false, true_and, and_true, false_and, and_false, or_self, and_self, Option.bind_some, q1]
    · intro i y i0 i1 hI
      obtain ⟨R, x3⟩ := y
      have hI : ∀ d, 0 ≤ d → d < 6 → R d = enN G i.toNat d := hI
      have wa := wf.2.2.1 i i0 i1
      have r1 := wr.abegin (d := i) (by omega) (by omega)
      have r2 := wr.an (d := i) (by omega) (by omega)
      have r3 := wr.adish (d := i) (by omega) (by omega)
      left
      by_cases z : G (480 + i) = 1 ∨ G (480 + i) = 2
      · have wd : 0 ≤ G (494 + i) := by
          rcases z with z | z
          · exact (wa.2.2.2.1 z).1
          · exact (wa.2.2.2.2 z).1
        refine ⟨(ud R (G (494 + i)) (if R (G (494 + i)) < G (508 + i) + G (424 + i) then G (508 + i) + G (424 + i) else R (G (494 + i))), (10, w + 133 + i)), ?_, ?_⟩
        · show q_L 44 23 [(15, 442), (20, w), (0, i), x3] [] (sh, q_row h 451 R) = q_L 44 23 [(15, 442), (20, w), (0, i + 1), (10, w + 133 + i)] [] (sh, q_row h 451 (ud R (G (494 + i)) (if R (G (494 + i)) < G (508 + i) + G (424 + i) then G (508 + i) + G (424 + i) else R (G (494 + i)))))
          rw [e_X5_findEnds_23]
          rcases z with z | z <;> simp (disch := omega) only [q_470, q_up_far, q_row_row, q_row_self, q_row_ne, q_up_ne, q_up_eq, q_rowup, ud_eq, ud_ne, q_add_id, q_sub_id, q_mul_id, q_w_eq, q_rem_n, q_div_n, ↓reduceIte, leT, leF, ltT, ltF, eqT, eqF, true_or, or_true, false_or, or_false, true_and, and_true, false_and, and_false, or_self, and_self, Option.bind_some, z, hr.na wr, hr.astate wr, hr.adish wr, hr.abegin wr, hr.an wr, hp.w7 iw, hp.ask iw, hs.asks iw, hp.pl11, hs.k451, e_X5_findEnds_54, e_X5_findEnds_82, e_X5_findEnds_86, c_X0_end, e_X0_end_0]
        · intro d d0 d1
          show ud R (G (494 + i)) (if R (G (494 + i)) < G (508 + i) + G (424 + i) then G (508 + i) + G (424 + i) else R (G (494 + i))) d = _
          rw [enN_succ i0]
          by_cases e : d = G (494 + i)
          · have zz : (G (480 + i) = 1 ∨ G (480 + i) = 2) ∧ G (494 + i) = d := ⟨z, e.symm⟩
            rw [ud_eq e, if_pos zz, hI _ (by omega) (by omega), e]
          · rw [ud_ne e, if_neg (fun hh => e hh.2.symm)]; exact hI d d0 d1
      · refine ⟨(R, (10, w + 133 + i)), ?_, ?_⟩
        · show q_L 44 23 [(15, 442), (20, w), (0, i), x3] [] (sh, q_row h 451 R) = q_L 44 23 [(15, 442), (20, w), (0, i + 1), (10, w + 133 + i)] [] (sh, q_row h 451 R)
          rw [e_X5_findEnds_23]
          simp (disch := omega) only [q_470, q_up_far, q_row_row, q_row_self, q_row_ne, q_up_ne, q_up_eq, q_rowup, ud_eq, ud_ne, q_add_id, q_sub_id, q_mul_id, q_w_eq, q_rem_n, q_div_n, ↓reduceIte, leT, leF, ltT, ltF, eqT, eqF, true_or, or_true, false_or, or_false, true_and, and_true, false_and, and_false, or_self, and_self, Option.bind_some, hr.na wr, hr.astate wr, hp.w7 iw, hp.ask iw, hs.asks iw, e_X5_findEnds_86]
        · intro d d0 d1
          show R d = _
          rw [enN_succ i0, if_neg (fun hh => z hh.1)]; exact hI d d0 d1
    · intro y hI
      obtain ⟨R, x3⟩ := y
      refine ⟨R, ?_, hI⟩
      show q_L 44 23 [(15, 442), (20, w), (0, G 3), x3] [] (sh, q_row h 451 R) = _
      rw [e_X5_findEnds_23]
      simp (disch := omega) only [q_470, q_up_far, q_row_row, q_row_self, q_row_ne, q_up_ne, q_up_eq, q_rowup, ud_eq, ud_ne, q_add_id, q_sub_id, q_mul_id, q_w_eq, q_rem_n, q_div_n, ↓reduceIte, leT, leF, ltT, ltF, eqT, eqF, true_or, or_true, false_or, or_false, true_and, and_true, false_and, and_false, or_self, and_self, Option.bind_some, hr.na wr]
theorem FE_b {G E : Int → Int} {d : Int} (wf : WF G) (d0 : 0 ≤ d) (d1 : d < 6) (he : E d ≤ 20000) : G 0 ≤ FE G E d ∧ FE G E d ≤ 20003 := by
  have u0 := wf.1.hour
  have r := wf.1.turn d0 d1
  unfold FE
  repeat' split
  all_goals omega
theorem r_findFree {sh : Int × (Int → Nat × Int)} {h : Int → Int → Int} {G : Int → Int} (e0 : h 469 0 = 470) (e26 : h 469 26 = 486) (l : (sh.2 470).2 = 1354) (l26 : (sh.2 486).2 = 6) (hG : h 470 = G) (wf : WF G) : ∃ R, q_Cc 204 [(22, 469)] (sh, h) = some ((9, 0), (sh, q_row h 486 R)) ∧ ∀ d, 0 ≤ d → d < G 1 → R d = FE G (enN G (G 3).toNat) d := by
  have wr := wf.1
  have u0 := wr.hour; have u1 := wr.nd; have u3 := wr.na
  rw [c_X12_findFree, e_X12_findFree_0]
  have := lp (fun i (y : (Int → Int) × q_V × q_V × q_V) => q_L 204 2 [(22, 469), (0, i), y.2.1, y.2.2.1, y.2.2.2] [] (sh, q_row h 486 y.1)) (fun i y => ∀ d, 0 ≤ d → d < i → y.1 d = FE G (enN G (G 3).toNat) d) (fun r => ∃ R, r = some ((9, 0), (sh, q_row h 486 R)) ∧ ∀ d, 0 ≤ d → d < G 1 → R d = FE G (enN G (G 3).toNat) d) (G 1) ?_ ?_ 0 (h 486, (9, 0), (9, 0), (9, 0)) (by omega) u1.1 (fun d a b => by omega)
  · have this : ∃ R, q_L 204 2 [(22, 469), (0, 0), (9, 0), (9, 0), (9, 0)] [] (sh, q_row h 486 (h 486)) = some ((9, 0), (sh, q_row h 486 R)) ∧ ∀ d, 0 ≤ d → d < G 1 → R d = FE G (enN G (G 3).toNat) d := this
    rw [q_row_id] at this
    exact this
  · intro d y d0 d1 hI
    obtain ⟨R, x2, x3, x4⟩ := y
    have hI : ∀ x, 0 ≤ x → x < d → R x = FE G (enN G (G 3).toNat) x := hI
    left
    have r5 := wr.turn (d := d) (by omega) (by omega)
    have := lp (fun i (y : (Int → Int) × q_V × q_V) => q_L 204 26 [(22, 469), (0, d), (0, i), y.2.1, y.2.2] [] (sh, q_row h 486 y.1)) (fun i y => (∀ x, 0 ≤ x → x < d → y.1 x = R x) ∧ y.1 d = FE G (enN G i.toNat) d) (fun r => ∃ y : (Int → Int) × q_V × q_V × q_V, r = q_L 204 2 [(22, 469), (0, d + 1), y.2.1, y.2.2.1, y.2.2.2] [] (sh, q_row h 486 y.1) ∧ ∀ x, 0 ≤ x → x < d + 1 → y.1 x = FE G (enN G (G 3).toNat) x) (G 3) ?_ ?_ 0 (ud R d (G 0), x3, x4) (by omega) u3.1 ⟨fun x x0 x1 => ud_ne (by omega), ?_⟩
    · obtain ⟨y, q1, q2⟩ := this
      have q1 : q_L 204 26 [(22, 469), (0, d), (0, 0), x3, x4] [] (sh, q_row h 486 (ud R d (G 0))) = q_L 204 2 [(22, 469), (0, d + 1), y.2.1, y.2.2.1, y.2.2.2] [] (sh, q_row h 486 y.1) := q1
      refine ⟨y, ?_, q2⟩
      rw [← q1]
      show q_L 204 2 [(22, 469), (0, d), x2, x3, x4] [] (sh, q_row h 486 R) = _
      rw [e_X12_findFree_2]
      simp (disch := omega) only [q_470, q_up_far, q_row_row, q_row_self, q_row_ne, q_up_ne, q_up_eq, q_rowup, ud_eq, ud_ne, q_add_id, q_sub_id, q_mul_id, q_w_eq, q_rem_n, q_div_n, ↓reduceIte, leT, leF, ltT, ltF, eqT, eqF, true_or, or_true, false_or, or_false, true_and, and_true, false_and, and_false, or_self, and_self, Option.bind_some, e0, e26, l, l26, hG]
    · intro i y i0 i1 hy
      obtain ⟨R', y3, y4⟩ := y
      obtain ⟨hy1, hy2⟩ := hy
      have hy1 : ∀ x, 0 ≤ x → x < d → R' x = R x := hy1
      have hy2 : R' d = FE G (enN G i.toNat) d := hy2
      have wa := wf.2.2.1 i i0 i1
      have r1 := wr.abegin (d := i) (by omega) (by omega)
      have r2 := wr.an (d := i) (by omega) (by omega)
      have r3 := wr.adish (d := i) (by omega) (by omega)
      have eb := enN_b wf i.toNat (by omega) d
      have fb := FE_b (E := enN G i.toNat) wf d0 (by omega) eb.2
      rw [← hy2] at fb
      left
      by_cases z : (G (480 + i) = 1 ∨ G (480 + i) = 2) ∧ G (494 + i) = d
      · obtain ⟨z1, z2⟩ := z
        have wd : 0 ≤ G (508 + i) := by
          rcases z1 with z | z
          · have := (wa.2.2.2.1 z).2; omega
          · exact (wa.2.2.2.2 z).2.1
        refine ⟨(ud R' d (if R' d < G (508 + i) + G (424 + i) + G (64 + d) then G (508 + i) + G (424 + i) + G (64 + d) else R' d), (0, 1), (0, G (508 + i) + G (424 + i) + G (64 + d))), ?_, ?_, ?_⟩
        · show q_L 204 26 [(22, 469), (0, d), (0, i), y3, y4] [] (sh, q_row h 486 R') = q_L 204 26 [(22, 469), (0, d), (0, i + 1), (0, 1), (0, G (508 + i) + G (424 + i) + G (64 + d))] [] (sh, q_row h 486 (ud R' d (if R' d < G (508 + i) + G (424 + i) + G (64 + d) then G (508 + i) + G (424 + i) + G (64 + d) else R' d)))
          rw [e_X12_findFree_26]
          by_cases e : R' d < G (508 + i) + G (424 + i) + G (64 + d) <;> rcases z1 with z1 | z1 <;> simp (disch := omega) only [q_470, q_up_far, q_row_row, q_row_self, q_row_ne, q_up_ne, q_up_eq, q_rowup, ud_eq, ud_ne, q_add_id, q_sub_id, q_mul_id, q_w_eq, q_rem_n, q_div_n, ↓reduceIte, leT, leF, ltT, ltF, eqT, eqF, true_or, or_true, false_or, or_false, true_and, and_true, false_and, and_false, or_self, and_self, Option.bind_some, z1, z2, e0, e26, l, l26, hG, e_X12_findFree_78, e_X12_findFree_82, e_X12_findFree_83, e_X12_findFree_123, e_X12_findFree_152]
        · intro x x0 x1
          show ud R' d _ x = R x
          rw [ud_ne (by omega)]; exact hy1 x x0 x1
        · show ud R' d _ d = _
          rw [ud_self, hy2]
          unfold FE
          have zz : (G (480 + i) = 1 ∨ G (480 + i) = 2) ∧ G (494 + i) = d := ⟨z1, z2⟩
          rw [enN_succ i0, if_pos zz]
          clear hy1 hI wa
          repeat' split
          all_goals omega
      · refine ⟨(ud R' d (R' d), (0, 0), (0, 0)), ?_, ?_, ?_⟩
        · show q_L 204 26 [(22, 469), (0, d), (0, i), y3, y4] [] (sh, q_row h 486 R') = q_L 204 26 [(22, 469), (0, d), (0, i + 1), (0, 0), (0, 0)] [] (sh, q_row h 486 (ud R' d (R' d)))
          rw [e_X12_findFree_26]
          by_cases z2 : G (494 + i) = d
          · have n1 : ¬ G (480 + i) = 1 := fun e => z ⟨Or.inl e, z2⟩
            have n2 : ¬ G (480 + i) = 2 := fun e => z ⟨Or.inr e, z2⟩
            simp (disch := omega) only [q_470, q_up_far, q_row_row, q_row_self, q_row_ne, q_up_ne, q_up_eq, q_rowup, ud_eq, ud_ne, q_add_id, q_sub_id, q_mul_id, q_w_eq, q_rem_n, q_div_n, ↓reduceIte, leT, leF, ltT, ltF, eqT, eqF, true_or, or_true, false_or, or_false, true_and, and_true, false_and, and_false, or_self, and_self, Option.bind_some, z2, e0, e26, l, l26, hG, e_X12_findFree_78, e_X12_findFree_82, e_X12_findFree_83, e_X12_findFree_123, e_X12_findFree_152]
          · simp (disch := omega) only [q_470, q_up_far, q_row_row, q_row_self, q_row_ne, q_up_ne, q_up_eq, q_rowup, ud_eq, ud_ne, q_add_id, q_sub_id, q_mul_id, q_w_eq, q_rem_n, q_div_n, ↓reduceIte, leT, leF, ltT, ltF, eqT, eqF, true_or, or_true, false_or, or_false, true_and, and_true, false_and, and_false, or_self, and_self, Option.bind_some, e0, e26, l, l26, hG, e_X12_findFree_78, e_X12_findFree_82, e_X12_findFree_83, e_X12_findFree_123, e_X12_findFree_152]
        · intro x x0 x1
          show ud R' d _ x = R x
          rw [ud_ne (by omega)]; exact hy1 x x0 x1
        · show ud R' d _ d = _
          rw [ud_self, hy2]
          unfold FE
          rw [enN_succ i0, if_neg z]
    · intro y hy
      obtain ⟨R', y3, y4⟩ := y
      obtain ⟨hy1, hy2⟩ := hy
      have hy1 : ∀ x, 0 ≤ x → x < d → R' x = R x := hy1
      have hy2 : R' d = FE G (enN G (G 3).toNat) d := hy2
      refine ⟨(R', (0, G 3), y3, y4), ?_, ?_⟩
      · show q_L 204 26 [(22, 469), (0, d), (0, G 3), y3, y4] [] (sh, q_row h 486 R') = q_L 204 2 [(22, 469), (0, d + 1), (0, G 3), y3, y4] [] (sh, q_row h 486 R')
        rw [e_X12_findFree_26]
        simp (disch := omega) only [q_470, q_up_far, q_row_row, q_row_self, q_row_ne, q_up_ne, q_up_eq, q_rowup, ud_eq, ud_ne, q_add_id, q_sub_id, q_mul_id, q_w_eq, q_rem_n, q_div_n, ↓reduceIte, leT, leF, ltT, ltF, eqT, eqF, true_or, or_true, false_or, or_false, true_and, and_true, false_and, and_false, or_self, and_self, Option.bind_some, e0, e26, l, l26, hG]
      · intro x x0 x1
        show R' x = _
        by_cases e : x = d
        · rw [e]; exact hy2
        · rw [hy1 x x0 (by omega)]; exact hI x x0 (by omega)
    · show ud R d (G 0) d = _
      rw [ud_self]
      rfl
  · intro y hI
    obtain ⟨R, x2, x3, x4⟩ := y
    refine ⟨R, ?_, hI⟩
    show q_L 204 2 [(22, 469), (0, G 1), x2, x3, x4] [] (sh, q_row h 486 R) = _
    rw [e_X12_findFree_2]
    simp (disch := omega) only [q_470, q_up_far, q_row_row, q_row_self, q_row_ne, q_up_ne, q_up_eq, q_rowup, ud_eq, ud_ne, q_add_id, q_sub_id, q_mul_id, q_w_eq, q_rem_n, q_div_n, ↓reduceIte, leT, leF, ltT, ltF, eqT, eqF, true_or, or_true, false_or, or_false, true_and, and_true, false_and, and_false, or_self, and_self, Option.bind_some, e0, e26, l, l26, hG]
