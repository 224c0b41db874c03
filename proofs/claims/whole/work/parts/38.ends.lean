theorem r_ordersEnd {sh : Int × (Int → Nat × Int)} {h : Int → Int → Int} {G : Int → Int} (e0 : h 469 0 = 470) (l : (sh.2 470).2 = 1354) (wr : WFR G) : q_Cc 223 [(22, 469)] (sh, q_row h 470 G) = some ((9, 0), (sh, q_row h 470 (endQ G 96))) := by
  have u2 := wr.nc
  rw [c_X12_ordersEnd, e_X12_ordersEnd_0]
  have := lp (fun c (y : ((q_V × q_V) × q_V × q_V) × (Int → Int)) => q_L 223 2 [(22, 469), (0, c), y.1.1.1, y.1.1.2, y.1.2.1, y.1.2.2] [] (sh, q_row h 470 y.2)) (fun c y => y.2 = endQ G (12 * c)) (fun r => r = some ((9, 0), (sh, q_row h 470 (endQ G 96)))) (G 2) ?_ ?_ 0 ((((9, 0), (9, 0)), (9, 0), (9, 0)), G) (by omega) u2.1 (by show G = _; rw [show (12 : Int) * 0 = 0 by rfl, endQ_zero])
  · exact this
  · intro c y c0 c1 hI
    obtain ⟨⟨⟨x2, x3⟩, x4, x5⟩, F⟩ := y
    have hI : F = endQ G (12 * c) := hI
    subst hI
    have ro := wr.orders (d := c) c0 (by omega)
    have g2 : ∀ p, endQ G p 2 = G 2 := fun p => by
      by_cases hp : p ≤ 96
      · exact endQ_f (by omega) (by omega)
      · exact endQ_f (by omega) (by omega)
    have go : ∀ p, endQ G p (148 + c) = G (148 + c) := fun p => endQ_f (by omega) (by omega)
    left
    have inner := lp (fun o (y : (Int × q_V × q_V) × (Int → Int)) => q_L 223 16 [(22, 469), (0, c), (0, y.1.1), (0, o), y.1.2.1, y.1.2.2] [] (sh, q_row h 470 y.2)) (fun o y => y.1.1 = fl G c o.toNat ∧ y.2 = endQ G (12 * c + o)) (fun r => ∃ (x2 x3 x4 x5 : q_V) (F : Int → Int), r = q_L 223 2 [(22, 469), (0, c + 1), x2, x3, x4, x5] [] (sh, q_row h 470 F) ∧ F = endQ G (12 * (c + 1))) (G (148 + c)) ?_ ?_ 0 ((1, x4, x5), endQ G (12 * c)) (by omega) ro.1 ⟨rfl, by show endQ G (12 * c) = endQ G (12 * c + 0); rw [Int.add_zero]⟩
    · obtain ⟨x2', x3', x4', x5', F', i1, i2⟩ := inner
      have i1 : q_L 223 16 [(22, 469), (0, c), (0, 1), (0, 0), x4, x5] [] (sh, q_row h 470 (endQ G (12 * c))) = q_L 223 2 [(22, 469), (0, c + 1), x2', x3', x4', x5'] [] (sh, q_row h 470 F') := i1
      refine ⟨(((x2', x3'), x4', x5'), F'), ?_, i2⟩
      show q_L 223 2 [(22, 469), (0, c), x2, x3, x4, x5] [] (sh, q_row h 470 (endQ G (12 * c))) = q_L 223 2 [(22, 469), (0, c + 1), x2', x3', x4', x5'] [] (sh, q_row h 470 F')
      rw [e_X12_ordersEnd_2, ← i1]
      simp (disch := omega) only [q_470, q_up_far, q_row_row, q_row_self, q_row_ne, q_up_ne, q_up_eq, q_rowup, ud_eq, ud_ne, q_add_id, q_sub_id, q_mul_id, q_w_eq, q_rem_n, q_div_n, ↓reduceIte, leT, leF, ltT, ltF, eqT, eqF, true_or, or_true, false_or, or_false, true_and, and_true, false_and, and_false, or_self, and_self, Option.bind_some, e0, l, g2]
    · intro o y o0 o1 hI
      obtain ⟨⟨f, x4, x5⟩, F⟩ := y
      obtain ⟨ef, hI⟩ := hI
      have ef : f = fl G c o.toNat := ef
      have hI : F = endQ G (12 * c + o) := hI
      subst hI
      have f01 := fl_01 G c o.toNat
      rw [← ef] at f01
      have a1 : ∀ n, n + (12 * c + o) = n + 12 * c + o := fun n => by omega
      have g0 : ∀ p, endQ G p 0 = G 0 := fun p => endQ_f (by omega) (by omega)
      have gfar : endQ G (12 * c + o) (84 + c) = G (84 + c) := endQ_f (by omega) (by omega)
      have gl : endQ G (12 * c + o) (714 + 12 * c + o) = G (714 + 12 * c + o) := endQ_f (by omega) (by omega)
      have gs : endQ G (12 * c + o) (810 + 12 * c + o) = G (810 + 12 * c + o) := endQ_f (by omega) (by omega)
      have gd : endQ G (12 * c + o) (906 + 12 * c + o) = G (906 + 12 * c + o) := endQ_f (by omega) (by omega)
      have gw : endQ G (12 * c + o) (1002 + 12 * c + o) = G (1002 + 12 * c + o) := endQ_f (by omega) (by omega)
      have ss := endQ_succ (G := G) (c := c) (k := o) c0 c1 (by omega) o0 o1 (by omega)
      have fs := fl_succ (G := G) (c := c) o0
      unfold stF at fs
      unfold stF dnF at ss
      rw [← ef] at fs ss
      left
      show ∃ y : (Int × q_V × q_V) × (Int → Int), q_L 223 16 [(22, 469), (0, c), (0, f), (0, o), x4, x5] [] (sh, q_row h 470 (endQ G (12 * c + o))) = q_L 223 16 [(22, 469), (0, c), (0, y.1.1), (0, o + 1), y.1.2.1, y.1.2.2] [] (sh, q_row h 470 y.2) ∧ y.1.1 = fl G c (o + 1).toNat ∧ y.2 = endQ G (12 * c + (o + 1))
      by_cases z : G (810 + 12 * c + o) = 0
      · rw [if_pos z] at fs
        rw [if_pos (c := G (810 + 12 * c + o) = 0) z] at ss
        by_cases t : thP G c o
        · obtain ⟨t1, t2⟩ := id t
          rcases f01 with f0 | f0
          · rw [if_neg (fun h => by omega)] at fs
            rw [if_neg (c := thP G c o ∧ f = 1) (fun h => by omega), if_neg (c := G (810 + 12 * c + o) = 0 ∧ thP G c o ∧ f = 1) (fun h => by omega), ud_id (i := 906 + 12 * c + o) (by rw [ud_ne (by omega)]; exact gd)] at ss
            by_cases q : G (714 + 12 * c + o) ≤ G 0
            · rw [if_pos q] at ss
              refine ⟨((0, (0, 12 * c + o), (0, 1)), endQ G (12 * c + (o + 1))), ?_, by show (0 : Int) = _; rw [fs], rfl⟩
              rw [ss, e_X12_ordersEnd_16]
              simp (disch := omega) only [q_470, q_up_far, q_row_row, q_row_self, q_row_ne, q_up_ne, q_up_eq, q_rowup, ud_eq, ud_ne, q_add_id, q_sub_id, q_mul_id, q_w_eq, q_rem_n, q_div_n, ↓reduceIte, leT, leF, ltT, ltF, eqT, eqF, true_or, or_true, false_or, or_false, true_and, and_true, false_and, and_false, or_self, and_self, Option.bind_some, e0, l, go, g0, gfar, gl, gs, gw, a1, z, f0, e_X12_ordersEnd_100, e_X12_ordersEnd_101, e_X12_ordersEnd_144, e_X12_ordersEnd_176, e_X12_ordersEnd_198, e_X12_ordersEnd_199]
            · rw [if_neg q, ud_id (by rw [gs]; exact z)] at ss
              refine ⟨((0, (0, 12 * c + o), (0, 1)), endQ G (12 * c + (o + 1))), ?_, by show (0 : Int) = _; rw [fs], rfl⟩
              rw [ss, e_X12_ordersEnd_16]
              simp (disch := omega) only [q_470, q_up_far, q_row_row, q_row_self, q_row_ne, q_up_ne, q_up_eq, q_rowup, ud_eq, ud_ne, q_add_id, q_sub_id, q_mul_id, q_w_eq, q_rem_n, q_div_n, ↓reduceIte, leT, leF, ltT, ltF, eqT, eqF, true_or, or_true, false_or, or_false, true_and, and_true, false_and, and_false, or_self, and_self, Option.bind_some, e0, l, go, g0, gfar, gl, gs, gw, a1, z, f0, e_X12_ordersEnd_100, e_X12_ordersEnd_101, e_X12_ordersEnd_144, e_X12_ordersEnd_176, e_X12_ordersEnd_198, e_X12_ordersEnd_199]
          · rw [if_pos (c := thP G c o ∧ f = 1) ⟨t, f0⟩, if_pos ⟨f0, by decide⟩] at fs
            rw [if_pos (c := thP G c o ∧ f = 1) ⟨t, f0⟩, if_pos (c := G (810 + 12 * c + o) = 0 ∧ thP G c o ∧ f = 1) ⟨z, t, f0⟩] at ss
            refine ⟨((1, (0, 12 * c + o), (0, 1)), endQ G (12 * c + (o + 1))), ?_, by show (1 : Int) = _; rw [fs], rfl⟩
            rw [ss, e_X12_ordersEnd_16]
            simp (disch := omega) only [q_470, q_up_far, q_row_row, q_row_self, q_row_ne, q_up_ne, q_up_eq, q_rowup, ud_eq, ud_ne, q_add_id, q_sub_id, q_mul_id, q_w_eq, q_rem_n, q_div_n, ↓reduceIte, leT, leF, ltT, ltF, eqT, eqF, true_or, or_true, false_or, or_false, true_and, and_true, false_and, and_false, or_self, and_self, Option.bind_some, e0, l, go, g0, gfar, gl, gs, gw, a1, z, f0, e_X12_ordersEnd_100, e_X12_ordersEnd_101, e_X12_ordersEnd_144, e_X12_ordersEnd_176, e_X12_ordersEnd_198, e_X12_ordersEnd_199]
        · rw [if_neg (c := thP G c o ∧ f = 1) (fun h => t h.1)] at fs
          rw [if_neg (c := thP G c o ∧ f = 1) (fun h => t h.1), if_neg (c := G (810 + 12 * c + o) = 0 ∧ thP G c o ∧ f = 1) (fun h => t h.2.1), ud_id (i := 906 + 12 * c + o) (by rw [ud_ne (by omega)]; exact gd)] at ss
          by_cases q : G (714 + 12 * c + o) ≤ G 0
          · rw [if_pos q] at ss
            rw [if_pos (c := G (714 + 12 * c + o) ≤ G 0) q] at fs
            have ef2 : fl G c (o + 1).toNat = f := by
              rw [fs]
              rcases f01 with f0 | f0
              · rw [if_neg (fun h => by omega)]; exact f0.symm
              · rw [if_pos ⟨f0, by decide⟩]; exact f0.symm
            refine ⟨((f, (0, 12 * c + o), (0, 0)), endQ G (12 * c + (o + 1))), ?_, by show f = _; exact ef2.symm, rfl⟩
            rw [ss, e_X12_ordersEnd_16]
            by_cases t1 : G (1002 + 12 * c + o) < 0
            · rcases f01 with f0 | f0 <;> (simp (disch := omega) only [q_470, q_up_far, q_row_row, q_row_self, q_row_ne, q_up_ne, q_up_eq, q_rowup, ud_eq, ud_ne, q_add_id, q_sub_id, q_mul_id, q_w_eq, q_rem_n, q_div_n, ↓reduceIte, leT, leF, ltT, ltF, eqT, eqF, true_or, or_true, false_or, or_false, true_and, and_true, false_and, and_false, or_self, and_self, Option.bind_some, e0, l, go, g0, gfar, gl, gs, gw, a1, z, f0, e_X12_ordersEnd_100, e_X12_ordersEnd_101, e_X12_ordersEnd_144, e_X12_ordersEnd_176, e_X12_ordersEnd_198, e_X12_ordersEnd_199]; (have f0' : f = _ := f0; rw [f0']))
            · have t2 : G 0 < q_add (G (1002 + 12 * c + o)) (G (84 + c)) := by
                rcases Int.lt_or_le (G 0) (q_add (G (1002 + 12 * c + o)) (G (84 + c))) with y | y
                · exact y
                · exact (t ⟨by omega, y⟩).elim
              rcases f01 with f0 | f0 <;> (simp (disch := omega) only [q_470, q_up_far, q_row_row, q_row_self, q_row_ne, q_up_ne, q_up_eq, q_rowup, ud_eq, ud_ne, q_add_id, q_sub_id, q_mul_id, q_w_eq, q_rem_n, q_div_n, ↓reduceIte, leT, leF, ltT, ltF, eqT, eqF, true_or, or_true, false_or, or_false, true_and, and_true, false_and, and_false, or_self, and_self, Option.bind_some, t2, e0, l, go, g0, gfar, gl, gs, gw, a1, z, f0, e_X12_ordersEnd_100, e_X12_ordersEnd_101, e_X12_ordersEnd_144, e_X12_ordersEnd_176, e_X12_ordersEnd_198, e_X12_ordersEnd_199]; (have f0' : f = _ := f0; rw [f0']))
          · rw [if_neg q, ud_id (by rw [gs]; exact z)] at ss
            rw [if_neg (c := G (714 + 12 * c + o) ≤ G 0) q, if_neg (fun h => h.2 rfl)] at fs
            refine ⟨((0, (0, 12 * c + o), (0, 0)), endQ G (12 * c + (o + 1))), ?_, by show (0 : Int) = _; rw [fs], rfl⟩
            rw [ss, e_X12_ordersEnd_16]
            by_cases t1 : G (1002 + 12 * c + o) < 0
            · rcases f01 with f0 | f0 <;> simp (disch := omega) only [q_470, q_up_far, q_row_row, q_row_self, q_row_ne, q_up_ne, q_up_eq, q_rowup, ud_eq, ud_ne, q_add_id, q_sub_id, q_mul_id, q_w_eq, q_rem_n, q_div_n, ↓reduceIte, leT, leF, ltT, ltF, eqT, eqF, true_or, or_true, false_or, or_false, true_and, and_true, false_and, and_false, or_self, and_self, Option.bind_some, e0, l, go, g0, gfar, gl, gs, gw, a1, z, f0, e_X12_ordersEnd_100, e_X12_ordersEnd_101, e_X12_ordersEnd_144, e_X12_ordersEnd_176, e_X12_ordersEnd_198, e_X12_ordersEnd_199]
            · have t2 : G 0 < q_add (G (1002 + 12 * c + o)) (G (84 + c)) := by
                rcases Int.lt_or_le (G 0) (q_add (G (1002 + 12 * c + o)) (G (84 + c))) with y | y
                · exact y
                · exact (t ⟨by omega, y⟩).elim
              rcases f01 with f0 | f0 <;> simp (disch := omega) only [q_470, q_up_far, q_row_row, q_row_self, q_row_ne, q_up_ne, q_up_eq, q_rowup, ud_eq, ud_ne, q_add_id, q_sub_id, q_mul_id, q_w_eq, q_rem_n, q_div_n, ↓reduceIte, leT, leF, ltT, ltF, eqT, eqF, true_or, or_true, false_or, or_false, true_and, and_true, false_and, and_false, or_self, and_self, Option.bind_some, t2, e0, l, go, g0, gfar, gl, gs, gw, a1, z, f0, e_X12_ordersEnd_100, e_X12_ordersEnd_101, e_X12_ordersEnd_144, e_X12_ordersEnd_176, e_X12_ordersEnd_198, e_X12_ordersEnd_199]
      · rw [if_neg z] at fs
        rw [if_neg (c := G (810 + 12 * c + o) = 0) z, if_neg (c := G (810 + 12 * c + o) = 0 ∧ thP G c o ∧ f = 1) (fun h => z h.1), ud_id (i := 906 + 12 * c + o) (by rw [ud_ne (by omega)]; exact gd), ud_id gs] at ss
        have ef2 : fl G c (o + 1).toNat = f := by
          rw [fs]
          rcases f01 with f0 | f0
          · rw [if_neg (fun h => by omega)]; exact f0.symm
          · rw [if_pos ⟨f0, z⟩]; exact f0.symm
        refine ⟨((f, (0, 12 * c + o), x5), endQ G (12 * c + (o + 1))), ?_, by show f = _; exact ef2.symm, rfl⟩
        rw [ss, e_X12_ordersEnd_16]
        rcases f01 with f0 | f0 <;> (simp (disch := omega) only [q_470, q_up_far, q_row_row, q_row_self, q_row_ne, q_up_ne, q_up_eq, q_rowup, ud_eq, ud_ne, q_add_id, q_sub_id, q_mul_id, q_w_eq, q_rem_n, q_div_n, ↓reduceIte, leT, leF, ltT, ltF, eqT, eqF, true_or, or_true, false_or, or_false, true_and, and_true, false_and, and_false, or_self, and_self, Option.bind_some, e0, l, go, g0, gfar, gl, gs, gw, a1, f0, e_X12_ordersEnd_100, e_X12_ordersEnd_101, e_X12_ordersEnd_144, e_X12_ordersEnd_176, e_X12_ordersEnd_198, e_X12_ordersEnd_199]; (have f0' : f = _ := f0; rw [f0']))
    · intro y hI
      obtain ⟨⟨f, x4, x5⟩, F⟩ := y
      obtain ⟨ef, hI⟩ := hI
      have hI : F = endQ G (12 * c + G (148 + c)) := hI
      subst hI
      refine ⟨(0, f), (0, G (148 + c)), x4, x5, endQ G (12 * c + G (148 + c)), ?_, ?_⟩
      · show q_L 223 16 [(22, 469), (0, c), (0, f), (0, G (148 + c)), x4, x5] [] (sh, q_row h 470 (endQ G (12 * c + G (148 + c)))) = _
        rw [e_X12_ordersEnd_16]
        simp (disch := omega) only [q_470, q_up_far, q_row_row, q_row_self, q_row_ne, q_up_ne, q_up_eq, q_rowup, ud_eq, ud_ne, q_add_id, q_sub_id, q_mul_id, q_w_eq, q_rem_n, q_div_n, ↓reduceIte, leT, leF, ltT, ltF, eqT, eqF, true_or, or_true, false_or, or_false, true_and, and_true, false_and, and_false, or_self, and_self, Option.bind_some, e0, l, go]
      · rw [endQ_skip (p := 12 * c + G (148 + c)) (p' := 12 * (c + 1)) (by omega)]
        intro k k0 k1 hk
        have : k / 12 = c := by omega
        have hk : k / 12 < G 2 ∧ k % 12 < G (148 + k / 12) := hk
        rw [this] at hk
        omega
  · intro y hI
    obtain ⟨⟨⟨x2, x3⟩, x4, x5⟩, F⟩ := y
    have hI : F = endQ G (12 * G 2) := hI
    have g2 : endQ G (12 * G 2) 2 = G 2 := endQ_f (by omega) (by omega)
    have e : endQ G 96 = endQ G (12 * G 2) := endQ_skip (by omega) (fun k k0 k1 hk => by have hk : k / 12 < G 2 ∧ k % 12 < G (148 + k / 12) := hk; omega)
    show q_L 223 2 [(22, 469), (0, G 2), x2, x3, x4, x5] [] (sh, q_row h 470 F) = _
    rw [hI, e, e_X12_ordersEnd_2]
    simp (disch := omega) only [q_470, q_up_far, q_row_row, q_row_self, q_row_ne, q_up_ne, q_up_eq, q_rowup, ud_eq, ud_ne, q_add_id, q_sub_id, q_mul_id, q_w_eq, q_rem_n, q_div_n, ↓reduceIte, leT, leF, ltT, ltF, eqT, eqF, true_or, or_true, false_or, or_false, true_and, and_true, false_and, and_false, or_self, and_self, Option.bind_some, e0, l, g2]
/-! blocks are made at a day's end -/
def mkN (G : Int → Int) (c : Int) : Nat → Int → Int
  | 0 => G
  | i + 1 => makeG (mkN G c i) c
def mkC (G : Int → Int) : Nat → Int → Int
  | 0 => G
  | k + 1 => mkN (mkC G k) k (mkC G k (100 + k)).toNat
/-- what making leaves as it was -/
theorem makeG_keep {G : Int → Int} (wf : WF G) {c : Int} (c0 : 0 ≤ c) (c1 : c < G 2) {y : Int} (hy : y < 108 ∨ (148 ≤ y ∧ y < 204) ∨ 396 ≤ y) : makeG G c y = G y := by
  have u2 := wf.1.nc
  exact makeG_f wf.1 c0 (by omega) (wf.2.1 c c0 c1) (by omega) (by omega) (by omega) (by omega) (by omega) (by omega)
theorem mkN_keep {G : Int → Int} (wf : WF G) {c : Int} (c0 : 0 ≤ c) (c1 : c < G 2) : ∀ i : Nat, WF (mkN G c i) ∧ ∀ y, (y < 108 ∨ (148 ≤ y ∧ y < 204) ∨ 396 ≤ y) → mkN G c i y = G y := by
  intro i
  induction i with
  | zero => exact ⟨wf, fun _ _ => rfl⟩
  | succ i ih =>
    obtain ⟨w1, k1⟩ := ih
    have c2 : c < mkN G c i 2 := by rw [k1 2 (by omega)]; exact c1
    exact ⟨w1.make c0 c2, fun y hy => by show makeG (mkN G c i) c y = _; rw [makeG_keep w1 c0 c2 hy]; exact k1 y hy⟩
theorem mkC_keep {G : Int → Int} (wf : WF G) : ∀ k : Nat, (k : Int) ≤ G 2 → WF (mkC G k) ∧ ∀ y, (y < 108 ∨ (148 ≤ y ∧ y < 204) ∨ 396 ≤ y) → mkC G k y = G y := by
  intro k
  induction k with
  | zero => intro _; exact ⟨wf, fun _ _ => rfl⟩
  | succ k ih =>
    intro hk
    obtain ⟨w1, k1⟩ := ih (by omega)
    have c2 : (k : Int) < mkC G k 2 := by rw [k1 2 (by omega)]; omega
    obtain ⟨w2, k2⟩ := mkN_keep w1 (by omega) c2 (mkC G k (100 + k)).toNat
    exact ⟨w2, fun y hy => by show mkN (mkC G k) k _ y = _; rw [k2 y hy]; exact k1 y hy⟩
theorem k_makeBlocks {sh : Int × (Int → Nat × Int)} {h h0 : Int → Int → Int} {w : Int} {G : Int → Int} (hs : Sh sh) (iw : isW w) (wf : WF G) (cw : CW h0 h w G) : ∃ h', q_Cc 102 [(20, w)] (sh, h) = some ((9, 0), (sh, h')) ∧ CW h0 h' w (mkC G (G 2).toNat) := by
  have u2 := wf.1.nc
  have w0 := iw.b
  rw [c_X10_makeBlocks, e_X10_makeBlocks_0]
  refine lp (fun c (y : q_V × (Int → Int → Int)) => q_L 102 2 [(20, w), (0, c), y.1] [] (sh, y.2)) (fun c y => CW h0 y.2 w (mkC G c.toNat)) (fun r => ∃ h', r = some ((9, 0), (sh, h')) ∧ CW h0 h' w (mkC G (G 2).toNat)) (G 2) ?_ ?_ 0 ((9, 0), h) (by omega) u2.1 cw
  · intro c y c0 c1 hI
    obtain ⟨x2, g⟩ := y
    have hI : CW h0 g w (mkC G c.toNat) := hI
    have ei : (c.toNat : Int) = c := Int.toNat_of_nonneg c0
    have es : (c + 1).toNat = c.toNat + 1 := by omega
    obtain ⟨w1, k1⟩ := mkC_keep wf c.toNat (by omega)
    obtain ⟨Gc, eGc⟩ : ∃ Gc, mkC G c.toNat = Gc := ⟨_, rfl⟩
    have en : mkC G (c + 1).toNat = mkN Gc c (Gc (100 + c)).toNat := by
      rw [es]
      show mkN (mkC G c.toNat) (c.toNat : Int) (mkC G c.toNat (100 + (c.toNat : Int))).toNat = _
      rw [ei, eGc]
    rw [eGc] at w1 k1 hI
    have q2 : Gc 2 = G 2 := k1 2 (by omega)
    have rt := w1.1.rate (d := c) c0 (by omega)
    left
    show ∃ y : q_V × (Int → Int → Int), q_L 102 2 [(20, w), (0, c), x2] [] (sh, g) = q_L 102 2 [(20, w), (0, c + 1), y.1] [] (sh, y.2) ∧ CW h0 y.2 w (mkC G (c + 1).toNat)
    rw [en]
    have inner := lp (fun i (g : Int → Int → Int) => q_L 102 12 [(20, w), (0, c), (0, i)] [] (sh, g)) (fun i g => CW h0 g w (mkN Gc c i.toNat)) (fun r => ∃ (x : q_V) (g' : Int → Int → Int), r = q_L 102 2 [(20, w), (0, c + 1), x] [] (sh, g') ∧ CW h0 g' w (mkN Gc c (Gc (100 + c)).toNat)) (Gc (100 + c)) ?_ ?_ 0 g (by omega) rt.1 hI
    · obtain ⟨x, g', i1, i2⟩ := inner
      refine ⟨(x, g'), ?_, i2⟩
      have f2 := hI.1.nc w1.1
      rw [q2] at f2
      show q_L 102 2 [(20, w), (0, c), x2] [] (sh, g) = q_L 102 2 [(20, w), (0, c + 1), x] [] (sh, g')
      rw [e_X10_makeBlocks_2, ← i1]
      simp (disch := omega) only [q_470, q_up_far, q_row_row, q_row_self, q_row_ne, q_up_ne, q_up_eq, q_rowup, ud_eq, ud_ne, q_add_id, q_sub_id, q_mul_id, q_w_eq, q_rem_n, q_div_n, ↓reduceIte, leT, leF, ltT, ltF, eqT, eqF, true_or, or_true, false_or, or_false, true_and, and_true, false_and, and_false, or_self, and_self, Option.bind_some, f2]
    · intro i g i0 i1 hJ
      obtain ⟨w2, k2⟩ := mkN_keep w1 c0 (by omega) i.toNat
      have e2 : mkN Gc c i.toNat 2 = G 2 := by rw [k2 2 (by omega)]; exact q2
      have fr := hJ.1.rate w2.1 c c0 (by omega)
      rw [k2 (100 + c) (by omega)] at fr
      obtain ⟨g', m1, m2, m3, m4⟩ := k_makeOne hs hJ.2.1 iw hJ.1 w2.1 w2.2.1 c0 (by omega : c < mkN Gc c i.toNat 2)
      have hp := hJ.2.1
      left
      refine ⟨g', ?_, ?_⟩
      · rw [e_X10_makeBlocks_12]
        simp (disch := omega) only [q_470, q_up_far, q_row_row, q_row_self, q_row_ne, q_up_ne, q_up_eq, q_rowup, ud_eq, ud_ne, q_add_id, q_sub_id, q_mul_id, q_w_eq, q_rem_n, q_div_n, ↓reduceIte, leT, leF, ltT, ltF, eqT, eqF, true_or, or_true, false_or, or_false, true_and, and_true, false_and, and_false, or_self, and_self, Option.bind_some, fr, m1, hp.w6 iw, hp.craft iw, hp.blocks iw, hs.crafts iw, e_X10_makeBlocks_37]
      · have es : (i + 1).toNat = i.toNat + 1 := by omega
        rw [es]
        exact ⟨m2, m3, fun k hk => by rw [m4 k (by omega) (by omega) (by omega)]; exact hJ.2.2 k hk⟩
    · intro g hJ
      obtain ⟨w2, k2⟩ := mkN_keep w1 c0 (by omega) (Gc (100 + c)).toNat
      have e2 : mkN Gc c (Gc (100 + c)).toNat 2 = G 2 := by rw [k2 2 (by omega)]; exact q2
      have fr := hJ.1.rate w2.1 c c0 (by omega)
      rw [k2 (100 + c) (by omega)] at fr
      have hp := hJ.2.1
      refine ⟨(0, Gc (100 + c)), g, ?_, hJ⟩
      show q_L 102 12 _ _ _ = _
      rw [e_X10_makeBlocks_12]
      simp (disch := omega) only [q_470, q_up_far, q_row_row, q_row_self, q_row_ne, q_up_ne, q_up_eq, q_rowup, ud_eq, ud_ne, q_add_id, q_sub_id, q_mul_id, q_w_eq, q_rem_n, q_div_n, ↓reduceIte, leT, leF, ltT, ltF, eqT, eqF, true_or, or_true, false_or, or_false, true_and, and_true, false_and, and_false, or_self, and_self, Option.bind_some, fr, hp.w6 iw, hp.craft iw, hs.crafts iw]
  · intro y hI
    obtain ⟨x2, g⟩ := y
    have hI : CW h0 g w (mkC G (G 2).toNat) := hI
    obtain ⟨w1, k1⟩ := mkC_keep wf (G 2).toNat (by omega)
    have f2 := hI.1.nc w1.1
    rw [k1 2 (by omega)] at f2
    refine ⟨g, ?_, hI⟩
    show q_L 102 2 [(20, w), (0, G 2), x2] [] (sh, g) = _
    rw [e_X10_makeBlocks_2]
    simp (disch := omega) only [q_470, q_up_far, q_row_row, q_row_self, q_row_ne, q_up_ne, q_up_eq, q_rowup, ud_eq, ud_ne, q_add_id, q_sub_id, q_mul_id, q_w_eq, q_rem_n, q_div_n, ↓reduceIte, leT, leF, ltT, ltF, eqT, eqF, true_or, or_true, false_or, or_false, true_and, and_true, false_and, and_false, or_self, and_self, Option.bind_some, f2]
theorem r_makeBlocks {sh : Int × (Int → Nat × Int)} {h : Int → Int → Int} {G : Int → Int} {a1 a2 : Int} {x4 x5 : q_V} (e0 : h 469 0 = 470) (l : (sh.2 470).2 = 1354) (wf : WF G) (hd : G 0 % 24 = 23) : ∃ x, q_L 226 327 [(22, 469), (0, a1), (0, a2), (0, 0), x4, x5] [] (sh, q_row h 470 G) = q_L 226 327 [(22, 469), (0, a1), (0, a2), (0, G 2), x, x5] [] (sh, q_row h 470 (mkC G (G 2).toNat)) := by
  have u2 := wf.1.nc
  have u0 := wf.1.hour
  have := lp (fun c (y : q_V × (Int → Int)) => q_L 226 327 [(22, 469), (0, a1), (0, a2), (0, c), y.1, x5] [] (sh, q_row h 470 y.2)) (fun c y => y.2 = mkC G c.toNat) (fun r => ∃ x, r = q_L 226 327 [(22, 469), (0, a1), (0, a2), (0, G 2), x, x5] [] (sh, q_row h 470 (mkC G (G 2).toNat))) (G 2) ?_ ?_ 0 (x4, G) (by omega) u2.1 rfl
  · exact this
  · intro c y c0 c1 hI
    obtain ⟨x4, F⟩ := y
    have hI : F = mkC G c.toNat := hI
    have ei : (c.toNat : Int) = c := Int.toNat_of_nonneg c0
    have es : (c + 1).toNat = c.toNat + 1 := by omega
    obtain ⟨w1, k1⟩ := mkC_keep wf c.toNat (by omega)
    rw [← hI] at w1 k1
    have en : mkC G (c + 1).toNat = mkN F c (F (100 + c)).toNat := by
      rw [es]
      show mkN (mkC G c.toNat) (c.toNat : Int) (mkC G c.toNat (100 + (c.toNat : Int))).toNat = _
      rw [ei, ← hI]
    have q2 : F 2 = G 2 := k1 2 (by omega)
    have q0 : F 0 = G 0 := k1 0 (by omega)
    have rt := w1.1.rate (d := c) c0 (by omega)
    left
    show ∃ y : q_V × (Int → Int), q_L 226 327 [(22, 469), (0, a1), (0, a2), (0, c), x4, x5] [] (sh, q_row h 470 F) = q_L 226 327 [(22, 469), (0, a1), (0, a2), (0, c + 1), y.1, x5] [] (sh, q_row h 470 y.2) ∧ y.2 = mkC G (c + 1).toNat
    rw [en]
    have inner := lp (fun i (J : Int → Int) => q_L 226 354 [(22, 469), (0, a1), (0, a2), (0, c), (0, i), x5] [] (sh, q_row h 470 J)) (fun i J => J = mkN F c i.toNat) (fun r => ∃ x : q_V, r = q_L 226 327 [(22, 469), (0, a1), (0, a2), (0, c + 1), x, x5] [] (sh, q_row h 470 (mkN F c (F (100 + c)).toNat))) (F (100 + c)) ?_ ?_ 0 F (by omega) rt.1 rfl
    · obtain ⟨x, i1⟩ := inner
      refine ⟨(x, mkN F c (F (100 + c)).toNat), ?_, rfl⟩
      show q_L 226 327 [(22, 469), (0, a1), (0, a2), (0, c), x4, x5] [] (sh, q_row h 470 F) = q_L 226 327 [(22, 469), (0, a1), (0, a2), (0, c + 1), x, x5] [] (sh, q_row h 470 (mkN F c (F (100 + c)).toNat))
      rw [e_X12_goes_327, ← i1]
      simp (disch := omega) only [q_470, q_up_far, q_row_row, q_row_self, q_row_ne, q_up_ne, q_up_eq, q_rowup, ud_eq, ud_ne, q_add_id, q_sub_id, q_mul_id, q_w_eq, q_rem_n, q_div_n, ↓reduceIte, leT, leF, ltT, ltF, eqT, eqF, true_or, or_true, false_or, or_false, true_and, and_true, false_and, and_false, or_self, and_self, Option.bind_some, e0, l, q2, q0, hd]
    · intro i J i0 i1 hJ
      obtain ⟨w2, k2⟩ := mkN_keep w1 c0 (by omega) i.toNat
      rw [← hJ] at w2 k2
      have e2 : J 2 = G 2 := by rw [k2 2 (by omega)]; exact q2
      have fr : J (100 + c) = F (100 + c) := k2 _ (by omega)
      have rm := r_makes (sh := sh) (h := h) (G := J) (c := c) e0 l w2.1 w2.2.1 c0 (by omega)
      left
      refine ⟨makeG J c, ?_, ?_⟩
      · rw [e_X12_goes_354]
        simp (disch := omega) only [q_470, q_up_far, q_row_row, q_row_self, q_row_ne, q_up_ne, q_up_eq, q_rowup, ud_eq, ud_ne, q_add_id, q_sub_id, q_mul_id, q_w_eq, q_rem_n, q_div_n, ↓reduceIte, leT, leF, ltT, ltF, eqT, eqF, true_or, or_true, false_or, or_false, true_and, and_true, false_and, and_false, or_self, and_self, Option.bind_some, e0, l, fr, rm, e_X12_goes_373]
      · have es : (i + 1).toNat = i.toNat + 1 := by omega
        rw [es, hJ]
        rfl
    · intro J hJ
      obtain ⟨w2, k2⟩ := mkN_keep w1 c0 (by omega) (F (100 + c)).toNat
      rw [← hJ] at w2 k2
      have fr : J (100 + c) = F (100 + c) := k2 _ (by omega)
      refine ⟨(0, F (100 + c)), ?_⟩
      show q_L 226 354 _ _ _ = _
      rw [e_X12_goes_354, ← hJ]
      simp (disch := omega) only [q_470, q_up_far, q_row_row, q_row_self, q_row_ne, q_up_ne, q_up_eq, q_rowup, ud_eq, ud_ne, q_add_id, q_sub_id, q_mul_id, q_w_eq, q_rem_n, q_div_n, ↓reduceIte, leT, leF, ltT, ltF, eqT, eqF, true_or, or_true, false_or, or_false, true_and, and_true, false_and, and_false, or_self, and_self, Option.bind_some, e0, l, fr]
  · intro y hI
    obtain ⟨x4, F⟩ := y
    have hI : F = mkC G (G 2).toNat := hI
    exact ⟨x4, by rw [← hI]⟩
