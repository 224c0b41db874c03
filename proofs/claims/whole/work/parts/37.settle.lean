/-! orders end -/
abbrev thP (G : Int → Int) (c o : Int) : Prop := 0 ≤ G (1002 + 12 * c + o) ∧ q_add (G (1002 + 12 * c + o)) (G (84 + c)) ≤ G 0
/-- 1 while none that waits stands ahead -/
def fl (G : Int → Int) (c : Int) : Nat → Int
  | 0 => 1
  | o + 1 => if fl G c o = 1 ∧ ¬ (G (810 + 12 * c + o) = 0 ∧ ¬ thP G c o ∧ ¬ G (714 + 12 * c + o) ≤ G 0) then 1 else 0
def stF (G : Int → Int) (c o : Int) : Int := if G (810 + 12 * c + o) = 0 then (if thP G c o ∧ fl G c o.toNat = 1 then 1 else if G (714 + 12 * c + o) ≤ G 0 then 2 else 0) else G (810 + 12 * c + o)
def dnF (G : Int → Int) (c o : Int) : Int := if G (810 + 12 * c + o) = 0 ∧ thP G c o ∧ fl G c o.toNat = 1 then G 0 else G (906 + 12 * c + o)
theorem fl_01 (G : Int → Int) (c : Int) : ∀ n : Nat, fl G c n = 0 ∨ fl G c n = 1 := by
  intro n
  cases n with
  | zero => right; rfl
  | succ n => unfold fl; split <;> omega
theorem fl_succ {G : Int → Int} {c o : Int} (o0 : 0 ≤ o) : fl G c (o + 1).toNat = if fl G c o.toNat = 1 ∧ stF G c o ≠ 0 then 1 else 0 := by
  have ei : (o.toNat : Int) = o := Int.toNat_of_nonneg o0
  have es : (o + 1).toNat = o.toNat + 1 := by omega
  rw [es]
  show (if fl G c o.toNat = 1 ∧ ¬ (G (810 + 12 * c + (o.toNat : Int)) = 0 ∧ ¬ thP G c (o.toNat : Int) ∧ ¬ G (714 + 12 * c + (o.toNat : Int)) ≤ G 0) then (1 : Int) else 0) = _
  rw [ei]
  unfold stF
  by_cases f : fl G c o.toNat = 1
  · by_cases z : G (810 + 12 * c + o) = 0
    · rw [if_pos z]
      by_cases t : thP G c o
      · rw [if_pos ⟨f, fun h => h.2.1 t⟩, if_pos (c := thP G c o ∧ fl G c o.toNat = 1) ⟨t, f⟩, if_pos ⟨f, by decide⟩]
      · rw [if_neg (c := thP G c o ∧ fl G c o.toNat = 1) (fun h => t h.1)]
        by_cases q : G (714 + 12 * c + o) ≤ G 0
        · rw [if_pos ⟨f, fun h => h.2.2 q⟩, if_pos (c := G (714 + 12 * c + o) ≤ G 0) q, if_pos ⟨f, by decide⟩]
        · rw [if_neg (fun h => h.2 ⟨z, t, q⟩), if_neg (c := G (714 + 12 * c + o) ≤ G 0) q, if_neg (fun h => h.2 rfl)]
    · rw [if_neg z, if_pos ⟨f, fun h => z h.1⟩, if_pos ⟨f, z⟩]
  · rw [if_neg (fun h => f h.1), if_neg (fun h => f h.1)]
/-- a place k of 12 a craft: there stands an order -/
abbrev hasO (G : Int → Int) (k : Int) : Prop := k / 12 < G 2 ∧ k % 12 < G (148 + k / 12)
def endQ (G : Int → Int) (p : Int) : Int → Int := fun y => if (810 ≤ y ∧ y < 810 + p) ∧ hasO G (y - 810) then stF G ((y - 810) / 12) ((y - 810) % 12) else if (906 ≤ y ∧ y < 906 + p) ∧ hasO G (y - 906) then dnF G ((y - 906) / 12) ((y - 906) % 12) else G y
theorem endQ_f {G : Int → Int} {p y : Int} (h1 : y < 810 ∨ 810 + p ≤ y) (h2 : y < 906 ∨ 906 + p ≤ y) : endQ G p y = G y := by
  unfold endQ
  rw [if_neg (fun h => by omega), if_neg (fun h => by omega)]
theorem endQ_zero (G : Int → Int) : endQ G 0 = G := by funext y; exact endQ_f (by omega) (by omega)
theorem endQ_succ {G : Int → Int} {c k : Int} (c0 : 0 ≤ c) (c1 : c < G 2) (c8 : c < 8) (k0 : 0 ≤ k) (k1 : k < G (148 + c)) (k2 : k < 12) : endQ G (12 * c + (k + 1)) = ud (ud (endQ G (12 * c + k)) (810 + 12 * c + k) (stF G c k)) (906 + 12 * c + k) (dnF G c k) := by
  have h9 : hasO G (906 + 12 * c + k - 906) := by
    show (906 + 12 * c + k - 906) / 12 < G 2 ∧ (906 + 12 * c + k - 906) % 12 < G (148 + (906 + 12 * c + k - 906) / 12)
    rw [show (906 + 12 * c + k - 906) / 12 = c by omega, show (906 + 12 * c + k - 906) % 12 = k by omega]
    exact ⟨c1, k1⟩
  have h8 : hasO G (810 + 12 * c + k - 810) := by
    show (810 + 12 * c + k - 810) / 12 < G 2 ∧ (810 + 12 * c + k - 810) % 12 < G (148 + (810 + 12 * c + k - 810) / 12)
    rw [show (810 + 12 * c + k - 810) / 12 = c by omega, show (810 + 12 * c + k - 810) % 12 = k by omega]
    exact ⟨c1, k1⟩
  funext y
  by_cases e1 : y = 906 + 12 * c + k
  · rw [ud_eq e1, e1]
    unfold endQ
    rw [if_neg (fun h => by omega), if_pos ⟨by omega, h9⟩, show (906 + 12 * c + k - 906) / 12 = c by omega, show (906 + 12 * c + k - 906) % 12 = k by omega]
  · rw [ud_ne e1]
    by_cases e2 : y = 810 + 12 * c + k
    · rw [ud_eq e2, e2]
      unfold endQ
      rw [if_pos ⟨by omega, h8⟩, show (810 + 12 * c + k - 810) / 12 = c by omega, show (810 + 12 * c + k - 810) % 12 = k by omega]
    · rw [ud_ne e2]
      unfold endQ
      by_cases q1 : (810 ≤ y ∧ y < 810 + (12 * c + k)) ∧ hasO G (y - 810)
      · rw [if_pos q1, if_pos ⟨by omega, q1.2⟩]
      · rw [if_neg q1, if_neg (fun h => q1 ⟨by omega, h.2⟩)]
        by_cases q2 : (906 ≤ y ∧ y < 906 + (12 * c + k)) ∧ hasO G (y - 906)
        · rw [if_pos q2, if_pos ⟨by omega, q2.2⟩]
        · rw [if_neg q2, if_neg (fun h => q2 ⟨by omega, h.2⟩)]
theorem endQ_skip {G : Int → Int} {p p' : Int} (h : p ≤ p') (hs : ∀ k, p ≤ k → k < p' → ¬ hasO G k) : endQ G p' = endQ G p := by
  funext y
  unfold endQ
  by_cases q1 : (810 ≤ y ∧ y < 810 + p) ∧ hasO G (y - 810)
  · rw [if_pos q1, if_pos ⟨by omega, q1.2⟩]
  · rw [if_neg q1, if_neg]
    · by_cases q2 : (906 ≤ y ∧ y < 906 + p) ∧ hasO G (y - 906)
      · rw [if_pos q2, if_pos ⟨by omega, q2.2⟩]
      · rw [if_neg q2, if_neg]
        intro hq
        by_cases e : y < 906 + p
        · exact q2 ⟨⟨hq.1.1, e⟩, hq.2⟩
        · exact hs (y - 906) (by omega) (by omega) hq.2
    · intro hq
      by_cases e : y < 810 + p
      · exact q1 ⟨⟨hq.1.1, e⟩, hq.2⟩
      · exact hs (y - 810) (by omega) (by omega) hq.2
theorem k_settle {sh : Int × (Int → Nat × Int)} {h h0 : Int → Int → Int} {w c : Int} {G : Int → Int} (hs : Sh sh) (iw : isW w) (wr : WFR G) (c0 : 0 ≤ c) (c1 : c < G 2) (cw : CW h0 h w (endQ G (12 * c))) : ∃ h', q_Cc 34 [(14, w + 13 + 15 * c + 6), (0, G 0), (0, G (84 + c))] (sh, h) = some ((9, 0), (sh, h')) ∧ CW h0 h' w (endQ G (12 * (c + 1))) := by
  have u2 := wr.nc
  have ro := wr.orders (d := c) c0 (by omega)
  have w0 := iw.b
  rw [c_X4_settle, e_X4_settle_0]
  refine lp (fun i (y : (Int × q_V) × (Int → Int → Int)) => q_L 34 5 [(14, w + 13 + 15 * c + 6), (0, G 0), (0, G (84 + c)), (0, y.1.1), (0, i), y.1.2] [] (sh, y.2)) (fun i y => y.1.1 = fl G c i.toNat ∧ CW h0 y.2 w (endQ G (12 * c + i))) (fun r => ∃ h', r = some ((9, 0), (sh, h')) ∧ CW h0 h' w (endQ G (12 * (c + 1)))) (G (148 + c)) ?_ ?_ 0 ((1, (9, 0)), h) (by omega) ro.1 ⟨rfl, by show CW h0 h w (endQ G (12 * c + 0)); rw [Int.add_zero]; exact cw⟩
  · intro i y i0 i1 hI
    obtain ⟨⟨f, x5⟩, g⟩ := y
    obtain ⟨ef, hI⟩ := hI
    have ef : f = fl G c i.toNat := ef
    have hI : CW h0 g w (endQ G (12 * c + i)) := hI
    have f01 := fl_01 G c i.toNat
    rw [← ef] at f01
    have wk : WFR (endQ G (12 * c + i)) := wr.only (fun y hy => endQ_f (by omega) (by omega))
    have hr := hI.1
    have hp := hI.2.1
    have s2 : endQ G (12 * c + i) 2 = G 2 := endQ_f (by omega) (by omega)
    have so : endQ G (12 * c + i) (148 + c) = G (148 + c) := endQ_f (by omega) (by omega)
    have fo := hr.orders wk c c0 (by rw [s2]; exact c1)
    have fw := hr.owent wk c i c0 (by rw [s2]; exact c1) i0 (by rw [so]; exact i1)
    have fa := hr.ostate wk c i c0 (by rw [s2]; exact c1) i0 (by rw [so]; exact i1)
    have fla := hr.olast wk c i c0 (by rw [s2]; exact c1) i0 (by rw [so]; exact i1)
    have sst : endQ G (12 * c + i) (810 + 12 * c + i) = G (810 + 12 * c + i) := endQ_f (by omega) (by omega)
    have sdn : endQ G (12 * c + i) (906 + 12 * c + i) = G (906 + 12 * c + i) := endQ_f (by omega) (by omega)
    rw [so] at fo
    rw [endQ_f (by omega) (by omega)] at fw fla
    rw [sst] at fa
    have ss := endQ_succ (G := G) (c := c) (k := i) c0 c1 (by omega) i0 i1 (by omega)
    have fs := fl_succ (G := G) (c := c) i0
    unfold stF at fs
    unfold stF dnF at ss
    rw [← ef] at fs ss
    left
    show ∃ y : (Int × q_V) × (Int → Int → Int), q_L 34 5 [(14, w + 13 + 15 * c + 6), (0, G 0), (0, G (84 + c)), (0, f), (0, i), x5] [] (sh, g) = q_L 34 5 [(14, w + 13 + 15 * c + 6), (0, G 0), (0, G (84 + c)), (0, y.1.1), (0, i + 1), y.1.2] [] (sh, y.2) ∧ y.1.1 = fl G c (i + 1).toNat ∧ CW h0 y.2 w (endQ G (12 * c + (i + 1)))
    by_cases z : G (810 + 12 * c + i) = 0
    · rw [if_pos z] at fs
      rw [if_pos (c := G (810 + 12 * c + i) = 0) z] at ss
      by_cases t : thP G c i
      · obtain ⟨t1, t2⟩ := id t
        rcases f01 with f0 | f0
        · rw [if_neg (fun h => by omega)] at fs
          rw [if_neg (c := thP G c i ∧ f = 1) (fun h => by omega), if_neg (c := G (810 + 12 * c + i) = 0 ∧ thP G c i ∧ f = 1) (fun h => by omega), ud_id (i := 906 + 12 * c + i) (by rw [ud_ne (by omega)]; exact sdn)] at ss
          by_cases q : G (714 + 12 * c + i) ≤ G 0
          · rw [if_pos q] at ss
            refine ⟨((f, (0, 1)), q_up g (w + 13 + 15 * c + 11) i 2), ?_, by show f = _; rw [fs]; exact f0, by rw [ss]; exact hI.set wk iw (lo_ostate c0 (by omega) i0 (by omega)) (by omega) (VP_cr iw c0 (by omega) (by omega) (by omega) (by omega)) (by omega)⟩
            rw [e_X4_settle_5]
            simp (disch := omega) only [q_470, q_up_far, q_row_row, q_row_self, q_row_ne, q_up_ne, q_up_eq, q_rowup, ud_eq, ud_ne, q_add_id, q_sub_id, q_mul_id, q_w_eq, q_rem_n, q_div_n, ↓reduceIte, leT, leF, ltT, ltF, eqT, eqF, true_or, or_true, false_or, or_false, true_and, and_true, false_and, and_false, or_self, and_self, Option.bind_some, fo, fw, fa, fla, z, f0, hp.ord3 iw, hp.ord4 iw, hp.ord5 iw, hp.ord6 iw, hs.c9 iw, hs.c10 iw, hs.c11 iw, hs.c12 iw, e_X4_settle_51, e_X4_settle_52, e_X4_settle_82, e_X4_settle_106]
          · rw [if_neg q, ud_id (by rw [sst]; exact z)] at ss
            refine ⟨((0, (0, 1)), g), ?_, by show (0 : Int) = _; rw [fs], by rw [ss]; exact hI⟩
            rw [e_X4_settle_5]
            simp (disch := omega) only [q_470, q_up_far, q_row_row, q_row_self, q_row_ne, q_up_ne, q_up_eq, q_rowup, ud_eq, ud_ne, q_add_id, q_sub_id, q_mul_id, q_w_eq, q_rem_n, q_div_n, ↓reduceIte, leT, leF, ltT, ltF, eqT, eqF, true_or, or_true, false_or, or_false, true_and, and_true, false_and, and_false, or_self, and_self, Option.bind_some, fo, fw, fa, fla, z, f0, hp.ord3 iw, hp.ord4 iw, hp.ord5 iw, hp.ord6 iw, hs.c9 iw, hs.c10 iw, hs.c11 iw, hs.c12 iw, e_X4_settle_51, e_X4_settle_52, e_X4_settle_82, e_X4_settle_106]
        · rw [if_pos (c := thP G c i ∧ f = 1) ⟨t, f0⟩, if_pos ⟨f0, by decide⟩] at fs
          rw [if_pos (c := thP G c i ∧ f = 1) ⟨t, f0⟩, if_pos (c := G (810 + 12 * c + i) = 0 ∧ thP G c i ∧ f = 1) ⟨z, t, f0⟩] at ss
          refine ⟨((f, (0, 1)), q_up (q_up g (w + 13 + 15 * c + 11) i 1) (w + 13 + 15 * c + 12) i (G 0)), ?_, by show f = _; rw [fs]; exact f0, by rw [ss]; exact (hI.set wk iw (lo_ostate c0 (by omega) i0 (by omega)) (by omega) (VP_cr iw c0 (by omega) (by omega) (by omega) (by omega)) (by omega)).set (wk.free (by omega)) iw (lo_odone c0 (by omega) i0 (by omega)) (by omega) (VP_cr iw c0 (by omega) (by omega) (by omega) (by omega)) (by omega)⟩
          rw [e_X4_settle_5]
          simp (disch := omega) only [q_470, q_up_far, q_row_row, q_row_self, q_row_ne, q_up_ne, q_up_eq, q_rowup, ud_eq, ud_ne, q_add_id, q_sub_id, q_mul_id, q_w_eq, q_rem_n, q_div_n, ↓reduceIte, leT, leF, ltT, ltF, eqT, eqF, true_or, or_true, false_or, or_false, true_and, and_true, false_and, and_false, or_self, and_self, Option.bind_some, fo, fw, fa, fla, z, f0, hp.ord3 iw, hp.ord4 iw, hp.ord5 iw, hp.ord6 iw, hs.c9 iw, hs.c10 iw, hs.c11 iw, hs.c12 iw, e_X4_settle_51, e_X4_settle_52, e_X4_settle_82, e_X4_settle_106]
      · rw [if_neg (c := thP G c i ∧ f = 1) (fun h => t h.1)] at fs
        rw [if_neg (c := thP G c i ∧ f = 1) (fun h => t h.1), if_neg (c := G (810 + 12 * c + i) = 0 ∧ thP G c i ∧ f = 1) (fun h => t h.2.1), ud_id (i := 906 + 12 * c + i) (by rw [ud_ne (by omega)]; exact sdn)] at ss
        by_cases q : G (714 + 12 * c + i) ≤ G 0
        · rw [if_pos q] at ss
          rw [if_pos (c := G (714 + 12 * c + i) ≤ G 0) q] at fs
          have ef2 : fl G c (i + 1).toNat = f := by
            rw [fs]
            rcases f01 with f0 | f0
            · rw [if_neg (fun h => by omega)]; exact f0.symm
            · rw [if_pos ⟨f0, by decide⟩]; exact f0.symm
          refine ⟨((f, (0, 0)), q_up g (w + 13 + 15 * c + 11) i 2), ?_, by show f = _; exact ef2.symm, by rw [ss]; exact hI.set wk iw (lo_ostate c0 (by omega) i0 (by omega)) (by omega) (VP_cr iw c0 (by omega) (by omega) (by omega) (by omega)) (by omega)⟩
          rw [e_X4_settle_5]
          by_cases t1 : G (1002 + 12 * c + i) < 0
          · simp (disch := omega) only [q_470, q_up_far, q_row_row, q_row_self, q_row_ne, q_up_ne, q_up_eq, q_rowup, ud_eq, ud_ne, q_add_id, q_sub_id, q_mul_id, q_w_eq, q_rem_n, q_div_n, ↓reduceIte, leT, leF, ltT, ltF, eqT, eqF, true_or, or_true, false_or, or_false, true_and, and_true, false_and, and_false, or_self, and_self, Option.bind_some, fo, fw, fa, fla, z, hp.ord3 iw, hp.ord4 iw, hp.ord5 iw, hp.ord6 iw, hs.c9 iw, hs.c10 iw, hs.c11 iw, hs.c12 iw, e_X4_settle_51, e_X4_settle_52, e_X4_settle_82, e_X4_settle_106]
          · have t2 : G 0 < q_add (G (1002 + 12 * c + i)) (G (84 + c)) := by
              rcases Int.lt_or_le (G 0) (q_add (G (1002 + 12 * c + i)) (G (84 + c))) with y | y
              · exact y
              · exact (t ⟨by omega, y⟩).elim
            simp (disch := omega) only [q_470, q_up_far, q_row_row, q_row_self, q_row_ne, q_up_ne, q_up_eq, q_rowup, ud_eq, ud_ne, q_add_id, q_sub_id, q_mul_id, q_w_eq, q_rem_n, q_div_n, ↓reduceIte, leT, leF, ltT, ltF, eqT, eqF, true_or, or_true, false_or, or_false, true_and, and_true, false_and, and_false, or_self, and_self, Option.bind_some, t2, fo, fw, fa, fla, z, hp.ord3 iw, hp.ord4 iw, hp.ord5 iw, hp.ord6 iw, hs.c9 iw, hs.c10 iw, hs.c11 iw, hs.c12 iw, e_X4_settle_51, e_X4_settle_52, e_X4_settle_82, e_X4_settle_106]
        · rw [if_neg q, ud_id (by rw [sst]; exact z)] at ss
          rw [if_neg (c := G (714 + 12 * c + i) ≤ G 0) q, if_neg (fun h => h.2 rfl)] at fs
          refine ⟨((0, (0, 0)), g), ?_, by show (0 : Int) = _; rw [fs], by rw [ss]; exact hI⟩
          rw [e_X4_settle_5]
          by_cases t1 : G (1002 + 12 * c + i) < 0
          · simp (disch := omega) only [q_470, q_up_far, q_row_row, q_row_self, q_row_ne, q_up_ne, q_up_eq, q_rowup, ud_eq, ud_ne, q_add_id, q_sub_id, q_mul_id, q_w_eq, q_rem_n, q_div_n, ↓reduceIte, leT, leF, ltT, ltF, eqT, eqF, true_or, or_true, false_or, or_false, true_and, and_true, false_and, and_false, or_self, and_self, Option.bind_some, fo, fw, fa, fla, z, hp.ord3 iw, hp.ord4 iw, hp.ord5 iw, hp.ord6 iw, hs.c9 iw, hs.c10 iw, hs.c11 iw, hs.c12 iw, e_X4_settle_51, e_X4_settle_52, e_X4_settle_82, e_X4_settle_106]
          · have t2 : G 0 < q_add (G (1002 + 12 * c + i)) (G (84 + c)) := by
              rcases Int.lt_or_le (G 0) (q_add (G (1002 + 12 * c + i)) (G (84 + c))) with y | y
              · exact y
              · exact (t ⟨by omega, y⟩).elim
            simp (disch := omega) only [q_470, q_up_far, q_row_row, q_row_self, q_row_ne, q_up_ne, q_up_eq, q_rowup, ud_eq, ud_ne, q_add_id, q_sub_id, q_mul_id, q_w_eq, q_rem_n, q_div_n, ↓reduceIte, leT, leF, ltT, ltF, eqT, eqF, true_or, or_true, false_or, or_false, true_and, and_true, false_and, and_false, or_self, and_self, Option.bind_some, t2, fo, fw, fa, fla, z, hp.ord3 iw, hp.ord4 iw, hp.ord5 iw, hp.ord6 iw, hs.c9 iw, hs.c10 iw, hs.c11 iw, hs.c12 iw, e_X4_settle_51, e_X4_settle_52, e_X4_settle_82, e_X4_settle_106]
    · rw [if_neg z] at fs
      rw [if_neg (c := G (810 + 12 * c + i) = 0) z, if_neg (c := G (810 + 12 * c + i) = 0 ∧ thP G c i ∧ f = 1) (fun h => z h.1), ud_id (i := 906 + 12 * c + i) (by rw [ud_ne (by omega)]; exact sdn), ud_id sst] at ss
      have ef2 : fl G c (i + 1).toNat = f := by
        rw [fs]
        rcases f01 with f0 | f0
        · rw [if_neg (fun h => by omega)]; exact f0.symm
        · rw [if_pos ⟨f0, z⟩]; exact f0.symm
      refine ⟨((f, x5), g), ?_, by show f = _; exact ef2.symm, by rw [ss]; exact hI⟩
      rw [e_X4_settle_5]
      simp (disch := omega) only [q_470, q_up_far, q_row_row, q_row_self, q_row_ne, q_up_ne, q_up_eq, q_rowup, ud_eq, ud_ne, q_add_id, q_sub_id, q_mul_id, q_w_eq, q_rem_n, q_div_n, ↓reduceIte, leT, leF, ltT, ltF, eqT, eqF, true_or, or_true, false_or, or_false, true_and, and_true, false_and, and_false, or_self, and_self, Option.bind_some, fo, fw, fa, fla, hp.ord3 iw, hp.ord4 iw, hp.ord5 iw, hp.ord6 iw, hs.c9 iw, hs.c10 iw, hs.c11 iw, hs.c12 iw, e_X4_settle_106]
  · intro y hI
    obtain ⟨⟨f, x5⟩, g⟩ := y
    obtain ⟨ef, hI⟩ := hI
    have hI : CW h0 g w (endQ G (12 * c + G (148 + c))) := hI
    have wk : WFR (endQ G (12 * c + G (148 + c))) := wr.only (fun y hy => endQ_f (by omega) (by omega))
    have s2 : endQ G (12 * c + G (148 + c)) 2 = G 2 := endQ_f (by omega) (by omega)
    have fo := hI.1.orders wk c c0 (by rw [s2]; exact c1)
    rw [endQ_f (by omega) (by omega)] at fo
    refine ⟨g, ?_, ?_⟩
    · show q_L 34 5 [(14, w + 13 + 15 * c + 6), (0, G 0), (0, G (84 + c)), (0, f), (0, G (148 + c)), x5] [] (sh, g) = _
      rw [e_X4_settle_5]
      simp (disch := omega) only [q_470, q_up_far, q_row_row, q_row_self, q_row_ne, q_up_ne, q_up_eq, q_rowup, ud_eq, ud_ne, q_add_id, q_sub_id, q_mul_id, q_w_eq, q_rem_n, q_div_n, ↓reduceIte, leT, leF, ltT, ltF, eqT, eqF, true_or, or_true, false_or, or_false, true_and, and_true, false_and, and_false, or_self, and_self, Option.bind_some, fo]
    · rw [endQ_skip (p := 12 * c + G (148 + c)) (p' := 12 * (c + 1)) (by omega)]
      · exact hI
      · intro k k0 k1 hk
        have : k / 12 = c := by omega
        have hk : k / 12 < G 2 ∧ k % 12 < G (148 + k / 12) := hk
        rw [this] at hk
        omega
