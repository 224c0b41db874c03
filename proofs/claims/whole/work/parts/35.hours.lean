/-! an hour goes: askings begin and end, orders go out and end -/
/-- the world bears G, and nothing outside of it has changed -/
def CW (h0 h : Int → Int → Int) (w : Int) (G : Int → Int) : Prop := RelW h w G ∧ Ptr h ∧ ∀ k, k < w ∨ w + 147 ≤ k → h k = h0 k
theorem CW.set {h0 h : Int → Int → Int} {w : Int} {G : Int → Int} (cw : CW h0 h w G) (wr : WFR G) (iw : isW w) {i v k j a : Int} (hl : cel i = k ∧ slt i = j ∧ Mp i) (ha : a = w + k) (hn : VP0 a j = none) (hi : (i = 0 ∨ 10 ≤ i) ∧ (i < 108 ∨ 116 ≤ i) ∧ (i < 148 ∨ 156 ≤ i) ∧ (i < 1162 ∨ (1226 ≤ i ∧ i < 1290))) : CW h0 (q_up h a j v) w (ud G i v) := by
  have cb := cel_b hl.2.2
  rw [hl.1] at cb
  exact ⟨cw.1.set wr hl ha hi, cw.2.1.up hn, fun x hx => by rw [q_up_far (by omega)]; exact cw.2.2 x hx⟩
theorem ud_id {G : Int → Int} {i v : Int} (e : G i = v) : ud G i v = G := by
  funext x
  unfold ud
  by_cases ex : x = i
  · rw [if_pos ex, ex, e]
  · rw [if_neg ex]
def startK (G : Int → Int) (k : Int) : Int → Int := fun y => if 480 ≤ y ∧ y < 480 + k ∧ G y = 1 ∧ G (y + 28) = G 0 then 2 else G y
def doneK (G : Int → Int) (k : Int) : Int → Int := fun y => if 480 ≤ y ∧ y < 480 + k ∧ G y = 2 ∧ G (y + 28) + G (y - 56) = G 0 + 1 then 3 else G y
theorem startK_zero (G : Int → Int) : startK G 0 = G := by funext y; unfold startK; rw [if_neg (by omega)]
theorem doneK_zero (G : Int → Int) : doneK G 0 = G := by funext y; unfold doneK; rw [if_neg (by omega)]
theorem startK_succ {G : Int → Int} {k : Int} (k0 : 0 ≤ k) : startK G (k + 1) = if G (480 + k) = 1 ∧ G (508 + k) = G 0 then ud (startK G k) (480 + k) 2 else startK G k := by
  have e28 : 480 + k + 28 = 508 + k := by omega
  by_cases c : G (480 + k) = 1 ∧ G (508 + k) = G 0
  · rw [if_pos c]
    funext y
    by_cases e : y = 480 + k
    · rw [ud_eq e, e]
      unfold startK
      rw [e28, if_pos ⟨by omega, by omega, c.1, c.2⟩]
    · rw [ud_ne e]
      unfold startK
      by_cases z : 480 ≤ y ∧ y < 480 + k ∧ G y = 1 ∧ G (y + 28) = G 0
      · rw [if_pos z, if_pos ⟨z.1, by omega, z.2.2⟩]
      · rw [if_neg z, if_neg (fun hz => z ⟨hz.1, by omega, hz.2.2⟩)]
  · rw [if_neg c]
    funext y
    unfold startK
    by_cases z : 480 ≤ y ∧ y < 480 + k ∧ G y = 1 ∧ G (y + 28) = G 0
    · rw [if_pos z, if_pos ⟨z.1, by omega, z.2.2⟩]
    · rw [if_neg z, if_neg]
      intro hz
      by_cases e : y = 480 + k
      · rw [e, e28] at hz; exact c hz.2.2
      · exact z ⟨hz.1, by omega, hz.2.2⟩
theorem doneK_succ {G : Int → Int} {k : Int} (k0 : 0 ≤ k) : doneK G (k + 1) = if G (480 + k) = 2 ∧ G (508 + k) + G (424 + k) = G 0 + 1 then ud (doneK G k) (480 + k) 3 else doneK G k := by
  have e28 : 480 + k + 28 = 508 + k := by omega
  have e56 : 480 + k - 56 = 424 + k := by omega
  by_cases c : G (480 + k) = 2 ∧ G (508 + k) + G (424 + k) = G 0 + 1
  · rw [if_pos c]
    funext y
    by_cases e : y = 480 + k
    · rw [ud_eq e, e]
      unfold doneK
      rw [e28, e56, if_pos ⟨by omega, by omega, c.1, c.2⟩]
    · rw [ud_ne e]
      unfold doneK
      by_cases z : 480 ≤ y ∧ y < 480 + k ∧ G y = 2 ∧ G (y + 28) + G (y - 56) = G 0 + 1
      · rw [if_pos z, if_pos ⟨z.1, by omega, z.2.2⟩]
      · rw [if_neg z, if_neg (fun hz => z ⟨hz.1, by omega, hz.2.2⟩)]
  · rw [if_neg c]
    funext y
    unfold doneK
    by_cases z : 480 ≤ y ∧ y < 480 + k ∧ G y = 2 ∧ G (y + 28) + G (y - 56) = G 0 + 1
    · rw [if_pos z, if_pos ⟨z.1, by omega, z.2.2⟩]
    · rw [if_neg z, if_neg]
      intro hz
      by_cases e : y = 480 + k
      · rw [e, e28, e56] at hz; exact c hz.2.2
      · exact z ⟨hz.1, by omega, hz.2.2⟩
theorem startK_f {G : Int → Int} {k y : Int} (h : y < 480 ∨ 480 + k ≤ y) : startK G k y = G y := by unfold startK; rw [if_neg (by omega)]
theorem doneK_f {G : Int → Int} {k y : Int} (h : y < 480 ∨ 480 + k ≤ y) : doneK G k y = G y := by unfold doneK; rw [if_neg (by omega)]
theorem WFR.start {G : Int → Int} (wr : WFR G) {k : Int} (k1 : k ≤ 14) : WFR (startK G k) := by
  have key : ∀ r ∈ RT, (r.2.1 ≤ 480 ∨ 494 ≤ r.1) ∨ r = (480, 494, 0, 4) := by decide
  intro r hr j j0 j1
  unfold startK
  split
  · rename_i z
    rcases key r hr with q | q
    · omega
    · rw [q]; show (0 : Int) ≤ 2 ∧ (2 : Int) ≤ 4; omega
  · exact wr r hr j j0 j1
theorem WFR.done {G : Int → Int} (wr : WFR G) {k : Int} (k1 : k ≤ 14) : WFR (doneK G k) := by
  have key : ∀ r ∈ RT, (r.2.1 ≤ 480 ∨ 494 ≤ r.1) ∨ r = (480, 494, 0, 4) := by decide
  intro r hr j j0 j1
  unfold doneK
  split
  · rename_i z
    rcases key r hr with q | q
    · omega
    · rw [q]; show (0 : Int) ≤ 3 ∧ (3 : Int) ≤ 4; omega
  · exact wr r hr j j0 j1
theorem k_start {sh : Int × (Int → Nat × Int)} {h : Int → Int → Int} {w : Int} {G : Int → Int} (hs : Sh sh) (iw : isW w) (wr : WFR G) (cw : CW h h w G) : ∃ h', q_Cc 99 [(20, w)] (sh, h) = some ((9, 0), (sh, h')) ∧ CW h h' w (startK G (G 3)) := by
  have u3 := wr.na
  have w0 := iw.b
  rw [c_X10_startAskings, e_X10_startAskings_0]
  refine lp (fun i (g : Int → Int → Int) => q_L 99 2 [(20, w), (0, i)] [] (sh, g)) (fun i g => CW h g w (startK G i)) (fun r => ∃ h', r = some ((9, 0), (sh, h')) ∧ CW h h' w (startK G (G 3))) (G 3) ?_ ?_ 0 h (by omega) u3.1 (by rw [startK_zero]; exact cw)
  · intro i g i0 i1 hI
    have wk := wr.start (k := i) (by omega)
    have hr := hI.1
    have hp := hI.2.1
    have s0 : startK G i 0 = G 0 := startK_f (by omega)
    have s3 : startK G i 3 = G 3 := startK_f (by omega)
    have sa : startK G i (480 + i) = G (480 + i) := startK_f (by omega)
    have sb : startK G i (508 + i) = G (508 + i) := startK_f (by omega)
    have f0 := hr.hour wk; have f3 := hr.na wk
    have fa := hr.astate wk i i0 (by rw [s3]; exact i1)
    have fb := hr.abegin wk i i0 (by rw [s3]; exact i1)
    rw [s0] at f0; rw [s3] at f3; rw [sa] at fa; rw [sb] at fb
    left
    show ∃ y, q_L 99 2 [(20, w), (0, i)] [] (sh, g) = q_L 99 2 [(20, w), (0, i + 1)] [] (sh, y) ∧ CW h y w (startK G (i + 1))
    have ss := startK_succ (G := G) i0
    by_cases c1 : G (480 + i) = 1
    · by_cases c2 : G (508 + i) = G 0
      · rw [if_pos ⟨c1, c2⟩] at ss
        rw [ss]
        refine ⟨q_up g (w + 133 + i) 6 2, ?_, hI.set wk iw (lo_astate i0 (by omega)) (by omega) (pn_ask iw i0 (by omega)) (by omega)⟩
        rw [e_X10_startAskings_2]
        simp (disch := omega) only [q_470, q_up_far, q_row_row, q_row_self, q_row_ne, q_up_ne, q_up_eq, q_rowup, ud_eq, ud_ne, q_add_id, q_sub_id, q_mul_id, q_w_eq, q_rem_n, q_div_n, ↓reduceIte, leT, leF, ltT, ltF, eqT, eqF, true_or, or_true, false_or, or_false, true_and, and_true, false_and, and_false, or_self, and_self, Option.bind_some, f0, f3, fa, fb, hp.w7 iw, hp.ask iw, hs.asks iw, e_X10_startAskings_49]
      · rw [if_neg (fun hz => c2 hz.2)] at ss
        rw [ss]
        refine ⟨g, ?_, hI⟩
        rw [e_X10_startAskings_2]
        simp (disch := omega) only [q_470, q_up_far, q_row_row, q_row_self, q_row_ne, q_up_ne, q_up_eq, q_rowup, ud_eq, ud_ne, q_add_id, q_sub_id, q_mul_id, q_w_eq, q_rem_n, q_div_n, ↓reduceIte, leT, leF, ltT, ltF, eqT, eqF, true_or, or_true, false_or, or_false, true_and, and_true, false_and, and_false, or_self, and_self, Option.bind_some, f0, f3, fa, fb, hp.w7 iw, hp.ask iw, hs.asks iw, e_X10_startAskings_49]
    · rw [if_neg (fun hz => c1 hz.1)] at ss
      rw [ss]
      refine ⟨g, ?_, hI⟩
      rw [e_X10_startAskings_2]
      simp (disch := omega) only [q_470, q_up_far, q_row_row, q_row_self, q_row_ne, q_up_ne, q_up_eq, q_rowup, ud_eq, ud_ne, q_add_id, q_sub_id, q_mul_id, q_w_eq, q_rem_n, q_div_n, ↓reduceIte, leT, leF, ltT, ltF, eqT, eqF, true_or, or_true, false_or, or_false, true_and, and_true, false_and, and_false, or_self, and_self, Option.bind_some, f0, f3, fa, fb, hp.w7 iw, hp.ask iw, hs.asks iw, e_X10_startAskings_49]
  · intro g hI
    have wk := wr.start (k := G 3) (by omega)
    have f3 := hI.1.na wk
    rw [startK_f (by omega)] at f3
    refine ⟨g, ?_, hI⟩
    show q_L 99 2 _ _ _ = _
    rw [e_X10_startAskings_2]
    simp (disch := omega) only [q_470, q_up_far, q_row_row, q_row_self, q_row_ne, q_up_ne, q_up_eq, q_rowup, ud_eq, ud_ne, q_add_id, q_sub_id, q_mul_id, q_w_eq, q_rem_n, q_div_n, ↓reduceIte, leT, leF, ltT, ltF, eqT, eqF, true_or, or_true, false_or, or_false, true_and, and_true, false_and, and_false, or_self, and_self, Option.bind_some, f3]
theorem k_finish {sh : Int × (Int → Nat × Int)} {h h0 : Int → Int → Int} {w : Int} {G : Int → Int} (hs : Sh sh) (iw : isW w) (wr : WFR G) (wa : ∀ a, 0 ≤ a → a < G 3 → G (480 + a) = 2 → G 0 < G (508 + a) + G (424 + a)) (cw : CW h0 h w G) : ∃ h', q_Cc 101 [(20, w)] (sh, h) = some ((9, 0), (sh, h')) ∧ CW h0 h' w (doneK G (G 3)) := by
  have u3 := wr.na
  have u0 := wr.hour
  have w0 := iw.b
  rw [c_X10_finishAskings, e_X10_finishAskings_0]
  refine lp (fun i (g : Int → Int → Int) => q_L 101 2 [(20, w), (0, i)] [] (sh, g)) (fun i g => CW h0 g w (doneK G i)) (fun r => ∃ h', r = some ((9, 0), (sh, h')) ∧ CW h0 h' w (doneK G (G 3))) (G 3) ?_ ?_ 0 h (by omega) u3.1 (by rw [doneK_zero]; exact cw)
  · intro i g i0 i1 hI
    have wk := wr.done (k := i) (by omega)
    have hr := hI.1
    have hp := hI.2.1
    have s0 : doneK G i 0 = G 0 := doneK_f (by omega)
    have s3 : doneK G i 3 = G 3 := doneK_f (by omega)
    have sa : doneK G i (480 + i) = G (480 + i) := doneK_f (by omega)
    have sb : doneK G i (508 + i) = G (508 + i) := doneK_f (by omega)
    have sc : doneK G i (424 + i) = G (424 + i) := doneK_f (by omega)
    have f0 := hr.hour wk; have f3 := hr.na wk
    have fa := hr.astate wk i i0 (by rw [s3]; exact i1)
    have fb := hr.abegin wk i i0 (by rw [s3]; exact i1)
    have fc := hr.an wk i i0 (by rw [s3]; exact i1)
    have rb := wr.abegin (d := i) i0 (by omega)
    have rn := wr.an (d := i) i0 (by omega)
    rw [s0] at f0; rw [s3] at f3; rw [sa] at fa; rw [sb] at fb; rw [sc] at fc
    left
    show ∃ y, q_L 101 2 [(20, w), (0, i)] [] (sh, g) = q_L 101 2 [(20, w), (0, i + 1)] [] (sh, y) ∧ CW h0 y w (doneK G (i + 1))
    have ss := doneK_succ (G := G) i0
    by_cases c1 : G (480 + i) = 2
    · have wi := wa i i0 i1 c1
      by_cases c2 : G (508 + i) + G (424 + i) = G 0 + 1
      · rw [if_pos ⟨c1, c2⟩] at ss
        rw [ss]
        refine ⟨q_up g (w + 133 + i) 6 3, ?_, hI.set wk iw (lo_astate i0 (by omega)) (by omega) (pn_ask iw i0 (by omega)) (by omega)⟩
        rw [e_X10_finishAskings_2]
        simp (disch := omega) only [q_470, q_up_far, q_row_row, q_row_self, q_row_ne, q_up_ne, q_up_eq, q_rowup, ud_eq, ud_ne, q_add_id, q_sub_id, q_mul_id, q_w_eq, q_rem_n, q_div_n, ↓reduceIte, leT, leF, ltT, ltF, eqT, eqF, true_or, or_true, false_or, or_false, true_and, and_true, false_and, and_false, or_self, and_self, Option.bind_some, f0, f3, fa, fb, fc, hp.w7 iw, hp.ask iw, hs.asks iw, c_X0_end, e_X0_end_0, e_X10_finishAskings_32, e_X10_finishAskings_51]
      · rw [if_neg (fun hz => c2 hz.2)] at ss
        rw [ss]
        refine ⟨g, ?_, hI⟩
        rw [e_X10_finishAskings_2]
        simp (disch := omega) only [q_470, q_up_far, q_row_row, q_row_self, q_row_ne, q_up_ne, q_up_eq, q_rowup, ud_eq, ud_ne, q_add_id, q_sub_id, q_mul_id, q_w_eq, q_rem_n, q_div_n, ↓reduceIte, leT, leF, ltT, ltF, eqT, eqF, true_or, or_true, false_or, or_false, true_and, and_true, false_and, and_false, or_self, and_self, Option.bind_some, f0, f3, fa, fb, fc, hp.w7 iw, hp.ask iw, hs.asks iw, c_X0_end, e_X0_end_0, e_X10_finishAskings_32, e_X10_finishAskings_51]
    · rw [if_neg (fun hz => c1 hz.1)] at ss
      rw [ss]
      refine ⟨g, ?_, hI⟩
      rw [e_X10_finishAskings_2]
      simp (disch := omega) only [q_470, q_up_far, q_row_row, q_row_self, q_row_ne, q_up_ne, q_up_eq, q_rowup, ud_eq, ud_ne, q_add_id, q_sub_id, q_mul_id, q_w_eq, q_rem_n, q_div_n, ↓reduceIte, leT, leF, ltT, ltF, eqT, eqF, true_or, or_true, false_or, or_false, true_and, and_true, false_and, and_false, or_self, and_self, Option.bind_some, f0, f3, fa, fb, fc, hp.w7 iw, hp.ask iw, hs.asks iw, e_X10_finishAskings_51]
  · intro g hI
    have wk := wr.done (k := G 3) (by omega)
    have f3 := hI.1.na wk
    rw [doneK_f (by omega)] at f3
    refine ⟨g, ?_, hI⟩
    show q_L 101 2 _ _ _ = _
    rw [e_X10_finishAskings_2]
    simp (disch := omega) only [q_470, q_up_far, q_row_row, q_row_self, q_row_ne, q_up_ne, q_up_eq, q_rowup, ud_eq, ud_ne, q_add_id, q_sub_id, q_mul_id, q_w_eq, q_rem_n, q_div_n, ↓reduceIte, leT, leF, ltT, ltF, eqT, eqF, true_or, or_true, false_or, or_false, true_and, and_true, false_and, and_false, or_self, and_self, Option.bind_some, f3]
theorem r_start {sh : Int × (Int → Nat × Int)} {h : Int → Int → Int} {G : Int → Int} (e0 : h 469 0 = 470) (l : (sh.2 470).2 = 1354) (wr : WFR G) : q_L 226 2 [(22, 469), (0, 0), (9, 0), (9, 0), (9, 0), (9, 0)] [] (sh, q_row h 470 G) = q_L 226 2 [(22, 469), (0, G 3), (9, 0), (9, 0), (9, 0), (9, 0)] [] (sh, q_row h 470 (startK G (G 3))) := by
  have u3 := wr.na
  have := lp (fun i (F : Int → Int) => q_L 226 2 [(22, 469), (0, i), (9, 0), (9, 0), (9, 0), (9, 0)] [] (sh, q_row h 470 F)) (fun i F => F = startK G i) (fun r => r = q_L 226 2 [(22, 469), (0, G 3), (9, 0), (9, 0), (9, 0), (9, 0)] [] (sh, q_row h 470 (startK G (G 3)))) (G 3) ?_ ?_ 0 G (by omega) u3.1 (startK_zero G).symm
  · exact this
  · intro i F i0 i1 hF
    subst hF
    have s0 : startK G i 0 = G 0 := startK_f (by omega)
    have s3 : startK G i 3 = G 3 := startK_f (by omega)
    have sa : startK G i (480 + i) = G (480 + i) := startK_f (by omega)
    have sb : startK G i (508 + i) = G (508 + i) := startK_f (by omega)
    left
    show ∃ y, q_L 226 2 [(22, 469), (0, i), (9, 0), (9, 0), (9, 0), (9, 0)] [] (sh, q_row h 470 (startK G i)) = q_L 226 2 [(22, 469), (0, i + 1), (9, 0), (9, 0), (9, 0), (9, 0)] [] (sh, q_row h 470 y) ∧ y = startK G (i + 1)
    have ss := startK_succ (G := G) i0
    by_cases c1 : G (480 + i) = 1
    · by_cases c2 : G (508 + i) = G 0
      · rw [if_pos ⟨c1, c2⟩] at ss
        rw [ss]
        refine ⟨_, ?_, rfl⟩
        rw [e_X12_goes_2]
        simp (disch := omega) only [q_470, q_up_far, q_row_row, q_row_self, q_row_ne, q_up_ne, q_up_eq, q_rowup, ud_eq, ud_ne, q_add_id, q_sub_id, q_mul_id, q_w_eq, q_rem_n, q_div_n, ↓reduceIte, leT, leF, ltT, ltF, eqT, eqF, true_or, or_true, false_or, or_false, true_and, and_true, false_and, and_false, or_self, and_self, Option.bind_some, e0, l, s0, s3, sa, sb, e_X12_goes_58, e_X12_goes_68]
      · rw [if_neg (fun hz => c2 hz.2)] at ss
        rw [ss]
        refine ⟨_, ?_, rfl⟩
        rw [e_X12_goes_2]
        simp (disch := omega) only [q_470, q_up_far, q_row_row, q_row_self, q_row_ne, q_up_ne, q_up_eq, q_rowup, ud_eq, ud_ne, q_add_id, q_sub_id, q_mul_id, q_w_eq, q_rem_n, q_div_n, ↓reduceIte, leT, leF, ltT, ltF, eqT, eqF, true_or, or_true, false_or, or_false, true_and, and_true, false_and, and_false, or_self, and_self, Option.bind_some, e0, l, s0, s3, sa, sb, e_X12_goes_58, e_X12_goes_68, ud_id sa]
    · rw [if_neg (fun hz => c1 hz.1)] at ss
      rw [ss]
      refine ⟨_, ?_, rfl⟩
      rw [e_X12_goes_2]
      simp (disch := omega) only [q_470, q_up_far, q_row_row, q_row_self, q_row_ne, q_up_ne, q_up_eq, q_rowup, ud_eq, ud_ne, q_add_id, q_sub_id, q_mul_id, q_w_eq, q_rem_n, q_div_n, ↓reduceIte, leT, leF, ltT, ltF, eqT, eqF, true_or, or_true, false_or, or_false, true_and, and_true, false_and, and_false, or_self, and_self, Option.bind_some, e0, l, s0, s3, sa, sb, e_X12_goes_58, e_X12_goes_68, ud_id sa]
  · intro F hF
    rw [hF]
theorem r_finish {sh : Int × (Int → Nat × Int)} {h : Int → Int → Int} {G : Int → Int} {a1 a2 : Int} {x4 x5 : q_V} (e0 : h 469 0 = 470) (l : (sh.2 470).2 = 1354) (wr : WFR G) : q_L 226 235 [(22, 469), (0, a1), (0, a2), (0, 0), x4, x5] [] (sh, q_row h 470 G) = q_L 226 235 [(22, 469), (0, a1), (0, a2), (0, G 3), x4, x5] [] (sh, q_row h 470 (doneK G (G 3))) := by
  have u3 := wr.na
  have u0 := wr.hour
  have := lp (fun i (F : Int → Int) => q_L 226 235 [(22, 469), (0, a1), (0, a2), (0, i), x4, x5] [] (sh, q_row h 470 F)) (fun i F => F = doneK G i) (fun r => r = q_L 226 235 [(22, 469), (0, a1), (0, a2), (0, G 3), x4, x5] [] (sh, q_row h 470 (doneK G (G 3)))) (G 3) ?_ ?_ 0 G (by omega) u3.1 (doneK_zero G).symm
  · exact this
  · intro i F i0 i1 hF
    subst hF
    have s0 : doneK G i 0 = G 0 := doneK_f (by omega)
    have s3 : doneK G i 3 = G 3 := doneK_f (by omega)
    have sa : doneK G i (480 + i) = G (480 + i) := doneK_f (by omega)
    have sb : doneK G i (508 + i) = G (508 + i) := doneK_f (by omega)
    have sc : doneK G i (424 + i) = G (424 + i) := doneK_f (by omega)
    have rb := wr.abegin (d := i) i0 (by omega)
    have rn := wr.an (d := i) i0 (by omega)
    left
    show ∃ y, q_L 226 235 [(22, 469), (0, a1), (0, a2), (0, i), x4, x5] [] (sh, q_row h 470 (doneK G i)) = q_L 226 235 [(22, 469), (0, a1), (0, a2), (0, i + 1), x4, x5] [] (sh, q_row h 470 y) ∧ y = doneK G (i + 1)
    have ss := doneK_succ (G := G) i0
    by_cases c1 : G (480 + i) = 2
    · by_cases c2 : G (508 + i) + G (424 + i) = G 0 + 1
      · rw [if_pos ⟨c1, c2⟩] at ss
        rw [ss]
        refine ⟨_, ?_, rfl⟩
        rw [e_X12_goes_235]
        simp (disch := omega) only [q_470, q_up_far, q_row_row, q_row_self, q_row_ne, q_up_ne, q_up_eq, q_rowup, ud_eq, ud_ne, q_add_id, q_sub_id, q_mul_id, q_w_eq, q_rem_n, q_div_n, ↓reduceIte, leT, leF, ltT, ltF, eqT, eqF, true_or, or_true, false_or, or_false, true_and, and_true, false_and, and_false, or_self, and_self, Option.bind_some, e0, l, s0, s3, sa, sb, sc, e_X12_goes_304, e_X12_goes_314]
      · rw [if_neg (fun hz => c2 hz.2)] at ss
        rw [ss]
        refine ⟨_, ?_, rfl⟩
        rw [e_X12_goes_235]
        simp (disch := omega) only [q_470, q_up_far, q_row_row, q_row_self, q_row_ne, q_up_ne, q_up_eq, q_rowup, ud_eq, ud_ne, q_add_id, q_sub_id, q_mul_id, q_w_eq, q_rem_n, q_div_n, ↓reduceIte, leT, leF, ltT, ltF, eqT, eqF, true_or, or_true, false_or, or_false, true_and, and_true, false_and, and_false, or_self, and_self, Option.bind_some, e0, l, s0, s3, sa, sb, sc, e_X12_goes_304, e_X12_goes_314, ud_id sa]
    · rw [if_neg (fun hz => c1 hz.1)] at ss
      rw [ss]
      refine ⟨_, ?_, rfl⟩
      rw [e_X12_goes_235]
      simp (disch := omega) only [q_470, q_up_far, q_row_row, q_row_self, q_row_ne, q_up_ne, q_up_eq, q_rowup, ud_eq, ud_ne, q_add_id, q_sub_id, q_mul_id, q_w_eq, q_rem_n, q_div_n, ↓reduceIte, leT, leF, ltT, ltF, eqT, eqF, true_or, or_true, false_or, or_false, true_and, and_true, false_and, and_false, or_self, and_self, Option.bind_some, e0, l, s0, s3, sa, sb, sc, e_X12_goes_304, e_X12_goes_314, ud_id sa]
  · intro F hF
    rw [hF]
