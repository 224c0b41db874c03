/-! the class's reader: the next piece -/
/-- the tape -/
def TX (h : Int → Int → Int) (b : Int → Int) (L : Int) : Prop := h 452 0 = 453 ∧ h 452 1 = L ∧ 0 ≤ L ∧ L ≤ 110 ∧ ∀ i, 0 ≤ i → i < L → h 453 i = b i ∧ 0 ≤ b i ∧ b i ≤ 255
def FN (h h' : Int → Int → Int) : Prop := ∀ x y, ¬ (x = 452 ∧ 4 ≤ y ∧ y ≤ 7) → h' x y = h x y
theorem FN.refl (h : Int → Int → Int) : FN h h := fun _ _ _ => rfl
theorem FN.trans {h h' h'' : Int → Int → Int} (a : FN h h') (b : FN h' h'') : FN h h'' := fun x y hn => (b x y hn).trans (a x y hn)
theorem FN.up {h : Int → Int → Int} {y v : Int} (y0 : 4 ≤ y) (y1 : y ≤ 7) : FN h (q_up h 452 y v) := fun a b hn => by rw [q_up_ne (by omega)]
theorem TX.fn {h h' : Int → Int → Int} {b : Int → Int} {L : Int} (t : TX h b L) (f : FN h h') : TX h' b L := by
  refine ⟨by rw [f 452 0 (by omega)]; exact t.1, by rw [f 452 1 (by omega)]; exact t.2.1, t.2.2.1, t.2.2.2.1, fun i i0 i1 => ?_⟩
  rw [f 453 i (by omega)]; exact t.2.2.2.2 i i0 i1
theorem pLt_i {b : Int → Int} {L k : Int} (h : k < L) : pLt b L k = true ↔ (97 ≤ b k ∧ b k ≤ 122) := by
  unfold pLt bt
  rw [if_pos h]; simp
theorem pDg_i {b : Int → Int} {L k : Int} (h : k < L) : pDg b L k = true ↔ (48 ≤ b k ∧ b k ≤ 57) := by
  unfold pDg bt
  rw [if_pos h]; simp
theorem pSp_i {b : Int → Int} {L k : Int} (h : k < L) : pSp b L k = true ↔ b k = 32 := by
  unfold pSp bt
  rw [if_pos h]; simp
theorem bool_f {x : Bool} (h : ¬ x = true) : x = false := by simpa using h
theorem k_isLetter {sh : Int × (Int → Nat × Int)} {h : Int → Int → Int} {b : Int → Int} {L k : Int} (hs : Sh sh) (t : TX h b L) (k0 : 0 ≤ k) (k1 : k < L) : q_Cc 87 [(19, 452), (0, k)] (sh, h) = some ((0, if pLt b L k = true then 1 else 0), (sh, h)) := by
  obtain ⟨t0, t1, l0, l1, tb⟩ := t
  have e := (tb k k0 k1).1
  have i := pLt_i (b := b) k1
  by_cases z : 97 ≤ b k ∧ b k ≤ 122
  · rw [if_pos (i.mpr z)]
    simp (disch := omega) only [q_470, q_up_far, q_row_row, q_row_self, q_row_ne, q_up_ne, q_up_eq, q_rowup, ud_eq, ud_ne, q_add_id, q_sub_id, q_mul_id, q_w_eq, q_rem_n, q_div_n, ↓reduceIte, leT, leF, ltT, ltF, eqT, eqF, true_or, or_true, false_or, or_false, true_and, and_true, false_and, and_false, or_self, and_self, Option.bind_some, t0, e, hs.k453, c_X9_isLetter, e_X9_isLetter_0, e_X9_isLetter_26, e_X9_isLetter_27]
  · rw [if_neg (fun q => z (i.mp q))]
    by_cases z2 : b k < 97 <;> simp (disch := omega) only [q_470, q_up_far, q_row_row, q_row_self, q_row_ne, q_up_ne, q_up_eq, q_rowup, ud_eq, ud_ne, q_add_id, q_sub_id, q_mul_id, q_w_eq, q_rem_n, q_div_n, ↓reduceIte, leT, leF, ltT, ltF, eqT, eqF, true_or, or_true, false_or, or_false, true_and, and_true, false_and, and_false, or_self, and_self, Option.bind_some, t0, e, hs.k453, c_X9_isLetter, e_X9_isLetter_0, e_X9_isLetter_26, e_X9_isLetter_27]
theorem k_isDigit {sh : Int × (Int → Nat × Int)} {h : Int → Int → Int} {b : Int → Int} {L k : Int} (hs : Sh sh) (t : TX h b L) (k0 : 0 ≤ k) (k1 : k < L) : q_Cc 88 [(19, 452), (0, k)] (sh, h) = some ((0, if pDg b L k = true then 1 else 0), (sh, h)) := by
  obtain ⟨t0, t1, l0, l1, tb⟩ := t
  have e := (tb k k0 k1).1
  have i := pDg_i (b := b) k1
  by_cases z : 48 ≤ b k ∧ b k ≤ 57
  · rw [if_pos (i.mpr z)]
    simp (disch := omega) only [q_470, q_up_far, q_row_row, q_row_self, q_row_ne, q_up_ne, q_up_eq, q_rowup, ud_eq, ud_ne, q_add_id, q_sub_id, q_mul_id, q_w_eq, q_rem_n, q_div_n, ↓reduceIte, leT, leF, ltT, ltF, eqT, eqF, true_or, or_true, false_or, or_false, true_and, and_true, false_and, and_false, or_self, and_self, Option.bind_some, t0, e, hs.k453, c_X9_isDigit, e_X9_isDigit_0, e_X9_isDigit_26, e_X9_isDigit_27]
  · rw [if_neg (fun q => z (i.mp q))]
    by_cases z2 : b k < 48 <;> simp (disch := omega) only [q_470, q_up_far, q_row_row, q_row_self, q_row_ne, q_up_ne, q_up_eq, q_rowup, ud_eq, ud_ne, q_add_id, q_sub_id, q_mul_id, q_w_eq, q_rem_n, q_div_n, ↓reduceIte, leT, leF, ltT, ltF, eqT, eqF, true_or, or_true, false_or, or_false, true_and, and_true, false_and, and_false, or_self, and_self, Option.bind_some, t0, e, hs.k453, c_X9_isDigit, e_X9_isDigit_0, e_X9_isDigit_26, e_X9_isDigit_27]
theorem k_word {sh : Int × (Int → Nat × Int)} {h : Int → Int → Int} {b : Int → Int} {L g e V : Int} (hs : Sh sh) (t : TX h b L) (g0 : 0 ≤ g) (r : Rn (pLt b L) L g e) (w : WD b L g e V) : q_Cc 86 [(19, 452), (0, g), (0, e)] (sh, h) = some ((0, V), (sh, h)) := by
  obtain ⟨t0, t1, l0, l1, tb⟩ := t
  obtain ⟨ge, eL, rl, -⟩ := r
  have let_ : ∀ k, 0 ≤ k → k < e - g → lcW b L g e k = b (g + k) ∧ 97 ≤ b (g + k) := by
    intro k k0 k1
    have q := (pLt_i (b := b) (L := L) (k := g + k) (by omega)).mp (rl (g + k) (by omega) (by omega))
    unfold lcW bt
    rw [if_pos k1, if_pos (by omega)]
    exact ⟨rfl, q.1⟩
  rw [c_X9_wordBetween, e_X9_wordBetween_0]
  refine lp (fun v (x7 : q_V) => q_L 86 11 [(19, 452), (0, g), (0, e), (0, v), (0, g), (0, 1), (0, stW v), x7] [] (sh, h)) (fun v _ => ∀ u, 0 ≤ u → u < v → ¬ mtW b L g e u) (fun z => z = some ((0, V), (sh, h))) 12 ?_ ?_ 0 (9, 0) (by omega) (by omega) (fun u a c => by omega)
  · intro v x7 v0 v1 hI
    obtain ⟨⟨s1, s2, s3, s4, s5⟩, wk⟩ := words v0 v1
    have := lp (fun k (y : Int × q_V) => q_L 86 11 [(19, 452), (0, g), (0, e), (0, v), (0, g + k), (0, y.1), (0, stW v + k), y.2] [] (sh, h)) (fun k y => (y.1 = 1 ∧ ∀ x, 0 ≤ x → x < k → x < e - g ∧ b (g + x) = wl (6 * v + x)) ∨ (y.1 = 0 ∧ ¬ mtW b L g e v)) (fun z => (∃ x7, z = q_L 86 11 [(19, 452), (0, g), (0, e), (0, v + 1), (0, g), (0, 1), (0, stW (v + 1)), x7] [] (sh, h) ∧ ¬ mtW b L g e v) ∨ z = some ((0, V), (sh, h))) (lnW v) ?_ ?_ 0 (1, x7) (by omega) (by omega) (Or.inl ⟨rfl, fun x a c => by omega⟩)
    · have this : (∃ x7', q_L 86 11 [(19, 452), (0, g), (0, e), (0, v), (0, g + 0), (0, 1), (0, stW v + 0), x7] [] (sh, h) = q_L 86 11 [(19, 452), (0, g), (0, e), (0, v + 1), (0, g), (0, 1), (0, stW (v + 1)), x7'] [] (sh, h) ∧ ¬ mtW b L g e v) ∨ q_L 86 11 [(19, 452), (0, g), (0, e), (0, v), (0, g + 0), (0, 1), (0, stW v + 0), x7] [] (sh, h) = some ((0, V), (sh, h)) := this
      rw [Int.add_zero, Int.add_zero] at this
      rcases this with ⟨x, q1, q2⟩ | q
      · refine Or.inl ⟨x, q1, fun u u0 u1 => ?_⟩
        by_cases eu : u = v
        · rw [eu]; exact q2
        · exact hI u u0 (by omega)
      · exact Or.inr q
    · intro k y k0 k1 hk
      obtain ⟨sm, x⟩ := y
      have wkk := (wk k k0 (by omega)).1 k1
      obtain ⟨c1, c2, c3⟩ := wkk
      have ek : g + (k + 1) = g + k + 1 := by omega
      have ek2 : stW v + (k + 1) = stW v + k + 1 := by omega
      have bnd : stW v + k < 56 := by
        have : v = 0 ∨ v = 1 ∨ v = 2 ∨ v = 3 ∨ v = 4 ∨ v = 5 ∨ v = 6 ∨ v = 7 ∨ v = 8 ∨ v = 9 ∨ v = 10 ∨ v = 11 := by omega
        rcases this with q | q | q | q | q | q | q | q | q | q | q | q <;> subst q <;> simp [stW, lnW] at k1 ⊢ <;> omega
      left
      show ∃ y : Int × q_V, q_L 86 11 [(19, 452), (0, g), (0, e), (0, v), (0, g + k), (0, sm), (0, stW v + k), x] [] (sh, h) = q_L 86 11 [(19, 452), (0, g), (0, e), (0, v), (0, g + (k + 1)), (0, y.1), (0, stW v + (k + 1)), y.2] [] (sh, h) ∧ ((y.1 = 1 ∧ ∀ x, 0 ≤ x → x < k + 1 → x < e - g ∧ b (g + x) = wl (6 * v + x)) ∨ (y.1 = 0 ∧ ¬ mtW b L g e v))
      rw [ek, ek2, e_X9_wordBetween_11]
      obtain ⟨cc, ecc⟩ : ∃ cc, q_tc (stW v + k) = cc := ⟨_, rfl⟩
      rw [ecc] at c1 c2 ⊢
      rcases hk with ⟨e1, hx⟩ | ⟨e1, hx⟩
      · have e1 : sm = 1 := e1
        subst e1
        by_cases z : k < e - g ∧ b (g + k) = cc
        · have be := (tb (g + k) (by omega) (by omega)).1
          refine ⟨(1, (0, cc)), ?_, Or.inl ⟨rfl, fun x x0 x1 => ?_⟩⟩
          · have z2 := z.2
            simp (disch := omega) only [q_470, q_up_far, q_row_row, q_row_self, q_row_ne, q_up_ne, q_up_eq, q_rowup, ud_eq, ud_ne, q_add_id, q_sub_id, q_mul_id, q_w_eq, q_rem_n, q_div_n, ↓reduceIte, leT, leF, ltT, ltF, eqT, eqF, true_or, or_true, false_or, or_false, true_and, and_true, false_and, and_false, or_self, and_self, Option.bind_some, t0, be, z2, hs.k453, e_X9_wordBetween_64, e_X9_wordBetween_65, e_X9_wordBetween_95]
          · by_cases ex : x = k
            · rw [ex, ← c1]; exact z
            · exact hx x x0 (by omega)
        · refine ⟨(0, (0, cc)), ?_, Or.inr ⟨rfl, fun m => z ?_⟩⟩
          · by_cases z1 : k < e - g
            · have be := (tb (g + k) (by omega) (by omega)).1
              have z2 : ¬ b (g + k) = cc := fun q => z ⟨z1, q⟩
              simp (disch := omega) only [q_470, q_up_far, q_row_row, q_row_self, q_row_ne, q_up_ne, q_up_eq, q_rowup, ud_eq, ud_ne, q_add_id, q_sub_id, q_mul_id, q_w_eq, q_rem_n, q_div_n, ↓reduceIte, leT, leF, ltT, ltF, eqT, eqF, true_or, or_true, false_or, or_false, true_and, and_true, false_and, and_false, or_self, and_self, Option.bind_some, t0, be, hs.k453, e_X9_wordBetween_64, e_X9_wordBetween_65, e_X9_wordBetween_95]
            · simp (disch := omega) only [q_470, q_up_far, q_row_row, q_row_self, q_row_ne, q_up_ne, q_up_eq, q_rowup, ud_eq, ud_ne, q_add_id, q_sub_id, q_mul_id, q_w_eq, q_rem_n, q_div_n, ↓reduceIte, leT, leF, ltT, ltF, eqT, eqF, true_or, or_true, false_or, or_false, true_and, and_true, false_and, and_false, or_self, and_self, Option.bind_some, e_X9_wordBetween_64, e_X9_wordBetween_65, e_X9_wordBetween_95]
          · have mk := mtW_get m k k0 (by omega)
            by_cases z1 : k < e - g
            · rw [(let_ k k0 z1).1, ← c1] at mk
              exact ⟨z1, mk.symm⟩
            · unfold lcW at mk
              rw [if_neg z1] at mk
              exact (c3 mk).elim
      · have e1 : sm = 0 := e1
        subst e1
        refine ⟨(0, (0, cc)), ?_, Or.inr ⟨rfl, hx⟩⟩
        simp (disch := omega) only [q_470, q_up_far, q_row_row, q_row_self, q_row_ne, q_up_ne, q_up_eq, q_rowup, ud_eq, ud_ne, q_add_id, q_sub_id, q_mul_id, q_w_eq, q_rem_n, q_div_n, ↓reduceIte, leT, leF, ltT, ltF, eqT, eqF, true_or, or_true, false_or, or_false, true_and, and_true, false_and, and_false, or_self, and_self, Option.bind_some, e_X9_wordBetween_64, e_X9_wordBetween_65, e_X9_wordBetween_95]
    · intro y hk
      obtain ⟨sm, x⟩ := y
      have bnd : stW v + lnW v < 56 := by
        have : v = 0 ∨ v = 1 ∨ v = 2 ∨ v = 3 ∨ v = 4 ∨ v = 5 ∨ v = 6 ∨ v = 7 ∨ v = 8 ∨ v = 9 ∨ v = 10 ∨ v = 11 := by omega
        rcases this with q | q | q | q | q | q | q | q | q | q | q | q <;> subst q <;> decide
      show (∃ x7, q_L 86 11 [(19, 452), (0, g), (0, e), (0, v), (0, g + lnW v), (0, sm), (0, stW v + lnW v), x] [] (sh, h) = q_L 86 11 [(19, 452), (0, g), (0, e), (0, v + 1), (0, g), (0, 1), (0, stW (v + 1)), x7] [] (sh, h) ∧ ¬ mtW b L g e v) ∨ q_L 86 11 [(19, 452), (0, g), (0, e), (0, v), (0, g + lnW v), (0, sm), (0, stW v + lnW v), x] [] (sh, h) = some ((0, V), (sh, h))
      rw [e_X9_wordBetween_11, s1, s5]
      rcases hk with ⟨e1, hx⟩ | ⟨e1, hx⟩
      · have e1 : sm = 1 := e1
        subst e1
        by_cases z : g + lnW v = e
        · right
          have mv : mtW b L g e v := mtW_of (by omega) (fun k k0 k1 => by
            by_cases zk : k < lnW v
            · rw [(let_ k k0 (by omega)).1]
              exact (hx k k0 zk).2.symm
            · rw [(wk k k0 k1).2 (by omega)]
              unfold lcW
              rw [if_neg (by omega)])
          have ev : V = v := by
            rcases w with ⟨w0, w1, w2⟩ | ⟨-, w2⟩
            · exact mtW_one w0 w1 v0 v1 w2 mv
            · exact (w2 v v0 v1 mv).elim
          rw [ev]
          simp (disch := omega) only [q_470, q_up_far, q_row_row, q_row_self, q_row_ne, q_up_ne, q_up_eq, q_rowup, ud_eq, ud_ne, q_add_id, q_sub_id, q_mul_id, q_w_eq, q_rem_n, q_div_n, ↓reduceIte, leT, leF, ltT, ltF, eqT, eqF, true_or, or_true, false_or, or_false, true_and, and_true, false_and, and_false, or_self, and_self, Option.bind_some, z]
        · left
          refine ⟨(0, 44), ?_, fun m => z ?_⟩
          · simp (disch := omega) only [q_470, q_up_far, q_row_row, q_row_self, q_row_ne, q_up_ne, q_up_eq, q_rowup, ud_eq, ud_ne, q_add_id, q_sub_id, q_mul_id, q_w_eq, q_rem_n, q_div_n, ↓reduceIte, leT, leF, ltT, ltF, eqT, eqF, true_or, or_true, false_or, or_false, true_and, and_true, false_and, and_false, or_self, and_self, Option.bind_some, e_X9_wordBetween_86, e_X9_wordBetween_95]
          · have a1 := mtW_get m (lnW v - 1) (by omega) (by omega)
            have a2 := ((wk (lnW v - 1) (by omega) (by omega)).1 (by omega)).2.2
            rw [a1] at a2
            have b1 : lnW v - 1 < e - g := by
              unfold lcW at a2
              by_cases q : lnW v - 1 < e - g
              · exact q
              · rw [if_neg q] at a2; exact (a2 rfl).elim
            have m6 := m.1
            by_cases q : lnW v < e - g
            · have a3 := mtW_get m (lnW v) (by omega) (by omega)
              rw [(wk (lnW v) (by omega) (by omega)).2 (by omega), (let_ (lnW v) (by omega) q).1] at a3
              have := (let_ (lnW v) (by omega) q).2
              omega
            · omega
      · have e1 : sm = 0 := e1
        subst e1
        left
        refine ⟨(0, 44), ?_, hx⟩
        simp (disch := omega) only [q_470, q_up_far, q_row_row, q_row_self, q_row_ne, q_up_ne, q_up_eq, q_rowup, ud_eq, ud_ne, q_add_id, q_sub_id, q_mul_id, q_w_eq, q_rem_n, q_div_n, ↓reduceIte, leT, leF, ltT, ltF, eqT, eqF, true_or, or_true, false_or, or_false, true_and, and_true, false_and, and_false, or_self, and_self, Option.bind_some, e_X9_wordBetween_86, e_X9_wordBetween_95]
  · intro x7 hI
    have ev : V = -1 := by
      rcases w with ⟨w0, w1, w2⟩ | ⟨w1, -⟩
      · exact (hI V w0 w1 w2).elim
      · exact w1
    rw [ev]
    show q_L 86 11 [(19, 452), (0, g), (0, e), (0, 12), (0, g), (0, 1), (0, stW 12), x7] [] (sh, h) = _
    have : stW 12 = 56 := by decide
    rw [this, e_X9_wordBetween_11]
    simp (disch := omega) only [q_470, q_up_far, q_row_row, q_row_self, q_row_ne, q_up_ne, q_up_eq, q_rowup, ud_eq, ud_ne, q_add_id, q_sub_id, q_mul_id, q_w_eq, q_rem_n, q_div_n, ↓reduceIte, leT, leF, ltT, ltF, eqT, eqF, true_or, or_true, false_or, or_false, true_and, and_true, false_and, and_false, or_self, and_self, Option.bind_some, ]
