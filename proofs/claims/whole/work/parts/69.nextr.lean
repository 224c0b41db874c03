/-! the reference's reader: the next piece -/
def TR (h : Int → Int → Int) (b : Int → Int) (L : Int) : Prop := h 469 4 = 473 ∧ h 469 5 = L ∧ h 469 17 = 480 ∧ 0 ≤ L ∧ L ≤ 110 ∧ (∀ i, 0 ≤ i → i < L → h 473 i = b i ∧ 0 ≤ b i ∧ b i ≤ 255) ∧ ∀ i, 0 ≤ i → i < 72 → h 480 i = wl i
def FM (h h' : Int → Int → Int) : Prop := ∀ x y, ¬ (x = 469 ∧ 11 ≤ y ∧ y ≤ 14) → h' x y = h x y
theorem FM.refl (h : Int → Int → Int) : FM h h := fun _ _ _ => rfl
theorem FM.trans {h h' h'' : Int → Int → Int} (a : FM h h') (b : FM h' h'') : FM h h'' := fun x y hn => (b x y hn).trans (a x y hn)
theorem FM.up {h : Int → Int → Int} {y v : Int} (y0 : 11 ≤ y) (y1 : y ≤ 14) : FM h (q_up h 469 y v) := fun a b hn => by rw [q_up_ne (by omega)]
theorem TR.fm {h h' : Int → Int → Int} {b : Int → Int} {L : Int} (t : TR h b L) (f : FM h h') : TR h' b L := by
  obtain ⟨t0, t1, t2, t3, t4, t5, t6⟩ := t
  refine ⟨by rw [f 469 4 (by omega)]; exact t0, by rw [f 469 5 (by omega)]; exact t1, by rw [f 469 17 (by omega)]; exact t2, t3, t4, fun i i0 i1 => ?_, fun i i0 i1 => ?_⟩
  · rw [f 473 i (by omega)]; exact t5 i i0 i1
  · rw [f 480 i (by omega)]; exact t6 i i0 i1
theorem r_byteAt {sh : Int × (Int → Nat × Int)} {h : Int → Int → Int} {b : Int → Int} {L k : Int} (hs : Sh sh) (t : TR h b L) (k0 : 0 ≤ k) : q_Cc 186 [(22, 469), (0, k)] (sh, h) = some ((0, bt b L k), (sh, h)) := by
  obtain ⟨t0, t1, t2, t3, t4, t5, t6⟩ := t
  unfold bt
  by_cases z : k < L
  · have e := (t5 k k0 z).1
    simp (disch := omega) only [q_470, q_up_far, q_row_row, q_row_self, q_row_ne, q_up_ne, q_up_eq, q_rowup, ud_eq, ud_ne, q_add_id, q_sub_id, q_mul_id, q_w_eq, q_rem_n, q_div_n, ↓reduceIte, leT, leF, ltT, ltF, eqT, eqF, true_or, or_true, false_or, or_false, true_and, and_true, false_and, and_false, or_self, and_self, Option.bind_some, t0, t1, e, hs.k473, c_X12_byteAt, e_X12_byteAt_0, e_X12_byteAt_18]
  · simp (disch := omega) only [q_470, q_up_far, q_row_row, q_row_self, q_row_ne, q_up_ne, q_up_eq, q_rowup, ud_eq, ud_ne, q_add_id, q_sub_id, q_mul_id, q_w_eq, q_rem_n, q_div_n, ↓reduceIte, leT, leF, ltT, ltF, eqT, eqF, true_or, or_true, false_or, or_false, true_and, and_true, false_and, and_false, or_self, and_self, Option.bind_some, t0, t1, c_X12_byteAt, e_X12_byteAt_0, e_X12_byteAt_18]
theorem r_isLetter {sh : Int × (Int → Nat × Int)} {h : Int → Int → Int} {b : Int → Int} {L k : Int} (hs : Sh sh) (t : TR h b L) (k0 : 0 ≤ k) : q_Cc 187 [(22, 469), (0, k)] (sh, h) = some ((0, if pLt b L k = true then 1 else 0), (sh, h)) := by
  have kb := r_byteAt hs t k0
  by_cases z : 97 ≤ bt b L k ∧ bt b L k ≤ 122
  · have zz : pLt b L k = true := by unfold pLt; simpa using z
    rw [if_pos zz]
    simp (disch := omega) only [q_470, q_up_far, q_row_row, q_row_self, q_row_ne, q_up_ne, q_up_eq, q_rowup, ud_eq, ud_ne, q_add_id, q_sub_id, q_mul_id, q_w_eq, q_rem_n, q_div_n, ↓reduceIte, leT, leF, ltT, ltF, eqT, eqF, true_or, or_true, false_or, or_false, true_and, and_true, false_and, and_false, or_self, and_self, Option.bind_some, kb, k_X12_in, c_X12_isLetter, e_X12_isLetter_0, e_X12_isLetter_5, e_X12_isLetter_12]
  · have zz : ¬ pLt b L k = true := by unfold pLt; simpa using z
    rw [if_neg zz]
    by_cases z2 : 97 ≤ bt b L k <;> simp (disch := omega) only [q_470, q_up_far, q_row_row, q_row_self, q_row_ne, q_up_ne, q_up_eq, q_rowup, ud_eq, ud_ne, q_add_id, q_sub_id, q_mul_id, q_w_eq, q_rem_n, q_div_n, ↓reduceIte, leT, leF, ltT, ltF, eqT, eqF, true_or, or_true, false_or, or_false, true_and, and_true, false_and, and_false, or_self, and_self, Option.bind_some, kb, k_X12_in, c_X12_isLetter, e_X12_isLetter_0, e_X12_isLetter_5, e_X12_isLetter_12]
theorem r_isDigit {sh : Int × (Int → Nat × Int)} {h : Int → Int → Int} {b : Int → Int} {L k : Int} (hs : Sh sh) (t : TR h b L) (k0 : 0 ≤ k) : q_Cc 188 [(22, 469), (0, k)] (sh, h) = some ((0, if pDg b L k = true then 1 else 0), (sh, h)) := by
  have kb := r_byteAt hs t k0
  by_cases z : 48 ≤ bt b L k ∧ bt b L k ≤ 57
  · have zz : pDg b L k = true := by unfold pDg; simpa using z
    rw [if_pos zz]
    simp (disch := omega) only [q_470, q_up_far, q_row_row, q_row_self, q_row_ne, q_up_ne, q_up_eq, q_rowup, ud_eq, ud_ne, q_add_id, q_sub_id, q_mul_id, q_w_eq, q_rem_n, q_div_n, ↓reduceIte, leT, leF, ltT, ltF, eqT, eqF, true_or, or_true, false_or, or_false, true_and, and_true, false_and, and_false, or_self, and_self, Option.bind_some, kb, k_X12_in, c_X12_isDigit, e_X12_isDigit_0, e_X12_isDigit_5, e_X12_isDigit_12]
  · have zz : ¬ pDg b L k = true := by unfold pDg; simpa using z
    rw [if_neg zz]
    by_cases z2 : 48 ≤ bt b L k <;> simp (disch := omega) only [q_470, q_up_far, q_row_row, q_row_self, q_row_ne, q_up_ne, q_up_eq, q_rowup, ud_eq, ud_ne, q_add_id, q_sub_id, q_mul_id, q_w_eq, q_rem_n, q_div_n, ↓reduceIte, leT, leF, ltT, ltF, eqT, eqF, true_or, or_true, false_or, or_false, true_and, and_true, false_and, and_false, or_self, and_self, Option.bind_some, kb, k_X12_in, c_X12_isDigit, e_X12_isDigit_0, e_X12_isDigit_5, e_X12_isDigit_12]
theorem r_word {sh : Int × (Int → Nat × Int)} {h : Int → Int → Int} {b : Int → Int} {L g e V : Int} (hs : Sh sh) (t : TR h b L) (g0 : 0 ≤ g) (ge : g ≤ e) (eL : e ≤ L) (hg : h 469 12 = g) (w : WD b L g e V) : q_Cc 189 [(22, 469), (0, e - g)] (sh, h) = some ((0, V), (sh, h)) := by
  have kb : ∀ k, 0 ≤ k → q_Cc 186 [(22, 469), (0, k)] (sh, h) = some ((0, bt b L k), (sh, h)) := fun k k0 => r_byteAt hs t k0
  obtain ⟨t0, t1, t2, t3, t4, t5, t6⟩ := t
  obtain ⟨mn, emn⟩ : ∃ mn, e - g = mn := ⟨_, rfl⟩
  rw [emn, c_X12_wordOf, e_X12_wordOf_0]
  refine lp (fun v (y : Int × q_V × q_V) => q_L 189 4 [(22, 469), (0, mn), (0, y.1), (0, v), y.2.1, y.2.2] [] (sh, h)) (fun v y => y.1 = if V < v then V else -1) (fun z => z = some ((0, V), (sh, h))) 12 ?_ ?_ 0 (-1, (9, 0), (9, 0)) (by omega) (by omega) ?_
  · intro v y v0 v1 hI
    obtain ⟨f, x4, x5⟩ := y
    have hI : f = if V < v then V else -1 := hI
    left
    have inner := lp (fun k (q : Int) => q_L 189 26 [(22, 469), (0, mn), (0, f), (0, v), (0, q), (0, k)] [] (sh, h)) (fun k q => (q = 1 ∧ mn ≤ 6 ∧ ∀ x, 0 ≤ x → x < k → wl (6 * v + x) = lcW b L g e x) ∨ (q = 0 ∧ ¬ mtW b L g e v)) (fun z => ∃ q k, z = q_L 189 87 [(22, 469), (0, mn), (0, f), (0, v), (0, q), (0, k)] [] (sh, h) ∧ ((q = 1 ∧ mtW b L g e v) ∨ (q = 0 ∧ ¬ mtW b L g e v))) 6 ?_ ?_ 0 (if 6 < mn then 0 else 1) (by omega) (by omega) ?_
    · obtain ⟨q, k, q1, q2⟩ := inner
      have q1 : q_L 189 26 [(22, 469), (0, mn), (0, f), (0, v), (0, if 6 < mn then 0 else 1), (0, 0)] [] (sh, h) = q_L 189 87 [(22, 469), (0, mn), (0, f), (0, v), (0, q), (0, k)] [] (sh, h) := q1
      have hd : q_L 189 4 [(22, 469), (0, mn), (0, f), (0, v), x4, x5] [] (sh, h) = q_L 189 87 [(22, 469), (0, mn), (0, f), (0, v), (0, q), (0, k)] [] (sh, h) := by
        rw [← q1, e_X12_wordOf_4]
        by_cases z : 6 < mn <;> simp (disch := omega) only [q_470, q_up_far, q_row_row, q_row_self, q_row_ne, q_up_ne, q_up_eq, q_rowup, ud_eq, ud_ne, q_add_id, q_sub_id, q_mul_id, q_w_eq, q_rem_n, q_div_n, ↓reduceIte, leT, leF, ltT, ltF, eqT, eqF, true_or, or_true, false_or, or_false, true_and, and_true, false_and, and_false, or_self, and_self, Option.bind_some, e_X12_wordOf_21]
      rcases q2 with ⟨qe, m⟩ | ⟨qe, m⟩
      · have ev : V = v := by
          rcases w with ⟨w0, w1, w2⟩ | ⟨-, w2⟩
          · exact mtW_one w0 w1 v0 v1 w2 m
          · exact (w2 v v0 v1 m).elim
        refine ⟨(v, (0, q), (0, k)), ?_, ?_⟩
        · show q_L 189 4 [(22, 469), (0, mn), (0, f), (0, v), x4, x5] [] (sh, h) = q_L 189 4 [(22, 469), (0, mn), (0, v), (0, v + 1), (0, q), (0, k)] [] (sh, h)
          rw [hd, qe]
          simp (disch := omega) only [q_470, q_up_far, q_row_row, q_row_self, q_row_ne, q_up_ne, q_up_eq, q_rowup, ud_eq, ud_ne, q_add_id, q_sub_id, q_mul_id, q_w_eq, q_rem_n, q_div_n, ↓reduceIte, leT, leF, ltT, ltF, eqT, eqF, true_or, or_true, false_or, or_false, true_and, and_true, false_and, and_false, or_self, and_self, Option.bind_some, e_X12_wordOf_87, e_X12_wordOf_97]
        · show v = if V < v + 1 then V else -1
          rw [if_pos (by omega), ev]
      · have ev : V ≠ v := by
          rcases w with ⟨w0, w1, w2⟩ | ⟨w1, -⟩
          · intro e2; rw [e2] at w2; exact m w2
          · omega
        refine ⟨(f, (0, q), (0, k)), ?_, ?_⟩
        · show q_L 189 4 [(22, 469), (0, mn), (0, f), (0, v), x4, x5] [] (sh, h) = q_L 189 4 [(22, 469), (0, mn), (0, f), (0, v + 1), (0, q), (0, k)] [] (sh, h)
          rw [hd, qe]
          simp (disch := omega) only [q_470, q_up_far, q_row_row, q_row_self, q_row_ne, q_up_ne, q_up_eq, q_rowup, ud_eq, ud_ne, q_add_id, q_sub_id, q_mul_id, q_w_eq, q_rem_n, q_div_n, ↓reduceIte, leT, leF, ltT, ltF, eqT, eqF, true_or, or_true, false_or, or_false, true_and, and_true, false_and, and_false, or_self, and_self, Option.bind_some, e_X12_wordOf_87, e_X12_wordOf_97]
        · show f = if V < v + 1 then V else -1
          rw [hI]
          by_cases z : V < v
          · rw [if_pos z, if_pos (by omega)]
          · rw [if_neg z, if_neg (by omega)]
    · intro k q k0 k1 hk
      rcases hk with ⟨e1, m6, hx⟩ | ⟨e1, hx⟩
      · subst e1
        left
        have wv := t6 (6 * v + k) (by omega) (by omega)
        have lc : lcW b L g e k = if k < mn then bt b L (g + k) else 0 := by unfold lcW; rw [emn]
        by_cases z : wl (6 * v + k) = lcW b L g e k
        · refine ⟨1, ?_, Or.inl ⟨rfl, m6, fun x x0 x1 => ?_⟩⟩
          · rw [e_X12_wordOf_26]
            rw [lc] at z
            by_cases z2 : k < mn
            · rw [if_pos z2] at z
              have kk := kb (g + k) (by omega)
              simp (disch := omega) only [q_470, q_up_far, q_row_row, q_row_self, q_row_ne, q_up_ne, q_up_eq, q_rowup, ud_eq, ud_ne, q_add_id, q_sub_id, q_mul_id, q_w_eq, q_rem_n, q_div_n, ↓reduceIte, leT, leF, ltT, ltF, eqT, eqF, true_or, or_true, false_or, or_false, true_and, and_true, false_and, and_false, or_self, and_self, Option.bind_some, t2, hg, wv, z, kk, hs.k480, e_X12_wordOf_67, e_X12_wordOf_71, e_X12_wordOf_79]
            · rw [if_neg z2] at z
              simp (disch := omega) only [q_470, q_up_far, q_row_row, q_row_self, q_row_ne, q_up_ne, q_up_eq, q_rowup, ud_eq, ud_ne, q_add_id, q_sub_id, q_mul_id, q_w_eq, q_rem_n, q_div_n, ↓reduceIte, leT, leF, ltT, ltF, eqT, eqF, true_or, or_true, false_or, or_false, true_and, and_true, false_and, and_false, or_self, and_self, Option.bind_some, t2, hg, wv, z, hs.k480, e_X12_wordOf_67, e_X12_wordOf_71, e_X12_wordOf_79]
          · by_cases ex : x = k
            · rw [ex]; exact z
            · exact hx x x0 (by omega)
        · refine ⟨0, ?_, Or.inr ⟨rfl, fun m => z (mtW_get m k k0 k1)⟩⟩
          rw [e_X12_wordOf_26]
          rw [lc] at z
          by_cases z2 : k < mn
          · rw [if_pos z2] at z
            have kk := kb (g + k) (by omega)
            simp (disch := omega) only [q_470, q_up_far, q_row_row, q_row_self, q_row_ne, q_up_ne, q_up_eq, q_rowup, ud_eq, ud_ne, q_add_id, q_sub_id, q_mul_id, q_w_eq, q_rem_n, q_div_n, ↓reduceIte, leT, leF, ltT, ltF, eqT, eqF, true_or, or_true, false_or, or_false, true_and, and_true, false_and, and_false, or_self, and_self, Option.bind_some, t2, hg, wv, kk, hs.k480, e_X12_wordOf_67, e_X12_wordOf_71, e_X12_wordOf_79]
          · rw [if_neg z2] at z
            simp (disch := omega) only [q_470, q_up_far, q_row_row, q_row_self, q_row_ne, q_up_ne, q_up_eq, q_rowup, ud_eq, ud_ne, q_add_id, q_sub_id, q_mul_id, q_w_eq, q_rem_n, q_div_n, ↓reduceIte, leT, leF, ltT, ltF, eqT, eqF, true_or, or_true, false_or, or_false, true_and, and_true, false_and, and_false, or_self, and_self, Option.bind_some, t2, hg, wv, hs.k480, e_X12_wordOf_67, e_X12_wordOf_71, e_X12_wordOf_79]
      · subst e1
        right
        refine ⟨0, k, ?_, Or.inr ⟨rfl, hx⟩⟩
        show q_L 189 26 [(22, 469), (0, mn), (0, f), (0, v), (0, 0), (0, k)] [] (sh, h) = _
        rw [e_X12_wordOf_26]
        simp (disch := omega) only [q_470, q_up_far, q_row_row, q_row_self, q_row_ne, q_up_ne, q_up_eq, q_rowup, ud_eq, ud_ne, q_add_id, q_sub_id, q_mul_id, q_w_eq, q_rem_n, q_div_n, ↓reduceIte, leT, leF, ltT, ltF, eqT, eqF, true_or, or_true, false_or, or_false, true_and, and_true, false_and, and_false, or_self, and_self, Option.bind_some, ]
    · intro q hk
      refine ⟨q, 6, ?_, ?_⟩
      · show q_L 189 26 [(22, 469), (0, mn), (0, f), (0, v), (0, q), (0, 6)] [] (sh, h) = _
        rw [e_X12_wordOf_26]
        simp (disch := omega) only [q_470, q_up_far, q_row_row, q_row_self, q_row_ne, q_up_ne, q_up_eq, q_rowup, ud_eq, ud_ne, q_add_id, q_sub_id, q_mul_id, q_w_eq, q_rem_n, q_div_n, ↓reduceIte, leT, leF, ltT, ltF, eqT, eqF, true_or, or_true, false_or, or_false, true_and, and_true, false_and, and_false, or_self, and_self, Option.bind_some, ]
      · rcases hk with ⟨e1, m6, hx⟩ | hx
        · exact Or.inl ⟨e1, mtW_of (by omega) hx⟩
        · exact Or.inr hx
    · by_cases z : 6 < mn
      · rw [if_pos z]
        exact Or.inr ⟨rfl, fun m => by have := m.1; omega⟩
      · rw [if_neg z]
        exact Or.inl ⟨rfl, by omega, fun x a c => by omega⟩
  · intro y hI
    obtain ⟨f, x4, x5⟩ := y
    have hI : f = if V < 12 then V else -1 := hI
    have : f = V := by
      rw [hI, if_pos (by rcases w with ⟨-, w1, -⟩ | ⟨w1, -⟩ <;> omega)]
    rw [this]
    show q_L 189 4 [(22, 469), (0, mn), (0, V), (0, 12), x4, x5] [] (sh, h) = _
    rw [e_X12_wordOf_4]
    simp (disch := omega) only [q_470, q_up_far, q_row_row, q_row_self, q_row_ne, q_up_ne, q_up_eq, q_rowup, ud_eq, ud_ne, q_add_id, q_sub_id, q_mul_id, q_w_eq, q_rem_n, q_div_n, ↓reduceIte, leT, leF, ltT, ltF, eqT, eqF, true_or, or_true, false_or, or_false, true_and, and_true, false_and, and_false, or_self, and_self, Option.bind_some, ]
  · show (-1 : Int) = if V < 0 then V else -1
    rcases w with ⟨w0, -⟩ | ⟨w1, -⟩
    · rw [if_neg (by omega)]
    · rw [if_pos (by omega), w1]
/-- what the reference bears of a piece -/
def RK (h : Int → Int → Int) (e g s v : Int) : Prop := h 469 11 = e ∧ h 469 12 = g ∧ (s ≠ 4 → h 469 13 = s) ∧ (s = 4 → h 469 13 = 4 ∨ (h 469 13 = 1 ∧ h 469 14 = -1)) ∧ ((s = 1 ∨ s = 2) → h 469 14 = v)
theorem r_skip {sh : Int × (Int → Nat × Int)} {h : Int → Int → Int} {b : Int → Int} {L a g : Int} (hs : Sh sh) (t : TR h b L) (a0 : 0 ≤ a) (ha : h 469 11 = a) (r : Rn (pSp b L) L a g) : q_L 190 0 [(22, 469)] [] (sh, h) = q_L 190 8 [(22, 469)] [(0, bt b L g)] (sh, q_up h 469 11 g) := by
  obtain ⟨ag, gL, rs, rn⟩ := r
  have L1 := t.2.2.2.2.1
  have e0 : q_up h 469 11 a = h := by
    funext x y
    by_cases e : x = 469 ∧ y = 11
    · rw [e.1, e.2, q_up_self, ha]
    · rw [q_up_ne (by omega)]
  have kb : ∀ i k, 0 ≤ k → q_Cc 186 [(22, 469), (0, k)] (sh, q_up h 469 11 i) = some ((0, bt b L k), (sh, q_up h 469 11 i)) := fun i k k0 => r_byteAt hs (t.fm (FM.up (by decide) (by decide))) k0
  have := lp (fun i (_ : Unit) => q_L 190 0 [(22, 469)] [] (sh, q_up h 469 11 i)) (fun i _ => a ≤ i) (fun z => z = q_L 190 8 [(22, 469)] [(0, bt b L g)] (sh, q_up h 469 11 g)) g ?_ ?_ a () a0 ag (Int.le_refl _)
  · have this : q_L 190 0 [(22, 469)] [] (sh, q_up h 469 11 a) = _ := this
    rw [e0] at this
    exact this
  · intro i _ i0 i1 ai
    have b32 : bt b L i = 32 := by have := rs i ai i1; unfold pSp at this; simpa using this
    have k := kb i i i0
    rw [b32] at k
    left
    refine ⟨(), ?_, by omega⟩
    rw [e_X12_next_0]
    simp (disch := omega) only [q_470, q_up_far, q_row_row, q_row_self, q_row_ne, q_up_ne, q_up_eq, q_rowup, ud_eq, ud_ne, q_add_id, q_sub_id, q_mul_id, q_w_eq, q_rem_n, q_div_n, ↓reduceIte, leT, leF, ltT, ltF, eqT, eqF, true_or, or_true, false_or, or_false, true_and, and_true, false_and, and_false, or_self, and_self, Option.bind_some, k, q_up_up, e_X12_next_8]
  · intro _ _
    have k := kb g g (by omega)
    show q_L 190 0 [(22, 469)] [] (sh, q_up h 469 11 g) = _
    rw [e_X12_next_0]
    simp (disch := omega) only [q_470, q_up_far, q_row_row, q_row_self, q_row_ne, q_up_ne, q_up_eq, q_rowup, ud_eq, ud_ne, q_add_id, q_sub_id, q_mul_id, q_w_eq, q_rem_n, q_div_n, ↓reduceIte, leT, leF, ltT, ltF, eqT, eqF, true_or, or_true, false_or, or_false, true_and, and_true, false_and, and_false, or_self, and_self, Option.bind_some, k]
theorem r_next {sh : Int × (Int → Nat × Int)} {h : Int → Int → Int} {b : Int → Int} {L a e g s v : Int} (hs : Sh sh) (t : TR h b L) (a0 : 0 ≤ a) (ha : h 469 11 = a) (n : NX b L a e g s v) : ∃ h', q_Cc 190 [(22, 469)] (sh, h) = some ((9, 0), (sh, h')) ∧ FM h h' ∧ RK h' e g s v := by
  obtain ⟨r, cs⟩ := n
  have sk := r_skip hs t a0 ha r
  have ag := r.1
  have n32 : ¬ bt b L g = 32 := by
    have := r.2.2.2
    unfold pSp at this
    simpa using this
  obtain ⟨m, em⟩ : ∃ m, q_up (q_up (q_up h 469 11 g) 469 12 g) 469 14 0 = m := ⟨_, rfl⟩
  have f1 : FM h m := by rw [← em]; exact ((FM.up (by decide) (by decide)).trans (FM.up (by decide) (by decide))).trans (FM.up (by decide) (by decide))
  have tm := t.fm f1
  have m11 : m 469 11 = g := by rw [← em, q_up_ne (by decide), q_up_ne (by decide), q_up_self]
  have m12 : m 469 12 = g := by rw [← em, q_up_ne (by decide), q_up_self]
  have m14 : m 469 14 = 0 := by rw [← em, q_up_self]
  have m5 : m 469 5 = L := tm.2.1
  have L1 := tm.2.2.2.2.1
  have hd : q_Cc 190 [(22, 469)] (sh, h) = if g = L then (q_L 190 253 [(22, 469)] [] (sh, q_up m 469 13 0)) else ((q_Cc 187 [(22, 469), (0, g)] (sh, m)).bind (fun r => q_L 190 66 [(22, 469)] [r.1] r.2)) := by
    rw [c_X12_next, sk, e_X12_next_8, if_neg n32]
    have e1 : (q_up h 469 11 g) 469 11 = g := q_up_self _ _ _ _
    rw [e1, em, m11, m5]
  rcases cs with ⟨gL, eL, s0, v0⟩ | ⟨gL, cs⟩
  · refine ⟨q_up m 469 13 0, ?_, f1.trans (FM.up (by decide) (by decide)), ?_⟩
    · rw [hd, if_pos gL, e_X12_next_253]
    · refine ⟨?_, ?_, fun _ => ?_, fun h => by omega, fun h => by omega⟩
      · rw [q_up_ne (by decide), m11]; omega
      · rw [q_up_ne (by decide), m12]
      · rw [q_up_self, s0]
  · have kl := r_isLetter (sh := sh) hs tm (k := g) (by omega)
    rcases cs with ⟨z1, rl, wd, sv⟩ | ⟨z1, z2, rd, nv, sv⟩ | ⟨z1, z2, ee, vv, sv⟩
    · rw [if_pos z1] at kl
      obtain ⟨ge, eL, rll, rn⟩ := rl
      have e0 : q_up m 469 11 g = m := by
        funext x y
        by_cases e : x = 469 ∧ y = 11
        · rw [e.1, e.2, q_up_self, m11]
        · rw [q_up_ne (by omega)]
      have kk : ∀ i k, 0 ≤ k → q_Cc 187 [(22, 469), (0, k)] (sh, q_up m 469 11 i) = some ((0, if pLt b L k = true then 1 else 0), (sh, q_up m 469 11 i)) := fun i k k0 => r_isLetter hs (tm.fm (FM.up (by decide) (by decide))) k0
      have kw : q_Cc 189 [(22, 469), (0, e - g)] (sh, q_up (q_up m 469 11 e) 469 13 1) = some ((0, v), (sh, q_up (q_up m 469 11 e) 469 13 1)) := r_word hs (tm.fm ((FM.up (by decide) (by decide)).trans (FM.up (by decide) (by decide)))) (by omega) ge eL (by rw [q_up_ne (by decide), q_up_ne (by decide)]; exact m12) wd
      obtain ⟨h', eh⟩ : ∃ h', q_up (q_up (q_up m 469 11 e) 469 13 1) 469 14 v = h' := ⟨_, rfl⟩
      have tail := lp (fun i (_ : Unit) => q_L 190 69 [(22, 469)] [] (sh, q_up m 469 11 i)) (fun i _ => g ≤ i) (fun z => z = some ((9, 0), (sh, h'))) e ?_ ?_ g () (by omega) ge (Int.le_refl _)
      · have tail : q_L 190 69 [(22, 469)] [] (sh, q_up m 469 11 g) = _ := tail
        rw [e0] at tail
        refine ⟨h', ?_, ?_, ?_⟩
        · rw [hd, if_neg (by omega), kl]
          simp (disch := omega) only [q_470, q_up_far, q_row_row, q_row_self, q_row_ne, q_up_ne, q_up_eq, q_rowup, ud_eq, ud_ne, q_add_id, q_sub_id, q_mul_id, q_w_eq, q_rem_n, q_div_n, ↓reduceIte, leT, leF, ltT, ltF, eqT, eqF, true_or, or_true, false_or, or_false, true_and, and_true, false_and, and_false, or_self, and_self, Option.bind_some, tail, e_X12_next_66]
        · rw [← eh]
          exact f1.trans (((FM.up (by decide) (by decide)).trans (FM.up (by decide) (by decide))).trans (FM.up (by decide) (by decide)))
        · rw [← eh]
          have q13 : (q_up (q_up (q_up m 469 11 e) 469 13 1) 469 14 v) 469 13 = 1 := by rw [q_up_ne (by decide), q_up_self]
          refine ⟨?_, ?_, fun hh => ?_, fun hh => ?_, fun _ => q_up_self _ _ _ _⟩
          · rw [q_up_ne (by decide), q_up_ne (by decide), q_up_self]
          · rw [q_up_ne (by decide), q_up_ne (by decide), q_up_ne (by decide), m12]
          · rw [q13, sv]
            by_cases z : v < 0
            · rw [if_pos z] at sv; exact (hh sv).elim
            · rw [if_neg z]
          · right
            refine ⟨q13, ?_⟩
            rw [q_up_self]
            rcases wd with ⟨w0, -⟩ | ⟨w1, -⟩
            · rw [if_neg (by omega)] at sv; omega
            · exact w1
      · intro i _ i0 i1 gi
        have k := kk i i i0
        rw [if_pos (rll i gi i1)] at k
        left
        refine ⟨(), ?_, by omega⟩
        rw [e_X12_next_69]
        simp (disch := omega) only [q_470, q_up_far, q_row_row, q_row_self, q_row_ne, q_up_ne, q_up_eq, q_rowup, ud_eq, ud_ne, q_add_id, q_sub_id, q_mul_id, q_w_eq, q_rem_n, q_div_n, ↓reduceIte, leT, leF, ltT, ltF, eqT, eqF, true_or, or_true, false_or, or_false, true_and, and_true, false_and, and_false, or_self, and_self, Option.bind_some, k, q_up_up, e_X12_next_77]
      · intro _ _
        have k := kk e e (by omega)
        rw [rn, if_neg (by decide)] at k
        show q_L 190 69 [(22, 469)] [] (sh, q_up m 469 11 e) = _
        rw [e_X12_next_69]
        simp (disch := omega) only [q_470, q_up_far, q_row_row, q_row_self, q_row_ne, q_up_ne, q_up_eq, q_rowup, ud_eq, ud_ne, q_add_id, q_sub_id, q_mul_id, q_w_eq, q_rem_n, q_div_n, ↓reduceIte, leT, leF, ltT, ltF, eqT, eqF, true_or, or_true, false_or, or_false, true_and, and_true, false_and, and_false, or_self, and_self, Option.bind_some, k, m12, kw, eh, e_X12_next_77, e_X12_next_112, e_X12_next_253]
    · rw [z1, if_neg (by decide)] at kl
      have kd := r_isDigit (sh := sh) hs tm (k := g) (by omega)
      rw [if_pos z2] at kd
      have rd' := rd
      obtain ⟨ge, eL, rll, rn⟩ := rd'
      have e0 : q_up (q_up m 469 14 0) 469 11 g = m := by
        funext x y
        by_cases e : x = 469 ∧ y = 11
        · rw [e.1, e.2, q_up_self, m11]
        · rw [q_up_ne (by omega)]
          by_cases e2 : x = 469 ∧ y = 14
          · rw [e2.1, e2.2, q_up_self, m14]
          · rw [q_up_ne (by omega)]
      have up2 : ∀ v i w j, q_up (q_up (q_up (q_up m 469 14 v) 469 11 i) 469 14 w) 469 11 j = q_up (q_up m 469 14 w) 469 11 j := by
        intro v i w j
        funext x y
        unfold q_up
        by_cases e1 : x = 469 ∧ y = 11
        · rw [if_pos e1, if_pos e1]
        · rw [if_neg e1, if_neg e1]
          by_cases e2 : x = 469 ∧ y = 14
          · rw [if_pos e2, if_pos e2, if_neg e1]
          · rw [if_neg e2, if_neg e2, if_neg e1, if_neg e2]
      have fx : ∀ x i, FM m (q_up (q_up m 469 14 x) 469 11 i) := fun x i => (FM.up (by decide) (by decide)).trans (FM.up (by decide) (by decide))
      have kk : ∀ x i k, 0 ≤ k → q_Cc 188 [(22, 469), (0, k)] (sh, q_up (q_up m 469 14 x) 469 11 i) = some ((0, if pDg b L k = true then 1 else 0), (sh, q_up (q_up m 469 14 x) 469 11 i)) := fun x i k k0 => r_isDigit hs (tm.fm (fx x i)) k0
      have kb : ∀ x i k, 0 ≤ k → q_Cc 186 [(22, 469), (0, k)] (sh, q_up (q_up m 469 14 x) 469 11 i) = some ((0, bt b L k), (sh, q_up (q_up m 469 14 x) 469 11 i)) := fun x i k k0 => r_byteAt hs (tm.fm (fx x i)) k0
      have tail := lp (fun i (x : Int) => q_L 190 129 [(22, 469)] [] (sh, q_up (q_up m 469 14 x) 469 11 i)) (fun i x => g ≤ i ∧ 0 ≤ x ∧ x ≤ 9999 ∧ (i - g ≤ 4 → x = nmN b g (i - g).toNat)) (fun z => ∃ x, z = some ((9, 0), (sh, q_up (q_up (q_up m 469 14 x) 469 11 e) 469 13 (if 4 < e - g then 4 else 2))) ∧ (e - g ≤ 4 → x = nmN b g (e - g).toNat)) e ?_ ?_ g 0 (by omega) ge ⟨Int.le_refl _, by decide, by decide, fun _ => by rw [Int.sub_self]; rfl⟩
      · obtain ⟨x, q1, q2⟩ := tail
        have q1 : q_L 190 129 [(22, 469)] [] (sh, q_up (q_up m 469 14 0) 469 11 g) = _ := q1
        rw [e0] at q1
        refine ⟨q_up (q_up (q_up m 469 14 x) 469 11 e) 469 13 (if 4 < e - g then 4 else 2), ?_, ?_, ?_⟩
        · rw [hd, if_neg (by omega), kl]
          simp (disch := omega) only [q_470, q_up_far, q_row_row, q_row_self, q_row_ne, q_up_ne, q_up_eq, q_rowup, ud_eq, ud_ne, q_add_id, q_sub_id, q_mul_id, q_w_eq, q_rem_n, q_div_n, ↓reduceIte, leT, leF, ltT, ltF, eqT, eqF, true_or, or_true, false_or, or_false, true_and, and_true, false_and, and_false, or_self, and_self, Option.bind_some, m11, kd, q1, e_X12_next_66, e_X12_next_126]
        · exact f1.trans ((fx x e).trans (FM.up (by decide) (by decide)))
        · refine ⟨?_, ?_, fun hh => ?_, fun hh => ?_, fun hh => ?_⟩
          · rw [q_up_ne (by decide), q_up_self]
          · rw [q_up_ne (by decide), q_up_ne (by decide), q_up_ne (by decide), m12]
          · rw [q_up_self, sv]
          · left
            rw [q_up_self, ← sv, hh]
          · rw [q_up_ne (by decide), q_up_ne (by decide), q_up_self, nv]
            apply q2
            by_cases z : 4 < e - g
            · rw [if_pos z] at sv; omega
            · omega
      · intro i x i0 i1 hI
        obtain ⟨gi, x0, x1, hx⟩ := hI
        have k := kk x i i i0
        rw [if_pos (rll i gi i1)] at k
        have kbi := kb x i i i0
        have bi : bt b L i = b i := if_pos (by omega)
        rw [bi] at kbi
        have bd := (pDg_i (b := b) (L := L) (k := i) (by omega)).mp (rll i gi i1)
        left
        by_cases z : i - g < 4
        · have e1 := hx (by omega)
          have nb := nmN_b rd (i - g).toNat (by omega) (by omega)
          have n3 := nb.2.2.1 (by omega)
          have ns := nmN_succ (b := b) (g := g) (k := i - g) (by omega)
          have e2 : i - g + 1 = i + 1 - g := by omega
          have e3 : g + (i - g) = i := by omega
          rw [e2, e3, ← e1] at ns
          rw [← e1] at n3
          refine ⟨10 * x + b i - 48, ?_, by omega, by omega, by omega, fun _ => ns.symm⟩
          rw [e_X12_next_129]
          simp (disch := omega) only [q_470, q_up_far, q_row_row, q_row_self, q_row_ne, q_up_ne, q_up_eq, q_rowup, ud_eq, ud_ne, q_add_id, q_sub_id, q_mul_id, q_w_eq, q_rem_n, q_div_n, ↓reduceIte, leT, leF, ltT, ltF, eqT, eqF, true_or, or_true, false_or, or_false, true_and, and_true, false_and, and_false, or_self, and_self, Option.bind_some, k, kbi, m12, up2, e_X12_next_137, e_X12_next_169, e_X12_next_180]
        · refine ⟨x, ?_, by omega, x0, x1, fun h => by omega⟩
          rw [e_X12_next_129]
          simp (disch := omega) only [q_470, q_up_far, q_row_row, q_row_self, q_row_ne, q_up_ne, q_up_eq, q_rowup, ud_eq, ud_ne, q_add_id, q_sub_id, q_mul_id, q_w_eq, q_rem_n, q_div_n, ↓reduceIte, leT, leF, ltT, ltF, eqT, eqF, true_or, or_true, false_or, or_false, true_and, and_true, false_and, and_false, or_self, and_self, Option.bind_some, k, m12, up2, e_X12_next_137, e_X12_next_180]
      · intro x hI
        obtain ⟨gi, x0, x1, hx⟩ := hI
        have k := kk x e e (by omega)
        rw [rn, if_neg (by decide)] at k
        refine ⟨x, ?_, hx⟩
        show q_L 190 129 [(22, 469)] [] (sh, q_up (q_up m 469 14 x) 469 11 e) = _
        rw [e_X12_next_129]
        by_cases z : 4 < e - g <;> simp (disch := omega) only [q_470, q_up_far, q_row_row, q_row_self, q_row_ne, q_up_ne, q_up_eq, q_rowup, ud_eq, ud_ne, q_add_id, q_sub_id, q_mul_id, q_w_eq, q_rem_n, q_div_n, ↓reduceIte, leT, leF, ltT, ltF, eqT, eqF, true_or, or_true, false_or, or_false, true_and, and_true, false_and, and_false, or_self, and_self, Option.bind_some, k, m12, e_X12_next_137, e_X12_next_215, e_X12_next_253]
    · rw [z1, if_neg (by decide)] at kl
      have kd := r_isDigit (sh := sh) hs tm (k := g) (by omega)
      rw [z2, if_neg (by decide)] at kd
      have kb := r_byteAt (sh := sh) hs tm (k := g) (by omega)
      have bi : bt b L g = b g := if_pos (by omega)
      rw [bi] at kb
      refine ⟨q_up (q_up m 469 13 s) 469 11 e, ?_, f1.trans ((FM.up (by decide) (by decide)).trans (FM.up (by decide) (by decide))), ?_⟩
      · rw [hd, if_neg (by omega), kl, sv, ee]
        by_cases z : b g = 59
        · rw [z] at kb
          simp (disch := omega) only [q_470, q_up_far, q_row_row, q_row_self, q_row_ne, q_up_ne, q_up_eq, q_rowup, ud_eq, ud_ne, q_add_id, q_sub_id, q_mul_id, q_w_eq, q_rem_n, q_div_n, ↓reduceIte, leT, leF, ltT, ltF, eqT, eqF, true_or, or_true, false_or, or_false, true_and, and_true, false_and, and_false, or_self, and_self, Option.bind_some, z, m11, kd, kb, e_X12_next_66, e_X12_next_126, e_X12_next_230, e_X12_next_240, e_X12_next_253]
        · simp (disch := omega) only [q_470, q_up_far, q_row_row, q_row_self, q_row_ne, q_up_ne, q_up_eq, q_rowup, ud_eq, ud_ne, q_add_id, q_sub_id, q_mul_id, q_w_eq, q_rem_n, q_div_n, ↓reduceIte, leT, leF, ltT, ltF, eqT, eqF, true_or, or_true, false_or, or_false, true_and, and_true, false_and, and_false, or_self, and_self, Option.bind_some, m11, kd, kb, e_X12_next_66, e_X12_next_126, e_X12_next_230, e_X12_next_240, e_X12_next_253]
      · refine ⟨q_up_self _ _ _ _, ?_, fun hh => ?_, fun hh => ?_, fun hh => ?_⟩
        · rw [q_up_ne (by decide), q_up_ne (by decide), m12]
        · rw [q_up_ne (by decide), q_up_self]
        · left
          rw [q_up_ne (by decide), q_up_self, hh]
        · by_cases z : b g = 59
          · rw [if_pos z] at sv; omega
          · rw [if_neg z] at sv; omega
