/-! a world becomes another -/
/-- of the world from w on the slots of C bear what the world from v on bore in h0; nothing else has changed -/
def BE (h0 h : Int → Int → Int) (w v : Int) (C : Int → Int → Prop) : Prop := (∀ r j, C r j → h (w + r) j = h0 (v + r) j) ∧ Ptr h ∧ ∀ k, k < w ∨ w + 147 ≤ k → h k = h0 k
/-- two worlds -/
def W2 (w v : Int) : Prop := isW w ∧ isW v ∧ w ≠ v
theorem W2.far {w v r : Int} (h : W2 w v) (r0 : 0 ≤ r) (r1 : r < 147) : v + r < w ∨ w + 147 ≤ v + r := by
  obtain ⟨a, b, c⟩ := h
  rcases a with rfl | rfl | rfl <;> rcases b with rfl | rfl | rfl <;> omega
theorem BE.src {h0 h : Int → Int → Int} {w v : Int} {C : Int → Int → Prop} (be : BE h0 h w v C) (ww : W2 w v) {r : Int} (r0 : 0 ≤ r) (r1 : r < 147) {b : Int} (hb : b = v + r) : h b = h0 (v + r) := by
  rw [hb]; exact be.2.2 _ (ww.far r0 r1)
theorem BE.up {h0 h : Int → Int → Int} {w v : Int} {C : Int → Int → Prop} (be : BE h0 h w v C) (r : Int) {a j x : Int} (r0 : 0 ≤ r) (r1 : r < 147) (ha : a = w + r) (hn : VP0 a j = none) (hx : x = h0 (v + r) j) : BE h0 (q_up h a j x) w v (fun p q => C p q ∨ (p = r ∧ q = j)) := by
  subst ha
  refine ⟨?_, be.2.1.up hn, fun k hk => by rw [q_up_far (by omega)]; exact be.2.2 k hk⟩
  intro p q hc
  by_cases e : p = r ∧ q = j
  · rw [e.1, e.2, q_up_self, hx]
  · rw [q_up_ne (by omega)]
    exact be.1 p q (hc.resolve_right e)
theorem BE.cp {h0 h : Int → Int → Int} {w v : Int} {C : Int → Int → Prop} (be : BE h0 h w v C) (ww : W2 w v) (r n : Int) {a b : Int} (r0 : 0 ≤ r) (r1 : r < 147) (ha : a = w + r) (hb : b = v + r) (hn : ∀ j, VP0 a j = none) : BE h0 (q_cp h b 0 a 0 n) w v (fun p q => C p q ∨ (p = r ∧ 0 ≤ q ∧ q < n)) := by
  have hs := be.src ww r0 r1 hb
  subst ha
  refine ⟨?_, be.2.1.cp hn, fun k hk => by rw [q_cp_far (by omega)]; exact be.2.2 k hk⟩
  intro p q hc
  by_cases e : p = r
  · rw [e, q_cp_row, q_row_self]
    show (if 0 ≤ q ∧ q < 0 + n then h b (0 + (q - 0)) else h (w + r) q) = _
    by_cases e2 : 0 ≤ q ∧ q < n
    · rw [if_pos (by omega), hs]
      congr 1; omega
    · rw [if_neg (by omega), ← e]
      exact be.1 p q (hc.resolve_right (fun z => e2 z.2))
  · rw [q_cp_far (by omega)]
    exact be.1 p q (hc.resolve_right (fun z => e z.1))
theorem BE.mono {h0 h : Int → Int → Int} {w v : Int} {C C' : Int → Int → Prop} (be : BE h0 h w v C) (hc : ∀ r j, C' r j → C r j) : BE h0 h w v C' := ⟨fun r j c => be.1 r j (hc r j c), be.2⟩
/-! the parts -/
def diB (h : Int → Int → Int) (a b : Int) : Int → Int → Int := q_up (q_up (q_up (q_up h a 0 (h b 0)) a 1 (h b 1)) a 2 (h b 2)) a 3 (h b 3)
theorem k_diB {sh : Int × (Int → Nat × Int)} {h : Int → Int → Int} {a b : Int} (hab : a ≠ b) (h3 : h b 3 = 0 ∨ h b 3 = 1) : q_Cc 28 [(13, a), (13, b)] (sh, h) = some ((9, 0), (sh, diB h a b)) := by
  unfold diB
  simp (disch := omega) only [q_470, q_up_far, q_row_row, q_row_self, q_row_ne, q_up_ne, q_up_eq, q_rowup, ud_eq, ud_ne, q_add_id, q_sub_id, q_mul_id, q_w_eq, q_rem_n, q_div_n, ↓reduceIte, leT, leF, ltT, ltF, eqT, eqF, true_or, or_true, false_or, or_false, true_and, and_true, false_and, and_false, or_self, and_self, Option.bind_some, c_X3_become, e_X3_become_0, h3]
def asB (h : Int → Int → Int) (a b : Int) : Int → Int → Int := q_up (q_up (q_up (q_up (q_up (q_up (q_up (q_up (q_up h a 0 (h b 0)) a 1 (h b 1)) a 2 (h b 2)) a 3 (h b 3)) a 4 (h b 4)) a 5 (h b 5)) a 6 (h b 6)) a 7 (h b 7)) a 8 (h b 8)
theorem k_asB {sh : Int × (Int → Nat × Int)} {h : Int → Int → Int} {a b : Int} (hab : a ≠ b) : q_Cc 2 [(10, a), (10, b)] (sh, h) = some ((9, 0), (sh, asB h a b)) := by
  unfold asB
  rw [c_X0_become, e_X0_become_0]
  have f : ∀ (g : Int → Int → Int) (j x : Int), q_up g a j x b = g b := fun g j x => q_up_far (fun e => hab e.symm)
  simp only [f]
def blB (h : Int → Int → Int) (a b : Int) : Int → Int → Int := q_cp (q_cp (q_up (q_up (q_up (q_up (q_up (q_up h a 0 (h b 0)) a 1 (h b 1)) a 2 (h b 2)) a 3 (h b 3)) a 4 (h b 4)) a 5 (h b 5)) (b + 1) 0 (a + 1) 0 12) (b + 2) 0 (a + 2) 0 12
theorem k_blB {sh : Int × (Int → Nat × Int)} {h : Int → Int → Int} {a b : Int} (a0 : 0 ≤ a) (b0 : 0 ≤ b) (hab : a + 2 < b ∨ b + 2 < a) (pa : h a 6 = a + 1) (pb : h b 6 = b + 1) (qa : h a 7 = a + 2) (qb : h b 7 = b + 2) (l1 : (sh.2 (a + 1)).2 = 12) (l2 : (sh.2 (b + 1)).2 = 12) (l3 : (sh.2 (a + 2)).2 = 12) (l4 : (sh.2 (b + 2)).2 = 12) : q_Cc 10 [(11, a), (11, b)] (sh, h) = some ((9, 0), (sh, blB h a b)) := by
  unfold blB
  rw [c_X1_become, e_X1_become_0]
  have f : ∀ (g : Int → Int → Int) (j x : Int), q_up g a j x b = g b := fun g j x => q_up_far (by omega)
  simp only [f]
  have p6 : q_up (q_up (q_up (q_up (q_up (q_up h a 0 (h b 0)) a 1 (h b 1)) a 2 (h b 2)) a 3 (h b 3)) a 4 (h b 4)) a 5 (h b 5) a 6 = a + 1 := by simp (disch := omega) only [q_up_ne, q_up_eq]; exact pa
  simp only [pb, p6, l1, l2]
  rw [if_pos (by omega), if_pos (by omega), if_pos (by omega), e_X1_become_63]
  have c1 : ∀ g : Int → Int → Int, q_cp g (b + 1) 0 (a + 1) 0 12 b = g b := fun g => q_cp_far (by omega)
  have c2 : ∀ g : Int → Int → Int, q_cp g (b + 1) 0 (a + 1) 0 12 a = g a := fun g => q_cp_far (by omega)
  have p7 : q_up (q_up (q_up (q_up (q_up (q_up h a 0 (h b 0)) a 1 (h b 1)) a 2 (h b 2)) a 3 (h b 3)) a 4 (h b 4)) a 5 (h b 5) a 7 = a + 2 := by simp (disch := omega) only [q_up_ne, q_up_eq]; exact qa
  simp only [c1, c2, f, qb, p7, l3, l4]
  rw [if_pos (by omega), if_pos (by omega), if_pos (by omega), e_X1_become_78]
def orB (h : Int → Int → Int) (a b : Int) : Int → Int → Int := q_cp (q_cp (q_cp (q_cp (q_cp (q_cp (q_up h a 0 (h b 0)) (b + 1) 0 (a + 1) 0 12) (b + 2) 0 (a + 2) 0 12) (b + 3) 0 (a + 3) 0 12) (b + 4) 0 (a + 4) 0 12) (b + 5) 0 (a + 5) 0 12) (b + 6) 0 (a + 6) 0 12
theorem k_orB {sh : Int × (Int → Nat × Int)} {h : Int → Int → Int} {a b : Int} (a0 : 0 ≤ a) (b0 : 0 ≤ b) (hab : a + 6 < b ∨ b + 6 < a) (pa : ∀ j, 1 ≤ j → j ≤ 6 → h a j = a + j) (pb : ∀ j, 1 ≤ j → j ≤ 6 → h b j = b + j) (la : ∀ j, 1 ≤ j → j ≤ 6 → (sh.2 (a + j)).2 = 12) (lb : ∀ j, 1 ≤ j → j ≤ 6 → (sh.2 (b + j)).2 = 12) : q_Cc 30 [(14, a), (14, b)] (sh, h) = some ((9, 0), (sh, orB h a b)) := by
  have f : ∀ (g : Int → Int → Int) (x : Int), q_up g a 0 x b = g b := fun g x => q_up_far (by omega)
  have f2 : ∀ (g : Int → Int → Int) (x j : Int), 1 ≤ j → q_up g a 0 x a j = g a j := fun g x j hj => q_up_ne (by omega)
  have c1 : ∀ (g : Int → Int → Int) (j : Int), 1 ≤ j → j ≤ 6 → q_cp g (b + j) 0 (a + j) 0 12 b = g b := fun g j j1 j6 => q_cp_far (by omega)
  have c2 : ∀ (g : Int → Int → Int) (j : Int), 1 ≤ j → j ≤ 6 → q_cp g (b + j) 0 (a + j) 0 12 a = g a := fun g j j1 j6 => q_cp_far (by omega)
  unfold orB
  simp (disch := omega) only [q_470, q_up_far, q_row_row, q_row_self, q_row_ne, q_up_ne, q_up_eq, q_rowup, ud_eq, ud_ne, q_add_id, q_sub_id, q_mul_id, q_w_eq, q_rem_n, q_div_n, ↓reduceIte, leT, leF, ltT, ltF, eqT, eqF, true_or, or_true, false_or, or_false, true_and, and_true, false_and, and_false, or_self, and_self, Option.bind_some, c_X4_become, e_X4_become_0, e_X4_become_23, e_X4_become_38, e_X4_become_53, e_X4_become_68, e_X4_become_83, e_X4_become_98, f, f2, c1, c2, pa, pb, la, lb]
def rwB (h : Int → Int → Int) (a b n : Int) : Int → Int → Int := q_cp (q_up h a 1 (h b 1)) (b + 1) 0 (a + 1) 0 n
theorem k_quB {sh : Int × (Int → Nat × Int)} {h : Int → Int → Int} {a b : Int} (a0 : 0 ≤ a) (b0 : 0 ≤ b) (hab : a + 1 < b ∨ b + 1 < a) (pa : h a 0 = a + 1) (pb : h b 0 = b + 1) (l1 : (sh.2 (a + 1)).2 = 8) (l2 : (sh.2 (b + 1)).2 = 8) : q_Cc 71 [(18, a), (18, b)] (sh, h) = some ((9, 0), (sh, rwB h a b 8)) := by
  unfold rwB
  simp (disch := omega) only [q_470, q_up_far, q_row_row, q_row_self, q_row_ne, q_up_ne, q_up_eq, q_rowup, ud_eq, ud_ne, q_add_id, q_sub_id, q_mul_id, q_w_eq, q_rem_n, q_div_n, ↓reduceIte, leT, leF, ltT, ltF, eqT, eqF, true_or, or_true, false_or, or_false, true_and, and_true, false_and, and_false, or_self, and_self, Option.bind_some, c_X8_become, e_X8_become_0, e_X8_become_23, pa, pb, l1, l2]
theorem k_seB {sh : Int × (Int → Nat × Int)} {h : Int → Int → Int} {a b : Int} (a0 : 0 ≤ a) (b0 : 0 ≤ b) (hab : a + 1 < b ∨ b + 1 < a) (pa : h a 0 = a + 1) (pb : h b 0 = b + 1) (l1 : (sh.2 (a + 1)).2 = 64) (l2 : (sh.2 (b + 1)).2 = 64) : q_Cc 56 [(16, a), (16, b)] (sh, h) = some ((9, 0), (sh, rwB h a b 64)) := by
  unfold rwB
  simp (disch := omega) only [q_470, q_up_far, q_row_row, q_row_self, q_row_ne, q_up_ne, q_up_eq, q_rowup, ud_eq, ud_ne, q_add_id, q_sub_id, q_mul_id, q_w_eq, q_rem_n, q_div_n, ↓reduceIte, leT, leF, ltT, ltF, eqT, eqF, true_or, or_true, false_or, or_false, true_and, and_true, false_and, and_false, or_self, and_self, Option.bind_some, c_X6_become, e_X6_become_0, e_X6_become_23, pa, pb, l1, l2]
