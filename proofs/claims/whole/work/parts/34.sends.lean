/-! blocks are sent -/
def hF (S : Int → Int) (x : Int) : Int := if S x < 0 then 1 else 0
def gF (S : Int → Int) (t x : Int) : Int := if 0 ≤ S x ∧ S x ≤ t then 1 else 0
theorem hF_01 (S : Int → Int) (x : Int) : hF S x = 0 ∨ hF S x = 1 := by unfold hF; split <;> omega
theorem gF_01 (S : Int → Int) (t x : Int) : gF S t x = 0 ∨ gF S t x = 1 := by unfold gF; split <;> omega
/-- how many held ones are sent -/
def frF (S : Int → Int) (n L : Int) : Int := if sm (hF S) n < L then sm (hF S) n else L
/-- the row afterwards: hour hr, those sent up to hour t again -/
def sF (S : Int → Int) (n L hr t x : Int) : Int := if (S x < 0 ∧ sm (hF S) x < L) ∨ ((0 ≤ S x ∧ S x ≤ t) ∧ frF S n L + sm (gF S t) x < L) then hr else S x
/-- how many are sent -/
def cF (S : Int → Int) (n L t : Int) : Int := frF S n L + (if sm (gF S t) n < L - frF S n L then sm (gF S t) n else L - frF S n L)
theorem frF_b {S : Int → Int} {n L : Int} (n0 : 0 ≤ n) (L0 : 0 ≤ L) : 0 ≤ frF S n L ∧ frF S n L ≤ L ∧ frF S n L ≤ sm (hF S) n := by
  have := sm_bnd (f := hF S) (a := 0) (b := 1) (n := n) n0 (fun j _ _ => by have := hF_01 S j; omega)
  unfold frF
  split <;> omega
theorem k_sendSome {sh : Int × (Int → Nat × Int)} {h : Int → Int → Int} {b n L hr wt : Int} (b0 : 0 ≤ b) (p7 : h b 7 = b + 2) (l7 : (sh.2 (b + 2)).2 = 12) (en : h b 1 = n) (n0 : 0 ≤ n) (n1 : n ≤ 12) (L0 : 0 ≤ L) (L1 : L ≤ 100) (h0 : 0 ≤ hr) (h1 : hr ≤ 10000) (w0 : 0 ≤ wt) (w1 : wt ≤ 100) (hS : ∀ x, 0 ≤ x → x < n → -1 ≤ h (b + 2) x ∧ h (b + 2) x ≤ 10000) :
    ∃ R : Int → Int, q_Cc 16 [(11, b), (0, L), (0, hr), (0, wt)] (sh, h) = some ((0, cF (h (b + 2)) n L (hr - wt)), (sh, q_row h (b + 2) R)) ∧ ∀ x, 0 ≤ x → x < n → R x = sF (h (b + 2)) n L hr (hr - wt) x := by
  obtain ⟨S, eS⟩ : ∃ S, h (b + 2) = S := ⟨_, rfl⟩
  rw [eS] at hS ⊢
  have kh := k_held (sh := sh) (h := h) (b := b) (n := n) b0 p7 l7 en n0 n1
  rw [eS] at kh
  have kh : q_Cc 11 [(11, b)] (sh, h) = some ((0, sm (hF S) n), (sh, h)) := kh
  have hH0 : ∀ i : Int, 0 ≤ hF S i := fun i => by have := hF_01 S i; omega
  have hG0 : ∀ i : Int, 0 ≤ gF S (hr - wt) i := fun i => by have := gF_01 S (hr - wt) i; omega
  have bH := sm_bnd (f := hF S) (a := 0) (b := 1) (n := n) n0 (fun j _ _ => by have := hF_01 S j; omega)
  have bG := sm_bnd (f := gF S (hr - wt)) (a := 0) (b := 1) (n := n) n0 (fun j _ _ => by have := gF_01 S (hr - wt) j; omega)
  have fb := frF_b (S := S) (n := n) (L := L) n0 L0
  obtain ⟨fr, efr⟩ : ∃ fr, frF S n L = fr := ⟨_, rfl⟩
  have efr2 : (if sm (hF S) n < L then sm (hF S) n else L) = fr := efr
  rw [efr] at fb
  have efr3 : fr = sm (hF S) n ∨ fr = L := by rw [← efr2]; split <;> omega
  obtain ⟨g, eg⟩ : ∃ g, gF S (hr - wt) = g := ⟨_, rfl⟩
  rw [eg] at bG hG0
  -- the second loop
  have loop2 : ∀ (ov : Int) (R1 : Int → Int), 0 ≤ ov → fr + ov ≤ 200 → (∀ x, 0 ≤ x → x < n → R1 x = if (0 ≤ S x ∧ S x ≤ hr - wt) ∧ fr + sm g x < L then hr else S x) → ∀ i, ∃ R : Int → Int, q_L 16 74 [(11, b), (0, L), (0, hr), (0, wt), (0, fr), (0, ov), (0, i), (9, 0)] [] (sh, q_row h (b + 2) R1) = some ((0, fr + ov), (sh, q_row h (b + 2) R)) ∧ ∀ x, 0 ≤ x → x < n → R x = sF S n L hr (hr - wt) x := by
    intro ov R1 o0 o1 hR1 i
    rw [e_X1_sendSome_74]
    have := lp (fun i (y : Int × (Int → Int)) => q_L 16 81 [(11, b), (0, L), (0, hr), (0, wt), (0, fr), (0, ov), (0, y.1), (0, i)] [] (sh, q_row h (b + 2) y.2)) (fun i y => y.1 = fr - sm (hF S) i ∧ 0 ≤ y.1 ∧ ∀ x, 0 ≤ x → x < n → y.2 x = if x < i ∧ S x < 0 then hr else R1 x) (fun r => ∃ R : Int → Int, r = some ((0, fr + ov), (sh, q_row h (b + 2) R)) ∧ ∀ x, 0 ≤ x → x < n → R x = sF S n L hr (hr - wt) x) n ?_ ?_ 0 (fr, R1) (by omega) n0 ⟨by show fr = fr - 0; omega, fb.1, fun x x0 x1 => by rw [if_neg (by omega)]⟩
    · exact this
    · intro i y i0 i1 hI
      obtain ⟨lf, R⟩ := y
      obtain ⟨a1, a2, a3⟩ := hI
      have a1 : lf = fr - sm (hF S) i := a1
      have a2 : 0 ≤ lf := a2
      have a3 : ∀ x, 0 ≤ x → x < n → R x = if x < i ∧ S x < 0 then hr else R1 x := a3
      have ri : R i = if (0 ≤ S i ∧ S i ≤ hr - wt) ∧ fr + sm g i < L then hr else S i := by rw [a3 i i0 i1, if_neg (by omega), hR1 i i0 i1]
      have ss := sm_succ (f := hF S) i0
      have bi := sm_bnd (f := hF S) (a := 0) (b := 1) (n := i) i0 (fun j _ _ => by have := hF_01 S j; omega)
      by_cases z : 0 < lf
      · left
        show ∃ y : Int × (Int → Int), q_L 16 81 [(11, b), (0, L), (0, hr), (0, wt), (0, fr), (0, ov), (0, lf), (0, i)] [] (sh, q_row h (b + 2) R) = q_L 16 81 [(11, b), (0, L), (0, hr), (0, wt), (0, fr), (0, ov), (0, y.1), (0, i + 1)] [] (sh, q_row h (b + 2) y.2) ∧ y.1 = fr - sm (hF S) (i + 1) ∧ 0 ≤ y.1 ∧ ∀ x, 0 ≤ x → x < n → y.2 x = if x < i + 1 ∧ S x < 0 then hr else R1 x
        by_cases c1 : S i < 0
        · have rneg : R i = S i := by rw [ri, if_neg (by omega)]
          have e1 : hF S i = 1 := by unfold hF; rw [if_pos c1]
          refine ⟨(lf - 1, ud R i hr), ?_, by show lf - 1 = _; omega, by show 0 ≤ lf - 1; omega, ?_⟩
          · rw [e_X1_sendSome_81]
            have em : lf + (-1) = lf - 1 := by omega
            simp (disch := omega) only [q_470, q_up_far, q_row_row, q_row_self, q_row_ne, q_up_ne, q_up_eq, q_rowup, ud_eq, ud_ne, q_add_id, q_sub_id, q_mul_id, q_w_eq, q_rem_n, q_div_n, ↓reduceIte, leT, leF, ltT, ltF, eqT, eqF, true_or, or_true, false_or, or_false, true_and, and_true, false_and, and_false, or_self, and_self, Option.bind_some, p7, l7, en, rneg, em, e_X1_sendSome_116]
          · intro x x0 x1
            show ud R i hr x = _
            by_cases e : x = i
            · rw [ud_eq e, if_pos ⟨by omega, by rw [e]; exact c1⟩]
            · rw [ud_ne e, a3 x x0 x1]
              by_cases q : x < i ∧ S x < 0
              · rw [if_pos q, if_pos ⟨by omega, q.2⟩]
              · rw [if_neg q, if_neg (fun hq => q ⟨by omega, hq.2⟩)]
        · have rpos : ¬ R i < 0 := by rw [ri]; split <;> omega
          have e1 : hF S i = 0 := by unfold hF; rw [if_neg c1]
          refine ⟨(lf, R), ?_, by show lf = _; omega, a2, ?_⟩
          · rw [e_X1_sendSome_81]
            simp (disch := omega) only [q_470, q_up_far, q_row_row, q_row_self, q_row_ne, q_up_ne, q_up_eq, q_rowup, ud_eq, ud_ne, q_add_id, q_sub_id, q_mul_id, q_w_eq, q_rem_n, q_div_n, ↓reduceIte, leT, leF, ltT, ltF, eqT, eqF, true_or, or_true, false_or, or_false, true_and, and_true, false_and, and_false, or_self, and_self, Option.bind_some, p7, l7, en, e_X1_sendSome_116]
          · intro x x0 x1
            show R x = _
            rw [a3 x x0 x1]
            by_cases q : x < i ∧ S x < 0
            · rw [if_pos q, if_pos ⟨by omega, q.2⟩]
            · rw [if_neg q, if_neg]
              intro hq
              by_cases e : x = i
              · rw [e] at hq; exact c1 hq.2
              · exact q ⟨by omega, hq.2⟩
      · right
        refine ⟨R, ?_, ?_⟩
        · show q_L 16 81 _ _ _ = _
          rw [e_X1_sendSome_81]
          simp (disch := omega) only [q_470, q_up_far, q_row_row, q_row_self, q_row_ne, q_up_ne, q_up_eq, q_rowup, ud_eq, ud_ne, q_add_id, q_sub_id, q_mul_id, q_w_eq, q_rem_n, q_div_n, ↓reduceIte, leT, leF, ltT, ltF, eqT, eqF, true_or, or_true, false_or, or_false, true_and, and_true, false_and, and_false, or_self, and_self, Option.bind_some, en, e_X1_sendSome_122]
        · intro x x0 x1
          rw [a3 x x0 x1]
          unfold sF
          rw [efr, eg]
          have l0 : lf = 0 := by omega
          by_cases q : S x < 0
          · by_cases q2 : x < i
            · have m1 := sm_mono hH0 (m := x + 1) (n := i) (by omega)
              rw [sm_succ x0] at m1
              have e1 : hF S x = 1 := by unfold hF; rw [if_pos q]
              rw [if_pos ⟨q2, q⟩, if_pos (Or.inl ⟨q, by omega⟩)]
            · have m1 := sm_mono hH0 (m := i) (n := x) (by omega)
              have m2 := sm_mono hH0 (m := x + 1) (n := n) (by omega)
              rw [sm_succ x0] at m2
              have e1 : hF S x = 1 := by unfold hF; rw [if_pos q]
              rw [if_neg (fun hq => q2 hq.1), hR1 x x0 x1, if_neg (by omega), if_neg (by omega)]
          · rw [if_neg (fun hq => q hq.2), hR1 x x0 x1]
            by_cases q2 : (0 ≤ S x ∧ S x ≤ hr - wt) ∧ fr + sm g x < L
            · rw [if_pos q2, if_pos (Or.inr q2)]
            · rw [if_neg q2, if_neg (fun hq => hq.elim (fun a => q a.1) q2)]
    · intro y hI
      obtain ⟨lf, R⟩ := y
      obtain ⟨a1, a2, a3⟩ := hI
      have a1 : lf = fr - sm (hF S) n := a1
      have a2 : 0 ≤ lf := a2
      have a3 : ∀ x, 0 ≤ x → x < n → R x = if x < n ∧ S x < 0 then hr else R1 x := a3
      refine ⟨R, ?_, ?_⟩
      · show q_L 16 81 _ _ _ = _
        rw [e_X1_sendSome_81]
        simp (disch := omega) only [q_470, q_up_far, q_row_row, q_row_self, q_row_ne, q_up_ne, q_up_eq, q_rowup, ud_eq, ud_ne, q_add_id, q_sub_id, q_mul_id, q_w_eq, q_rem_n, q_div_n, ↓reduceIte, leT, leF, ltT, ltF, eqT, eqF, true_or, or_true, false_or, or_false, true_and, and_true, false_and, and_false, or_self, and_self, Option.bind_some, en, e_X1_sendSome_122]
      · intro x x0 x1
        rw [a3 x x0 x1]
        unfold sF
        rw [efr, eg]
        by_cases q : S x < 0
        · have m2 := sm_mono hH0 (m := x + 1) (n := n) (by omega)
          rw [sm_succ x0] at m2
          have e1 : hF S x = 1 := by unfold hF; rw [if_pos q]
          rw [if_pos ⟨x1, q⟩, if_pos (Or.inl ⟨q, by omega⟩)]
        · rw [if_neg (fun hq => q hq.2), hR1 x x0 x1]
          by_cases q2 : (0 ≤ S x ∧ S x ≤ hr - wt) ∧ fr + sm g x < L
          · rw [if_pos q2, if_pos (Or.inr q2)]
          · rw [if_neg q2, if_neg (fun hq => hq.elim (fun a => q a.1) q2)]
  -- the first loop
  have loop1 := lp (fun i (y : Int × (Int → Int)) => q_L 16 16 [(11, b), (0, L), (0, hr), (0, wt), (0, fr), (0, y.1), (0, i), (9, 0)] [] (sh, q_row h (b + 2) y.2)) (fun i y => y.1 = sm g i ∧ fr + y.1 ≤ L ∧ ∀ x, 0 ≤ x → x < n → y.2 x = if x < i ∧ (0 ≤ S x ∧ S x ≤ hr - wt) then hr else S x) (fun r => ∃ R : Int → Int, r = some ((0, cF S n L (hr - wt)), (sh, q_row h (b + 2) R)) ∧ ∀ x, 0 ≤ x → x < n → R x = sF S n L hr (hr - wt) x) n ?_ ?_ 0 (0, S) (by omega) n0 ⟨rfl, by show fr + 0 ≤ L; omega, fun x x0 x1 => by rw [if_neg (by omega)]⟩
  · have loop1 : ∃ R : Int → Int, q_L 16 16 [(11, b), (0, L), (0, hr), (0, wt), (0, fr), (0, 0), (0, 0), (9, 0)] [] (sh, q_row h (b + 2) S) = some ((0, cF S n L (hr - wt)), (sh, q_row h (b + 2) R)) ∧ ∀ x, 0 ≤ x → x < n → R x = sF S n L hr (hr - wt) x := loop1
    obtain ⟨R, r1, r2⟩ := loop1
    refine ⟨R, ?_, r2⟩
    rw [← eS, q_row_id] at r1
    rw [← eS]
    simp (disch := omega) only [q_470, q_up_far, q_row_row, q_row_self, q_row_ne, q_up_ne, q_up_eq, q_rowup, ud_eq, ud_ne, q_add_id, q_sub_id, q_mul_id, q_w_eq, q_rem_n, q_div_n, ↓reduceIte, leT, leF, ltT, ltF, eqT, eqF, true_or, or_true, false_or, or_false, true_and, and_true, false_and, and_false, or_self, and_self, Option.bind_some, c_X1_sendSome, e_X1_sendSome_0, kh, e_X1_sendSome_5, efr2, r1]
  · intro i y i0 i1 hI
    obtain ⟨ov, R⟩ := y
    obtain ⟨a1, a2, a3⟩ := hI
    have a1 : ov = sm g i := a1
    have a2 : fr + ov ≤ L := a2
    have a3 : ∀ x, 0 ≤ x → x < n → R x = if x < i ∧ (0 ≤ S x ∧ S x ≤ hr - wt) then hr else S x := a3
    have ri : R i = S i := by rw [a3 i i0 i1, if_neg (by omega)]
    have si := hS i i0 i1
    have ss := sm_succ (f := g) i0
    have mo := sm_mono hG0 (m := i) (n := n) (by omega)
    have bi := sm_bnd (f := g) (a := 0) (b := 1) (n := i) i0 (fun j _ _ => by have := gF_01 S (hr - wt) j; rw [eg] at this; omega)
    by_cases z : fr + ov < L
    · left
      show ∃ y : Int × (Int → Int), q_L 16 16 [(11, b), (0, L), (0, hr), (0, wt), (0, fr), (0, ov), (0, i), (9, 0)] [] (sh, q_row h (b + 2) R) = q_L 16 16 [(11, b), (0, L), (0, hr), (0, wt), (0, fr), (0, y.1), (0, i + 1), (9, 0)] [] (sh, q_row h (b + 2) y.2) ∧ y.1 = sm g (i + 1) ∧ fr + y.1 ≤ L ∧ ∀ x, 0 ≤ x → x < n → y.2 x = if x < i + 1 ∧ (0 ≤ S x ∧ S x ≤ hr - wt) then hr else S x
      by_cases c1 : 0 ≤ S i ∧ S i ≤ hr - wt
      · have e1 : g i = 1 := by rw [← eg]; unfold gF; rw [if_pos c1]
        refine ⟨(ov + 1, ud R i hr), ?_, by show ov + 1 = _; omega, by show fr + (ov + 1) ≤ L; omega, ?_⟩
        · rw [e_X1_sendSome_16]
          simp (disch := omega) only [q_470, q_up_far, q_row_row, q_row_self, q_row_ne, q_up_ne, q_up_eq, q_rowup, ud_eq, ud_ne, q_add_id, q_sub_id, q_mul_id, q_w_eq, q_rem_n, q_div_n, ↓reduceIte, leT, leF, ltT, ltF, eqT, eqF, true_or, or_true, false_or, or_false, true_and, and_true, false_and, and_false, or_self, and_self, Option.bind_some, p7, l7, en, ri, e_X1_sendSome_68]
        · intro x x0 x1
          show ud R i hr x = _
          by_cases e : x = i
          · rw [ud_eq e, if_pos ⟨by omega, by rw [e]; exact c1⟩]
          · rw [ud_ne e, a3 x x0 x1]
            by_cases q : x < i ∧ (0 ≤ S x ∧ S x ≤ hr - wt)
            · rw [if_pos q, if_pos ⟨by omega, q.2⟩]
            · rw [if_neg q, if_neg (fun hq => q ⟨by omega, hq.2⟩)]
      · have e1 : g i = 0 := by rw [← eg]; unfold gF; rw [if_neg c1]
        refine ⟨(ov, R), ?_, by show ov = _; omega, a2, ?_⟩
        · rw [e_X1_sendSome_16]
          by_cases c2 : S i < 0
          · simp (disch := omega) only [q_470, q_up_far, q_row_row, q_row_self, q_row_ne, q_up_ne, q_up_eq, q_rowup, ud_eq, ud_ne, q_add_id, q_sub_id, q_mul_id, q_w_eq, q_rem_n, q_div_n, ↓reduceIte, leT, leF, ltT, ltF, eqT, eqF, true_or, or_true, false_or, or_false, true_and, and_true, false_and, and_false, or_self, and_self, Option.bind_some, p7, l7, en, ri, e_X1_sendSome_68]
          · have c3 : hr - S i < wt := by omega
            simp (disch := omega) only [q_470, q_up_far, q_row_row, q_row_self, q_row_ne, q_up_ne, q_up_eq, q_rowup, ud_eq, ud_ne, q_add_id, q_sub_id, q_mul_id, q_w_eq, q_rem_n, q_div_n, ↓reduceIte, leT, leF, ltT, ltF, eqT, eqF, true_or, or_true, false_or, or_false, true_and, and_true, false_and, and_false, or_self, and_self, Option.bind_some, p7, l7, en, ri, e_X1_sendSome_68]
        · intro x x0 x1
          show R x = _
          rw [a3 x x0 x1]
          by_cases q : x < i ∧ (0 ≤ S x ∧ S x ≤ hr - wt)
          · rw [if_pos q, if_pos ⟨by omega, q.2⟩]
          · rw [if_neg q, if_neg]
            intro hq
            by_cases e : x = i
            · rw [e] at hq; exact c1 hq.2
            · exact q ⟨by omega, hq.2⟩
    · right
      have ec : cF S n L (hr - wt) = fr + ov := by
        unfold cF
        rw [efr, eg]
        split <;> omega
      show ∃ R' : Int → Int, q_L 16 16 [(11, b), (0, L), (0, hr), (0, wt), (0, fr), (0, ov), (0, i), (9, 0)] [] (sh, q_row h (b + 2) R) = some ((0, cF S n L (hr - wt)), (sh, q_row h (b + 2) R')) ∧ _
      rw [ec, e_X1_sendSome_16]
      obtain ⟨R', r1, r2⟩ := loop2 ov R (by omega) (by omega) (fun x x0 x1 => by
        rw [a3 x x0 x1]
        by_cases q : 0 ≤ S x ∧ S x ≤ hr - wt
        · by_cases q2 : x < i
          · have m1 := sm_mono hG0 (m := x + 1) (n := i) (by omega)
            rw [sm_succ x0] at m1
            have e1 : g x = 1 := by rw [← eg]; unfold gF; rw [if_pos q]
            rw [if_pos ⟨q2, q⟩, if_pos ⟨q, by omega⟩]
          · have m1 := sm_mono hG0 (m := i) (n := x) (by omega)
            rw [if_neg (fun hq => q2 hq.1), if_neg (by omega)]
        · rw [if_neg (fun hq => q hq.2), if_neg (fun hq => q hq.1)]) i
      refine ⟨R', ?_, r2⟩
      simp (disch := omega) only [q_470, q_up_far, q_row_row, q_row_self, q_row_ne, q_up_ne, q_up_eq, q_rowup, ud_eq, ud_ne, q_add_id, q_sub_id, q_mul_id, q_w_eq, q_rem_n, q_div_n, ↓reduceIte, leT, leF, ltT, ltF, eqT, eqF, true_or, or_true, false_or, or_false, true_and, and_true, false_and, and_false, or_self, and_self, Option.bind_some, en, r1]
  · intro y hI
    obtain ⟨ov, R⟩ := y
    obtain ⟨a1, a2, a3⟩ := hI
    have a1 : ov = sm g n := a1
    have a2 : fr + ov ≤ L := a2
    have a3 : ∀ x, 0 ≤ x → x < n → R x = if x < n ∧ (0 ≤ S x ∧ S x ≤ hr - wt) then hr else S x := a3
    have ec : cF S n L (hr - wt) = fr + ov := by
      unfold cF
      rw [efr, eg]
      split <;> omega
    show ∃ R' : Int → Int, q_L 16 16 [(11, b), (0, L), (0, hr), (0, wt), (0, fr), (0, ov), (0, n), (9, 0)] [] (sh, q_row h (b + 2) R) = some ((0, cF S n L (hr - wt)), (sh, q_row h (b + 2) R')) ∧ _
    rw [ec, e_X1_sendSome_16]
    obtain ⟨R', r1, r2⟩ := loop2 ov R (by omega) (by omega) (fun x x0 x1 => by
      rw [a3 x x0 x1]
      by_cases q : 0 ≤ S x ∧ S x ≤ hr - wt
      · have m1 := sm_mono hG0 (m := x + 1) (n := n) (by omega)
        rw [sm_succ x0] at m1
        have e1 : g x = 1 := by rw [← eg]; unfold gF; rw [if_pos q]
        rw [if_pos ⟨x1, q⟩, if_pos ⟨q, by omega⟩]
      · rw [if_neg (fun hq => q hq.2), if_neg (fun hq => q hq.1)]) n
    refine ⟨R', ?_, r2⟩
    simp (disch := omega) only [q_470, q_up_far, q_row_row, q_row_self, q_row_ne, q_up_ne, q_up_eq, q_rowup, ud_eq, ud_ne, q_add_id, q_sub_id, q_mul_id, q_w_eq, q_rem_n, q_div_n, ↓reduceIte, leT, leF, ltT, ltF, eqT, eqF, true_or, or_true, false_or, or_false, true_and, and_true, false_and, and_false, or_self, and_self, Option.bind_some, en, r1]
/-- the reference sends -/
def sendG (G : Int → Int) (c L : Int) : Int → Int := fun y => if 300 + 12 * c ≤ y ∧ y < 300 + 12 * c + G (108 + c) then sF (fun k => G (300 + 12 * c + k)) (G (108 + c)) L (G 0) (G 0 - 2 * G (84 + c)) (y - (300 + 12 * c)) else G y
def sentN (G : Int → Int) (c L : Int) : Int := cF (fun k => G (300 + 12 * c + k)) (G (108 + c)) L (G 0 - 2 * G (84 + c))
theorem r_wasOld {sh : Int × (Int → Nat × Int)} {h : Int → Int → Int} {c d L : Int} {G : Int → Int} (e0 : h 469 0 = 470) (e27 : h 469 27 = 487) (l : (sh.2 470).2 = 1354) (l27 : (sh.2 487).2 = 12) (hG : h 470 = G) (wr : WFR G) (c0 : 0 ≤ c) (c1 : c < 8) (Q : q_R → Prop) (hQ : ∀ (W : Int → Int) (x7 : q_V), (∀ x, 0 ≤ x → x < G (108 + c) → W x = gF (fun k => G (300 + 12 * c + k)) (G 0 - 2 * G (84 + c)) x) → Q (q_L 221 107 [(22, 469), (0, c), (0, d), (0, L), (0, G (108 + c)), (0, 0), (0, 0), x7, (9, 0)] [] (sh, q_row h 487 W))) : Q (q_L 221 33 [(22, 469), (0, c), (0, d), (0, L), (0, G (108 + c)), (0, 0), (0, 0), (9, 0), (9, 0)] [] (sh, h)) := by
  have r0 := wr.blocks (d := c) c0 (by omega)
  have rf := wr.far (d := c) c0 (by omega)
  have u0 := wr.hour
  have := lp (fun i (y : q_V × (Int → Int)) => q_L 221 33 [(22, 469), (0, c), (0, d), (0, L), (0, G (108 + c)), (0, 0), (0, i), y.1, (9, 0)] [] (sh, q_row h 487 y.2)) (fun i y => ∀ x, 0 ≤ x → x < i → y.2 x = gF (fun k => G (300 + 12 * c + k)) (G 0 - 2 * G (84 + c)) x) Q (G (108 + c)) ?_ ?_ 0 ((9, 0), h 487) (by omega) r0.1 (fun x a b => by omega)
  · have this : Q (q_L 221 33 [(22, 469), (0, c), (0, d), (0, L), (0, G (108 + c)), (0, 0), (0, 0), (9, 0), (9, 0)] [] (sh, q_row h 487 (h 487))) := this
    rw [q_row_id] at this
    exact this
  · intro i y i0 i1 hI
    obtain ⟨x7, W⟩ := y
    have hI : ∀ x, 0 ≤ x → x < i → W x = gF (fun k => G (300 + 12 * c + k)) (G 0 - 2 * G (84 + c)) x := hI
    left
    refine ⟨((0, G (300 + 12 * c + i)), ud W i (gF (fun k => G (300 + 12 * c + k)) (G 0 - 2 * G (84 + c)) i)), ?_, ?_⟩
    · show q_L 221 33 [(22, 469), (0, c), (0, d), (0, L), (0, G (108 + c)), (0, 0), (0, i), x7, (9, 0)] [] (sh, q_row h 487 W) = q_L 221 33 [(22, 469), (0, c), (0, d), (0, L), (0, G (108 + c)), (0, 0), (0, i + 1), (0, G (300 + 12 * c + i)), (9, 0)] [] (sh, q_row h 487 (ud W i (gF (fun k => G (300 + 12 * c + k)) (G 0 - 2 * G (84 + c)) i)))
      unfold gF
      rw [e_X12_sends_33]
      by_cases z1 : G (300 + 12 * c + i) < 0
      · simp (disch := omega) only [q_470, q_up_far, q_row_row, q_row_self, q_row_ne, q_up_ne, q_up_eq, q_rowup, ud_eq, ud_ne, q_add_id, q_sub_id, q_mul_id, q_w_eq, q_rem_n, q_div_n, ↓reduceIte, leT, leF, ltT, ltF, eqT, eqF, true_or, or_true, false_or, or_false, true_and, and_true, false_and, and_false, or_self, and_self, Option.bind_some, e0, e27, l, l27, hG, e_X12_sends_96, e_X12_sends_97]
      · by_cases z2 : G (300 + 12 * c + i) ≤ G 0 - 2 * G (84 + c) <;> simp (disch := omega) only [q_470, q_up_far, q_row_row, q_row_self, q_row_ne, q_up_ne, q_up_eq, q_rowup, ud_eq, ud_ne, q_add_id, q_sub_id, q_mul_id, q_w_eq, q_rem_n, q_div_n, ↓reduceIte, leT, leF, ltT, ltF, eqT, eqF, true_or, or_true, false_or, or_false, true_and, and_true, false_and, and_false, or_self, and_self, Option.bind_some, e0, e27, l, l27, hG, e_X12_sends_96, e_X12_sends_97]
    · intro x x0 x1
      show ud W i _ x = _
      by_cases e : x = i
      · rw [ud_eq e, e]
      · rw [ud_ne e]; exact hI x x0 (by omega)
  · intro y hI
    obtain ⟨x7, W⟩ := y
    have := hQ W x7 hI
    show Q (q_L 221 33 [(22, 469), (0, c), (0, d), (0, L), (0, G (108 + c)), (0, 0), (0, G (108 + c)), x7, (9, 0)] [] (sh, q_row h 487 W))
    rw [e_X12_sends_33]
    simp (disch := omega) only [q_470, q_up_far, q_row_row, q_row_self, q_row_ne, q_up_ne, q_up_eq, q_rowup, ud_eq, ud_ne, q_add_id, q_sub_id, q_mul_id, q_w_eq, q_rem_n, q_div_n, ↓reduceIte, leT, leF, ltT, ltF, eqT, eqF, true_or, or_true, false_or, or_false, true_and, and_true, false_and, and_false, or_self, and_self, Option.bind_some, ]
    exact this
theorem r_sends {sh : Int × (Int → Nat × Int)} {h : Int → Int → Int} {c d : Int} {G : Int → Int} (e0 : h 469 0 = 470) (e27 : h 469 27 = 487) (l : (sh.2 470).2 = 1354) (l27 : (sh.2 487).2 = 12) (wr : WFR G) (c0 : 0 ≤ c) (c1 : c < 8) (d0 : 0 ≤ d) (d1 : d < 6) : ∃ W : Int → Int, q_Cc 221 [(22, 469), (0, c), (0, d)] (sh, q_row h 470 G) = some ((0, sentN G c (linkF G c d (G 0) / 8)), (sh, q_row (q_row h 487 W) 470 (sendG G c (linkF G c d (G 0) / 8)))) := by
  have r0 := wr.blocks (d := c) c0 (by omega)
  have rf := wr.far (d := c) c0 (by omega)
  have u0 := wr.hour
  have lk := r_linkOf (sh := sh) (h := q_row h 470 G) (c := c) (d := d) (t := G 0) (G := G) (by rw [q_row_ne (by decide)]; exact e0) l (q_row_self _ _ _) wr c0 c1 d0 d1 u0.1 (by omega)
  have lb := linkF_b (t := G 0) wr c0 c1 d0 d1 u0.1
  obtain ⟨L, eL⟩ : ∃ L, linkF G c d (G 0) / 8 = L := ⟨_, rfl⟩
  have L0 : 0 ≤ L ∧ L ≤ 10 := by omega
  obtain ⟨n, en⟩ : ∃ n, G (108 + c) = n := ⟨_, rfl⟩
  obtain ⟨S, eS⟩ : ∃ S : Int → Int, (fun k => G (300 + 12 * c + k)) = S := ⟨_, rfl⟩
  have Sx : ∀ x, S x = G (300 + 12 * c + x) := fun x => by rw [← eS]
  obtain ⟨t, et⟩ : ∃ t, G 0 - 2 * G (84 + c) = t := ⟨_, rfl⟩
  have hH0 : ∀ i : Int, 0 ≤ hF S i := fun i => by have := hF_01 S i; omega
  have hG0 : ∀ i : Int, 0 ≤ gF S t i := fun i => by have := gF_01 S t i; omega
  rw [en] at r0
  have fb := frF_b (S := S) (n := n) (L := L) r0.1 L0.1
  have efr3 : frF S n L = sm (hF S) n ∨ frF S n L = L := by unfold frF; split <;> omega
  have efr4 : frF S n L = if sm (hF S) n < L then sm (hF S) n else L := rfl
  obtain ⟨fr, efr⟩ : ∃ fr, frF S n L = fr := ⟨_, rfl⟩
  rw [efr] at fb efr3 efr4
  have eS0 : ∀ x, 0 ≤ x → x < n → G (300 + 12 * c + x) = S x := fun x _ _ => (Sx x).symm
  have bH := sm_bnd (f := hF S) (a := 0) (b := 1) (n := n) r0.1 (fun j _ _ => by have := hF_01 S j; omega)
  have bG := sm_bnd (f := gF S t) (a := 0) (b := 1) (n := n) r0.1 (fun j _ _ => by have := gF_01 S t j; omega)
  have esent : sentN G c L = fr + (if sm (gF S t) n < L - fr then sm (gF S t) n else L - fr) := by
    unfold sentN cF
    rw [en, et, eS, efr]
  -- the row that is sent
  have eF : ∀ F : Int → Int, (∀ z, (z < 300 + 12 * c ∨ 300 + 12 * c + n ≤ z) → F z = G z) → (∀ x, 0 ≤ x → x < n → F (300 + 12 * c + x) = if (S x < 0 ∧ sm (hF S) x < L) ∨ ((0 ≤ S x ∧ S x ≤ t) ∧ fr + sm (gF S t) x < L) then G 0 else S x) → F = sendG G c L := by
    intro F f1 f2
    funext y
    unfold sendG sF
    rw [en, et, eS, efr]
    by_cases z : 300 + 12 * c ≤ y ∧ y < 300 + 12 * c + n
    · rw [if_pos z]
      have := f2 (y - (300 + 12 * c)) (by omega) (by omega)
      rw [show 300 + 12 * c + (y - (300 + 12 * c)) = y by omega] at this
      exact this
    · rw [if_neg z]; exact f1 y (by omega)
  -- round 1
  have round1 : ∀ (W F : Int → Int) (x8 : q_V), (∀ x, 0 ≤ x → x < n → W x = gF S t x) → (∀ y, (y < 300 + 12 * c ∨ 300 + 12 * c + n ≤ y) → F y = G y) → (∀ x, 0 ≤ x → x < n → F (300 + 12 * c + x) = if S x < 0 ∧ sm (hF S) x < L then G 0 else S x) → q_L 221 116 [(22, 469), (0, c), (0, d), (0, L - fr), (0, n), (0, fr), (0, 1), (0, 0), x8] [] (sh, q_row (q_row h 487 W) 470 F) = some ((0, sentN G c L), (sh, q_row (q_row h 487 W) 470 (sendG G c L))) := by
    intro W F x8 hW hF1 hF2
    have fin : ∀ (k : Int) (x8 : q_V) (a7 : Int) (F1 : Int → Int), fr + k = sentN G c L → F1 = sendG G c L → q_L 221 196 [(22, 469), (0, c), (0, d), (0, L - fr - k), (0, n), (0, fr + k), (0, 1), (0, a7), x8] [] (sh, q_row (q_row h 487 W) 470 F1) = some ((0, sentN G c L), (sh, q_row (q_row h 487 W) 470 (sendG G c L))) := by
      intro k x8 a7 F1 k1 k2
      rw [e_X12_sends_196, k1, k2]
      simp (disch := omega) only [q_470, q_up_far, q_row_row, q_row_self, q_row_ne, q_up_ne, q_up_eq, q_rowup, ud_eq, ud_ne, q_add_id, q_sub_id, q_mul_id, q_w_eq, q_rem_n, q_div_n, ↓reduceIte, leT, leF, ltT, ltF, eqT, eqF, true_or, or_true, false_or, or_false, true_and, and_true, false_and, and_false, or_self, and_self, Option.bind_some, e_X12_sends_107, Int.reduceAdd]
    have q := lp (fun i (y : (Int × q_V) × (Int → Int)) => q_L 221 116 [(22, 469), (0, c), (0, d), (0, L - fr - y.1.1), (0, n), (0, fr + y.1.1), (0, 1), (0, i), y.1.2] [] (sh, q_row (q_row h 487 W) 470 y.2)) (fun i y => y.1.1 = sm (gF S t) i ∧ fr + y.1.1 ≤ L ∧ (∀ z, (z < 300 + 12 * c ∨ 300 + 12 * c + n ≤ z) → y.2 z = G z) ∧ ∀ x, 0 ≤ x → x < n → y.2 (300 + 12 * c + x) = if x < i ∧ (0 ≤ S x ∧ S x ≤ t) then G 0 else F (300 + 12 * c + x)) (fun r => r = some ((0, sentN G c L), (sh, q_row (q_row h 487 W) 470 (sendG G c L)))) n ?_ ?_ 0 ((0, x8), F) (by omega) r0.1 ⟨rfl, by show fr + 0 ≤ L; omega, hF1, fun x x0 x1 => by rw [if_neg (by omega)]⟩
    · have q : q_L 221 116 [(22, 469), (0, c), (0, d), (0, L - fr - 0), (0, n), (0, fr + 0), (0, 1), (0, 0), x8] [] (sh, q_row (q_row h 487 W) 470 F) = some ((0, sentN G c L), (sh, q_row (q_row h 487 W) 470 (sendG G c L))) := q
      rw [Int.sub_zero, Int.add_zero] at q
      exact q
    · intro i y i0 i1 hI
      obtain ⟨⟨k, x8⟩, F1⟩ := y
      obtain ⟨a1, a2, a3, a4⟩ := hI
      have a1 : k = sm (gF S t) i := a1
      have a2 : fr + k ≤ L := a2
      have a3 : ∀ z, (z < 300 + 12 * c ∨ 300 + 12 * c + n ≤ z) → F1 z = G z := a3
      have a4 : ∀ x, 0 ≤ x → x < n → F1 (300 + 12 * c + x) = if x < i ∧ (0 ≤ S x ∧ S x ≤ t) then G 0 else F (300 + 12 * c + x) := a4
      have ss := sm_succ (f := gF S t) i0
      have bi := sm_bnd (f := gF S t) (a := 0) (b := 1) (n := i) i0 (fun j _ _ => by have := gF_01 S t j; omega)
      have mo := sm_mono hG0 (m := i) (n := n) (by omega)
      have wi := hW i i0 i1
      have f0 : F1 0 = G 0 := a3 0 (by omega)
      by_cases z : 0 < L - fr - k
      · left
        show ∃ y : (Int × q_V) × (Int → Int), q_L 221 116 [(22, 469), (0, c), (0, d), (0, L - fr - k), (0, n), (0, fr + k), (0, 1), (0, i), x8] [] (sh, q_row (q_row h 487 W) 470 F1) = q_L 221 116 [(22, 469), (0, c), (0, d), (0, L - fr - y.1.1), (0, n), (0, fr + y.1.1), (0, 1), (0, i + 1), y.1.2] [] (sh, q_row (q_row h 487 W) 470 y.2) ∧ y.1.1 = sm (gF S t) (i + 1) ∧ fr + y.1.1 ≤ L ∧ (∀ z, (z < 300 + 12 * c ∨ 300 + 12 * c + n ≤ z) → y.2 z = G z) ∧ ∀ x, 0 ≤ x → x < n → y.2 (300 + 12 * c + x) = if x < i + 1 ∧ (0 ≤ S x ∧ S x ≤ t) then G 0 else F (300 + 12 * c + x)
        by_cases c2 : 0 ≤ S i ∧ S i ≤ t
        · have e1 : gF S t i = 1 := by unfold gF; rw [if_pos c2]
          rw [e1] at wi
          refine ⟨((k + 1, (0, 300 + 12 * c + i)), ud F1 (300 + 12 * c + i) (G 0)), ?_, by show k + 1 = _; omega, by show fr + (k + 1) ≤ L; omega, ?_, ?_⟩
          · rw [e_X12_sends_116]
            have m1 : L - fr - k + (-1) = L - fr - (k + 1) := by omega
            have m2 : fr + k + 1 = fr + (k + 1) := by omega
            simp (disch := omega) only [q_470, q_up_far, q_row_row, q_row_self, q_row_ne, q_up_ne, q_up_eq, q_rowup, ud_eq, ud_ne, q_add_id, q_sub_id, q_mul_id, q_w_eq, q_rem_n, q_div_n, ↓reduceIte, leT, leF, ltT, ltF, eqT, eqF, true_or, or_true, false_or, or_false, true_and, and_true, false_and, and_false, or_self, and_self, Option.bind_some, e0, e27, l, l27, wi, f0, e_X12_sends_171, e_X12_sends_190, m1, m2]
          · intro z hz
            show ud F1 _ _ z = G z
            rw [ud_ne (by omega)]; exact a3 z hz
          · intro x x0 x1
            show ud F1 _ _ (300 + 12 * c + x) = _
            by_cases e : x = i
            · rw [ud_eq (by omega), if_pos ⟨by omega, by rw [e]; exact c2⟩]
            · rw [ud_ne (by omega), a4 x x0 x1]
              by_cases p : x < i ∧ (0 ≤ S x ∧ S x ≤ t)
              · rw [if_pos p, if_pos ⟨by omega, p.2⟩]
              · rw [if_neg p, if_neg (fun hq => p ⟨by omega, hq.2⟩)]
        · have e1 : gF S t i = 0 := by unfold gF; rw [if_neg c2]
          rw [e1] at wi
          refine ⟨((k, (0, 300 + 12 * c + i)), F1), ?_, by show k = _; omega, a2, a3, ?_⟩
          · rw [e_X12_sends_116]
            simp (disch := omega) only [q_470, q_up_far, q_row_row, q_row_self, q_row_ne, q_up_ne, q_up_eq, q_rowup, ud_eq, ud_ne, q_add_id, q_sub_id, q_mul_id, q_w_eq, q_rem_n, q_div_n, ↓reduceIte, leT, leF, ltT, ltF, eqT, eqF, true_or, or_true, false_or, or_false, true_and, and_true, false_and, and_false, or_self, and_self, Option.bind_some, e0, e27, l, l27, wi, f0, e_X12_sends_171, e_X12_sends_190]
          · intro x x0 x1
            show F1 (300 + 12 * c + x) = _
            rw [a4 x x0 x1]
            by_cases p : x < i ∧ (0 ≤ S x ∧ S x ≤ t)
            · rw [if_pos p, if_pos ⟨by omega, p.2⟩]
            · rw [if_neg p, if_neg]
              intro hq
              by_cases e : x = i
              · rw [e] at hq; exact c2 hq.2
              · exact p ⟨by omega, hq.2⟩
      · right
        have es : fr + k = sentN G c L := by rw [esent]; split <;> omega
        have eR : F1 = sendG G c L := by
          apply eF F1 a3
          intro x x0 x1
          rw [a4 x x0 x1, hF2 x x0 x1]
          by_cases p : 0 ≤ S x ∧ S x ≤ t
          · by_cases p2 : x < i
            · have m1 := sm_mono hG0 (m := x + 1) (n := i) (by omega)
              rw [sm_succ x0] at m1
              have e1 : gF S t x = 1 := by unfold gF; rw [if_pos p]
              rw [if_pos ⟨p2, p⟩, if_pos (Or.inr ⟨p, by omega⟩)]
            · have m1 := sm_mono hG0 (m := i) (n := x) (by omega)
              rw [if_neg (fun hq => p2 hq.1), if_neg (by omega), if_neg (by omega)]
          · rw [if_neg (fun hq => p hq.2)]
            by_cases p3 : S x < 0 ∧ sm (hF S) x < L
            · rw [if_pos p3, if_pos (Or.inl p3)]
            · rw [if_neg p3, if_neg (fun hq => hq.elim p3 (fun a => p a.1))]
        show q_L 221 116 [(22, 469), (0, c), (0, d), (0, L - fr - k), (0, n), (0, fr + k), (0, 1), (0, i), x8] [] (sh, q_row (q_row h 487 W) 470 F1) = _
        rw [e_X12_sends_116]
        have := fin k x8 i F1 es eR
        simp (disch := omega) only [q_470, q_up_far, q_row_row, q_row_self, q_row_ne, q_up_ne, q_up_eq, q_rowup, ud_eq, ud_ne, q_add_id, q_sub_id, q_mul_id, q_w_eq, q_rem_n, q_div_n, ↓reduceIte, leT, leF, ltT, ltF, eqT, eqF, true_or, or_true, false_or, or_false, true_and, and_true, false_and, and_false, or_self, and_self, Option.bind_some, this]
    · intro y hI
      obtain ⟨⟨k, x8⟩, F1⟩ := y
      obtain ⟨a1, a2, a3, a4⟩ := hI
      have a1 : k = sm (gF S t) n := a1
      have a2 : fr + k ≤ L := a2
      have a3 : ∀ z, (z < 300 + 12 * c ∨ 300 + 12 * c + n ≤ z) → F1 z = G z := a3
      have a4 : ∀ x, 0 ≤ x → x < n → F1 (300 + 12 * c + x) = if x < n ∧ (0 ≤ S x ∧ S x ≤ t) then G 0 else F (300 + 12 * c + x) := a4
      have es : fr + k = sentN G c L := by rw [esent]; split <;> omega
      have eR : F1 = sendG G c L := by
        apply eF F1 a3
        intro x x0 x1
        rw [a4 x x0 x1, hF2 x x0 x1]
        by_cases p : 0 ≤ S x ∧ S x ≤ t
        · have m1 := sm_mono hG0 (m := x + 1) (n := n) (by omega)
          rw [sm_succ x0] at m1
          have e1 : gF S t x = 1 := by unfold gF; rw [if_pos p]
          rw [if_pos ⟨x1, p⟩, if_pos (Or.inr ⟨p, by omega⟩)]
        · rw [if_neg (fun hq => p hq.2)]
          by_cases p3 : S x < 0 ∧ sm (hF S) x < L
          · rw [if_pos p3, if_pos (Or.inl p3)]
          · rw [if_neg p3, if_neg (fun hq => hq.elim p3 (fun a => p a.1))]
      show q_L 221 116 [(22, 469), (0, c), (0, d), (0, L - fr - k), (0, n), (0, fr + k), (0, 1), (0, n), x8] [] (sh, q_row (q_row h 487 W) 470 F1) = _
      rw [e_X12_sends_116]
      have := fin k x8 n F1 es eR
      simp (disch := omega) only [q_470, q_up_far, q_row_row, q_row_self, q_row_ne, q_up_ne, q_up_eq, q_rowup, ud_eq, ud_ne, q_add_id, q_sub_id, q_mul_id, q_w_eq, q_rem_n, q_div_n, ↓reduceIte, leT, leF, ltT, ltF, eqT, eqF, true_or, or_true, false_or, or_false, true_and, and_true, false_and, and_false, or_self, and_self, Option.bind_some, this]
  -- round 0
  have round0 : ∀ (W : Int → Int) (x8 : q_V), (∀ x, 0 ≤ x → x < n → W x = gF S t x) → q_L 221 116 [(22, 469), (0, c), (0, d), (0, L), (0, n), (0, 0), (0, 0), (0, 0), x8] [] (sh, q_row (q_row h 487 W) 470 G) = some ((0, sentN G c L), (sh, q_row (q_row h 487 W) 470 (sendG G c L))) := by
    intro W x8 hW
    have fin : ∀ (k : Int) (x8 : q_V) (a7 : Int) (F1 : Int → Int), k = fr → (∀ z, (z < 300 + 12 * c ∨ 300 + 12 * c + n ≤ z) → F1 z = G z) → (∀ x, 0 ≤ x → x < n → F1 (300 + 12 * c + x) = if S x < 0 ∧ sm (hF S) x < L then G 0 else S x) → q_L 221 196 [(22, 469), (0, c), (0, d), (0, L - k), (0, n), (0, k), (0, 0), (0, a7), x8] [] (sh, q_row (q_row h 487 W) 470 F1) = some ((0, sentN G c L), (sh, q_row (q_row h 487 W) 470 (sendG G c L))) := by
      intro k x8 a7 F1 k1 f1 f2
      subst k1
      have := round1 W F1 x8 hW f1 f2
      rw [e_X12_sends_196]
      simp (disch := omega) only [q_470, q_up_far, q_row_row, q_row_self, q_row_ne, q_up_ne, q_up_eq, q_rowup, ud_eq, ud_ne, q_add_id, q_sub_id, q_mul_id, q_w_eq, q_rem_n, q_div_n, ↓reduceIte, leT, leF, ltT, ltF, eqT, eqF, true_or, or_true, false_or, or_false, true_and, and_true, false_and, and_false, or_self, and_self, Option.bind_some, e_X12_sends_107, Int.zero_add, this]
    have q := lp (fun i (y : (Int × q_V) × (Int → Int)) => q_L 221 116 [(22, 469), (0, c), (0, d), (0, L - y.1.1), (0, n), (0, y.1.1), (0, 0), (0, i), y.1.2] [] (sh, q_row (q_row h 487 W) 470 y.2)) (fun i y => y.1.1 = sm (hF S) i ∧ y.1.1 ≤ L ∧ (∀ z, (z < 300 + 12 * c ∨ 300 + 12 * c + n ≤ z) → y.2 z = G z) ∧ ∀ x, 0 ≤ x → x < n → y.2 (300 + 12 * c + x) = if x < i ∧ S x < 0 then G 0 else S x) (fun r => r = some ((0, sentN G c L), (sh, q_row (q_row h 487 W) 470 (sendG G c L)))) n ?_ ?_ 0 ((0, x8), G) (by omega) r0.1 ⟨rfl, L0.1, fun _ _ => rfl, fun x x0 x1 => by rw [if_neg (by omega)]; exact eS0 x x0 x1⟩
    · have q : q_L 221 116 [(22, 469), (0, c), (0, d), (0, L - 0), (0, n), (0, 0), (0, 0), (0, 0), x8] [] (sh, q_row (q_row h 487 W) 470 G) = some ((0, sentN G c L), (sh, q_row (q_row h 487 W) 470 (sendG G c L))) := q
      rw [Int.sub_zero] at q
      exact q
    · intro i y i0 i1 hI
      obtain ⟨⟨k, x8⟩, F1⟩ := y
      obtain ⟨a1, a2, a3, a4⟩ := hI
      have a1 : k = sm (hF S) i := a1
      have a2 : k ≤ L := a2
      have a3 : ∀ z, (z < 300 + 12 * c ∨ 300 + 12 * c + n ≤ z) → F1 z = G z := a3
      have a4 : ∀ x, 0 ≤ x → x < n → F1 (300 + 12 * c + x) = if x < i ∧ S x < 0 then G 0 else S x := a4
      have ss := sm_succ (f := hF S) i0
      have bi := sm_bnd (f := hF S) (a := 0) (b := 1) (n := i) i0 (fun j _ _ => by have := hF_01 S j; omega)
      have mo := sm_mono hH0 (m := i) (n := n) (by omega)
      have f0 : F1 0 = G 0 := a3 0 (by omega)
      have fi : F1 (300 + 12 * c + i) = S i := by rw [a4 i i0 i1, if_neg (by omega)]
      by_cases z : 0 < L - k
      · left
        show ∃ y : (Int × q_V) × (Int → Int), q_L 221 116 [(22, 469), (0, c), (0, d), (0, L - k), (0, n), (0, k), (0, 0), (0, i), x8] [] (sh, q_row (q_row h 487 W) 470 F1) = q_L 221 116 [(22, 469), (0, c), (0, d), (0, L - y.1.1), (0, n), (0, y.1.1), (0, 0), (0, i + 1), y.1.2] [] (sh, q_row (q_row h 487 W) 470 y.2) ∧ y.1.1 = sm (hF S) (i + 1) ∧ y.1.1 ≤ L ∧ (∀ z, (z < 300 + 12 * c ∨ 300 + 12 * c + n ≤ z) → y.2 z = G z) ∧ ∀ x, 0 ≤ x → x < n → y.2 (300 + 12 * c + x) = if x < i + 1 ∧ S x < 0 then G 0 else S x
        by_cases c2 : S i < 0
        · have e1 : hF S i = 1 := by unfold hF; rw [if_pos c2]
          refine ⟨((k + 1, (0, 300 + 12 * c + i)), ud F1 (300 + 12 * c + i) (G 0)), ?_, by show k + 1 = _; omega, by show k + 1 ≤ L; omega, ?_, ?_⟩
          · rw [e_X12_sends_116]
            have m1 : L - k + (-1) = L - (k + 1) := by omega
            simp (disch := omega) only [q_470, q_up_far, q_row_row, q_row_self, q_row_ne, q_up_ne, q_up_eq, q_rowup, ud_eq, ud_ne, q_add_id, q_sub_id, q_mul_id, q_w_eq, q_rem_n, q_div_n, ↓reduceIte, leT, leF, ltT, ltF, eqT, eqF, true_or, or_true, false_or, or_false, true_and, and_true, false_and, and_false, or_self, and_self, Option.bind_some, e0, e27, l, l27, fi, f0, e_X12_sends_171, e_X12_sends_190, m1]
          · intro z hz
            show ud F1 _ _ z = G z
            rw [ud_ne (by omega)]; exact a3 z hz
          · intro x x0 x1
            show ud F1 _ _ (300 + 12 * c + x) = _
            by_cases e : x = i
            · rw [ud_eq (by omega), if_pos ⟨by omega, by rw [e]; exact c2⟩]
            · rw [ud_ne (by omega), a4 x x0 x1]
              by_cases p : x < i ∧ S x < 0
              · rw [if_pos p, if_pos ⟨by omega, p.2⟩]
              · rw [if_neg p, if_neg (fun hq => p ⟨by omega, hq.2⟩)]
        · have e1 : hF S i = 0 := by unfold hF; rw [if_neg c2]
          refine ⟨((k, (0, 300 + 12 * c + i)), F1), ?_, by show k = _; omega, a2, a3, ?_⟩
          · rw [e_X12_sends_116]
            simp (disch := omega) only [q_470, q_up_far, q_row_row, q_row_self, q_row_ne, q_up_ne, q_up_eq, q_rowup, ud_eq, ud_ne, q_add_id, q_sub_id, q_mul_id, q_w_eq, q_rem_n, q_div_n, ↓reduceIte, leT, leF, ltT, ltF, eqT, eqF, true_or, or_true, false_or, or_false, true_and, and_true, false_and, and_false, or_self, and_self, Option.bind_some, e0, e27, l, l27, fi, f0, e_X12_sends_171, e_X12_sends_190]
          · intro x x0 x1
            show F1 (300 + 12 * c + x) = _
            rw [a4 x x0 x1]
            by_cases p : x < i ∧ S x < 0
            · rw [if_pos p, if_pos ⟨by omega, p.2⟩]
            · rw [if_neg p, if_neg]
              intro hq
              by_cases e : x = i
              · rw [e] at hq; exact c2 hq.2
              · exact p ⟨by omega, hq.2⟩
      · right
        have ek : k = fr := by omega
        show q_L 221 116 [(22, 469), (0, c), (0, d), (0, L - k), (0, n), (0, k), (0, 0), (0, i), x8] [] (sh, q_row (q_row h 487 W) 470 F1) = _
        rw [e_X12_sends_116]
        have := fin k x8 i F1 ek a3 (fun x x0 x1 => by
          rw [a4 x x0 x1]
          by_cases p : S x < 0
          · by_cases p2 : x < i
            · have m1 := sm_mono hH0 (m := x + 1) (n := i) (by omega)
              rw [sm_succ x0] at m1
              have e1 : hF S x = 1 := by unfold hF; rw [if_pos p]
              rw [if_pos ⟨p2, p⟩, if_pos ⟨p, by omega⟩]
            · have m1 := sm_mono hH0 (m := i) (n := x) (by omega)
              rw [if_neg (fun hq => p2 hq.1), if_neg (by omega)]
          · rw [if_neg (fun hq => p hq.2), if_neg (fun hq => p hq.1)])
        simp (disch := omega) only [q_470, q_up_far, q_row_row, q_row_self, q_row_ne, q_up_ne, q_up_eq, q_rowup, ud_eq, ud_ne, q_add_id, q_sub_id, q_mul_id, q_w_eq, q_rem_n, q_div_n, ↓reduceIte, leT, leF, ltT, ltF, eqT, eqF, true_or, or_true, false_or, or_false, true_and, and_true, false_and, and_false, or_self, and_self, Option.bind_some, this]
    · intro y hI
      obtain ⟨⟨k, x8⟩, F1⟩ := y
      obtain ⟨a1, a2, a3, a4⟩ := hI
      have a1 : k = sm (hF S) n := a1
      have a2 : k ≤ L := a2
      have a3 : ∀ z, (z < 300 + 12 * c ∨ 300 + 12 * c + n ≤ z) → F1 z = G z := a3
      have a4 : ∀ x, 0 ≤ x → x < n → F1 (300 + 12 * c + x) = if x < n ∧ S x < 0 then G 0 else S x := a4
      have ek : k = fr := by omega
      show q_L 221 116 [(22, 469), (0, c), (0, d), (0, L - k), (0, n), (0, k), (0, 0), (0, n), x8] [] (sh, q_row (q_row h 487 W) 470 F1) = _
      rw [e_X12_sends_116]
      have := fin k x8 n F1 ek a3 (fun x x0 x1 => by
        rw [a4 x x0 x1]
        by_cases p : S x < 0
        · have m1 := sm_mono hH0 (m := x + 1) (n := n) (by omega)
          rw [sm_succ x0] at m1
          have e1 : hF S x = 1 := by unfold hF; rw [if_pos p]
          rw [if_pos ⟨x1, p⟩, if_pos ⟨p, by omega⟩]
        · rw [if_neg (fun hq => p hq.2), if_neg (fun hq => p hq.1)])
      simp (disch := omega) only [q_470, q_up_far, q_row_row, q_row_self, q_row_ne, q_up_ne, q_up_eq, q_rowup, ud_eq, ud_ne, q_add_id, q_sub_id, q_mul_id, q_w_eq, q_rem_n, q_div_n, ↓reduceIte, leT, leF, ltT, ltF, eqT, eqF, true_or, or_true, false_or, or_false, true_and, and_true, false_and, and_false, or_self, and_self, Option.bind_some, this]
  have wo := r_wasOld (sh := sh) (h := q_row h 470 G) (c := c) (d := d) (L := L) (G := G) (by rw [q_row_ne (by decide)]; exact e0) (by rw [q_row_ne (by decide)]; exact e27) l l27 (q_row_self _ _ _) wr c0 c1 (fun r => ∃ W : Int → Int, r = some ((0, sentN G c L), (sh, q_row (q_row h 487 W) 470 (sendG G c L)))) ?_
  · obtain ⟨W, hW⟩ := wo
    refine ⟨W, ?_⟩
    rw [eL]
    rw [en] at hW
    simp (disch := omega) only [q_470, q_up_far, q_row_row, q_row_self, q_row_ne, q_up_ne, q_up_eq, q_rowup, ud_eq, ud_ne, q_add_id, q_sub_id, q_mul_id, q_w_eq, q_rem_n, q_div_n, ↓reduceIte, leT, leF, ltT, ltF, eqT, eqF, true_or, or_true, false_or, or_false, true_and, and_true, false_and, and_false, or_self, and_self, Option.bind_some, e0, l, lk, eL, en, c_X12_sends, e_X12_sends_0, e_X12_sends_12, hW]
  · intro W x7 hW
    rw [en, et, eS] at hW
    have := round0 W (9, 0) hW
    refine ⟨W, ?_⟩
    rw [q_row_comm (by decide), e_X12_sends_107, en]
    simp (disch := omega) only [q_470, q_up_far, q_row_row, q_row_self, q_row_ne, q_up_ne, q_up_eq, q_rowup, ud_eq, ud_ne, q_add_id, q_sub_id, q_mul_id, q_w_eq, q_rem_n, q_div_n, ↓reduceIte, leT, leF, ltT, ltF, eqT, eqF, true_or, or_true, false_or, or_false, true_and, and_true, false_and, and_false, or_self, and_self, Option.bind_some, this]
