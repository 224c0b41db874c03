/-- a craft begins anew -/
def begH (h : Int → Int → Int) (k l f r t : Int) : Int → Int → Int := q_up (q_up (q_up (q_up (q_up (q_up (q_up (q_up (q_up (q_up (q_up (q_up (q_up (q_up (q_up (q_up (q_up (q_up (q_up (q_up (q_up (q_up (q_up (q_up (q_up (h) (k) 0 l) (k) 1 f) (k) 2 t) (k + 1) 0 0) (k + 2) 0 0) (k + 1) 1 0) (k + 2) 1 0) (k + 1) 2 0) (k + 2) 2 0) (k + 3) 0 r) (k + 3) 1 0) (k + 3) 2 0) (k + 3) 3 0) (k + 3) 4 0) (k + 3) 5 0) (k + 6) 0 0) (k + 13) 1 0) (k + 14) 0 0) (k + 14) 1 1) (k + 14) 2 2) (k + 14) 3 3) (k + 14) 4 4) (k + 14) 5 5) (k + 14) 6 6) (k + 14) 7 7
theorem k_begin {sh : Int × (Int → Nat × Int)} {h : Int → Int → Int} {k l f r t : Int} (k0 : 0 ≤ k) (p3 : h k 3 = k + 1) (p4 : h k 4 = k + 2) (p5 : h k 5 = k + 3) (p6 : h k 6 = k + 6) (p7 : h k 7 = k + 13) (q0 : h (k + 13) 0 = k + 14) (l1 : (sh.2 (k + 1)).2 = 3) (l2 : (sh.2 (k + 2)).2 = 3) (l14 : (sh.2 (k + 14)).2 = 8) : q_Cc 20 [(12, k), (0, l), (0, f), (0, r), (0, t)] (sh, h) = some ((9, 0), (sh, begH h k l f r t)) := by
  unfold begH
  simp (disch := omega) only [q_470, q_up_far, q_row_row, q_row_self, q_row_ne, q_up_ne, q_up_eq, q_rowup, ud_eq, ud_ne, q_add_id, q_sub_id, q_mul_id, q_w_eq, q_rem_n, q_div_n, ↓reduceIte, leT, leF, ltT, ltF, eqT, eqF, true_or, or_true, false_or, or_false, true_and, and_true, false_and, and_false, or_self, and_self, Option.bind_some, p3, p4, p5, p6, p7, q0, l1, l2, l14, c_X2_begin, e_X2_begin_0, e_X2_begin_19, e_X2_begin_55, e_X2_begin_70, c_X1_begin, e_X1_begin_0, c_X8_begin, e_X8_begin_0, e_X8_begin_7, Int.reduceAdd]
theorem begH_far {h : Int → Int → Int} {k l f r t a : Int} (ha : a < k ∨ k + 15 ≤ a) : begH h k l f r t a = h a := by
  unfold begH
  simp (disch := omega) only [q_up_far]
theorem begH_0_0 {h : Int → Int → Int} {k l f r t : Int} : begH h k l f r t (k) 0 = l := by
  unfold begH
  simp (disch := omega) only [q_up_ne, q_up_eq]
theorem begH_0_1 {h : Int → Int → Int} {k l f r t : Int} : begH h k l f r t (k) 1 = f := by
  unfold begH
  simp (disch := omega) only [q_up_ne, q_up_eq]
theorem begH_0_2 {h : Int → Int → Int} {k l f r t : Int} : begH h k l f r t (k) 2 = t := by
  unfold begH
  simp (disch := omega) only [q_up_ne, q_up_eq]
theorem begH_3_0 {h : Int → Int → Int} {k l f r t : Int} : begH h k l f r t (k + 3) 0 = r := by
  unfold begH
  simp (disch := omega) only [q_up_ne, q_up_eq]
theorem begH_3_1 {h : Int → Int → Int} {k l f r t : Int} : begH h k l f r t (k + 3) 1 = 0 := by
  unfold begH
  simp (disch := omega) only [q_up_ne, q_up_eq]
theorem begH_3_2 {h : Int → Int → Int} {k l f r t : Int} : begH h k l f r t (k + 3) 2 = 0 := by
  unfold begH
  simp (disch := omega) only [q_up_ne, q_up_eq]
theorem begH_3_3 {h : Int → Int → Int} {k l f r t : Int} : begH h k l f r t (k + 3) 3 = 0 := by
  unfold begH
  simp (disch := omega) only [q_up_ne, q_up_eq]
theorem begH_3_4 {h : Int → Int → Int} {k l f r t : Int} : begH h k l f r t (k + 3) 4 = 0 := by
  unfold begH
  simp (disch := omega) only [q_up_ne, q_up_eq]
theorem begH_3_5 {h : Int → Int → Int} {k l f r t : Int} : begH h k l f r t (k + 3) 5 = 0 := by
  unfold begH
  simp (disch := omega) only [q_up_ne, q_up_eq]
theorem begH_6_0 {h : Int → Int → Int} {k l f r t : Int} : begH h k l f r t (k + 6) 0 = 0 := by
  unfold begH
  simp (disch := omega) only [q_up_ne, q_up_eq]
theorem begH_13_1 {h : Int → Int → Int} {k l f r t : Int} : begH h k l f r t (k + 13) 1 = 0 := by
  unfold begH
  simp (disch := omega) only [q_up_ne, q_up_eq]
theorem begH_u1 {h : Int → Int → Int} {k l f r t q : Int} (q0 : 0 ≤ q) (q1 : q < 3) : begH h k l f r t (k + 1) q = 0 := by
  unfold begH
  have : q = 0 ∨ q = 1 ∨ q = 2 := by omega
  rcases this with rfl | rfl | rfl <;> simp (disch := omega) only [q_up_ne, q_up_eq]
theorem begH_u2 {h : Int → Int → Int} {k l f r t q : Int} (q0 : 0 ≤ q) (q1 : q < 3) : begH h k l f r t (k + 2) q = 0 := by
  unfold begH
  have : q = 0 ∨ q = 1 ∨ q = 2 := by omega
  rcases this with rfl | rfl | rfl <;> simp (disch := omega) only [q_up_ne, q_up_eq]
theorem begH_n {h : Int → Int → Int} {k l f r t q : Int} (q0 : 0 ≤ q) (q1 : q < 8) : begH h k l f r t (k + 14) q = q := by
  unfold begH
  have : q = 0 ∨ q = 1 ∨ q = 2 ∨ q = 3 ∨ q = 4 ∨ q = 5 ∨ q = 6 ∨ q = 7 := by omega
  rcases this with rfl | rfl | rfl | rfl | rfl | rfl | rfl | rfl <;> simp (disch := omega) only [q_up_ne, q_up_eq]
theorem begH_ptr {h : Int → Int → Int} {w c l f r t : Int} (hp : Ptr h) (iw : isW w) (c0 : 0 ≤ c) (c1 : c < 8) : Ptr (begH h (w + 13 + 15 * c) l f r t) := by
  unfold begH
  exact (((((((((((((((((((((((((hp).up (pn_c0 iw c0 c1 (by omega))).up (pn_c0 iw c0 c1 (by omega))).up (pn_c0 iw c0 c1 (by omega))).up (VP_cr iw c0 c1 (by omega) (by omega) (by omega))).up (VP_cr iw c0 c1 (by omega) (by omega) (by omega))).up (VP_cr iw c0 c1 (by omega) (by omega) (by omega))).up (VP_cr iw c0 c1 (by omega) (by omega) (by omega))).up (VP_cr iw c0 c1 (by omega) (by omega) (by omega))).up (VP_cr iw c0 c1 (by omega) (by omega) (by omega))).up (VP_cr iw c0 c1 (by omega) (by omega) (by omega))).up (VP_cr iw c0 c1 (by omega) (by omega) (by omega))).up (VP_cr iw c0 c1 (by omega) (by omega) (by omega))).up (VP_cr iw c0 c1 (by omega) (by omega) (by omega))).up (VP_cr iw c0 c1 (by omega) (by omega) (by omega))).up (VP_cr iw c0 c1 (by omega) (by omega) (by omega))).up (VP_cr iw c0 c1 (by omega) (by omega) (by omega))).up (VP_cr iw c0 c1 (by omega) (by omega) (by omega))).up (VP_cr iw c0 c1 (by omega) (by omega) (by omega))).up (VP_cr iw c0 c1 (by omega) (by omega) (by omega))).up (VP_cr iw c0 c1 (by omega) (by omega) (by omega))).up (VP_cr iw c0 c1 (by omega) (by omega) (by omega))).up (VP_cr iw c0 c1 (by omega) (by omega) (by omega))).up (VP_cr iw c0 c1 (by omega) (by omega) (by omega))).up (VP_cr iw c0 c1 (by omega) (by omega) (by omega))).up (VP_cr iw c0 c1 (by omega) (by omega) (by omega))
