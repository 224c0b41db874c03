/-! blocks that are named go -/
theorem q_rowin {h : Int → Int → Int} {k l j v : Int} {S : Int → Int} (e : k ≠ l) : q_up (q_row h l S) k j v = q_row (q_up h k j v) l S := by
  rw [q_up_row, q_up_row, q_row_ne e]
  exact q_row_comm (fun e2 => e e2.symm)
theorem smN_mono {f : Int → Int} (hf : ∀ i : Int, 0 ≤ f i) : ∀ n m : Nat, m ≤ n → smN f m ≤ smN f n := by
  intro n
  induction n with
  | zero => intro m hm; have : m = 0 := by omega
            rw [this]; exact Int.le_refl _
  | succ n ih =>
    intro m hm
    by_cases e : m = n + 1
    · rw [e]; exact Int.le_refl _
    · have h1 := ih m (by omega)
      have h2 := hf n
      show smN f m ≤ smN f n + f n
      omega
theorem sm_mono {f : Int → Int} (hf : ∀ i : Int, 0 ≤ f i) {m n : Int} (h : m ≤ n) : sm f m ≤ sm f n := smN_mono hf _ _ (by omega)
theorem smN_hit {f : Int → Int} (hf : ∀ i : Int, f i = 0 ∨ f i = 1) : ∀ (n : Nat) (k : Int), 0 ≤ k → k < smN f n → ∃ x : Int, 0 ≤ x ∧ x < n ∧ f x = 1 ∧ sm f x = k := by
  intro n
  induction n with
  | zero => intro k k0 k1; have : k < 0 := k1; omega
  | succ n ih =>
    intro k k0 k1
    have k1 : k < smN f n + f n := k1
    by_cases e : k < smN f n
    · obtain ⟨x, x0, x1, x2, x3⟩ := ih k k0 e
      exact ⟨x, x0, by omega, x2, x3⟩
    · rcases hf n with z | z
      · omega
      · exact ⟨n, by omega, by omega, z, by show smN f (n : Int).toNat = k; rw [Int.toNat_natCast]; omega⟩
theorem sm_hit {f : Int → Int} (hf : ∀ i : Int, f i = 0 ∨ f i = 1) {n k : Int} (k0 : 0 ≤ k) (k1 : k < sm f n) : ∃ x, 0 ≤ x ∧ x < n ∧ f x = 1 ∧ sm f x = k := by
  obtain ⟨x, x0, x1, x2, x3⟩ := smN_hit hf n.toNat k k0 k1
  exact ⟨x, x0, by omega, x2, x3⟩
/-- 1 where the block stays -/
def kF (G : Int → Int) (c num x : Int) : Int := if G (204 + 12 * c + x) ≤ num ∧ 0 ≤ G (300 + 12 * c + x) ∧ G (300 + 12 * c + x) + G (84 + c) ≤ G 0 then 0 else 1
theorem kF_01 (G : Int → Int) (c num x : Int) : kF G c num x = 0 ∨ kF G c num x = 1 := by unfold kF; split <;> omega
theorem kF_0 (G : Int → Int) (c num x : Int) : 0 ≤ kF G c num x := by have := kF_01 G c num x; omega
theorem k_have {sh : Int × (Int → Nat × Int)} {h : Int → Int → Int} {b num t n : Int} {f : Int → Int} (b0 : 0 ≤ b) (p6 : h b 6 = b + 1) (p7 : h b 7 = b + 2) (l6 : (sh.2 (b + 1)).2 = 12) (l7 : (sh.2 (b + 2)).2 = 12) (en : h b 1 = n) (n0 : 0 ≤ n) (n1 : n ≤ 12) (hf : ∀ x, 0 ≤ x → x < n → f x = if h (b + 1) x ≤ num ∧ 0 ≤ h (b + 2) x ∧ h (b + 2) x ≤ t then 0 else 1) (f01 : ∀ x : Int, f x = 0 ∨ f x = 1) :
    ∃ N S : Int → Int, q_Cc 17 [(11, b), (0, num), (0, t)] (sh, h) = some ((0, n - sm f n), (sh, q_up (q_up (q_row (q_row h (b + 1) N) (b + 2) S) b 1 (sm f n)) b 3 (q_add (h b 3) (n - sm f n)))) ∧ ∀ x, 0 ≤ x → x < n → f x = 1 → N (sm f x) = h (b + 1) x ∧ S (sm f x) = h (b + 2) x := by
  have f0 : ∀ x : Int, 0 ≤ f x := fun x => by have := f01 x; omega
  rw [c_X1_have, e_X1_have_0]
  have := lp (fun i (y : (Int × q_V) × (Int → Int) × (Int → Int)) => q_L 17 5 [(11, b), (0, num), (0, t), (0, y.1.1), (0, i), y.1.2] [] (sh, q_row (q_row h (b + 1) y.2.1) (b + 2) y.2.2)) (fun i y => y.1.1 = sm f i ∧ (∀ x, i ≤ x → y.2.1 x = h (b + 1) x ∧ y.2.2 x = h (b + 2) x) ∧ ∀ x, 0 ≤ x → x < i → f x = 1 → y.2.1 (sm f x) = h (b + 1) x ∧ y.2.2 (sm f x) = h (b + 2) x) (fun r => ∃ N S : Int → Int, r = some ((0, n - sm f n), (sh, q_up (q_up (q_row (q_row h (b + 1) N) (b + 2) S) b 1 (sm f n)) b 3 (q_add (h b 3) (n - sm f n)))) ∧ ∀ x, 0 ≤ x → x < n → f x = 1 → N (sm f x) = h (b + 1) x ∧ S (sm f x) = h (b + 2) x) n ?_ ?_ 0 ((0, (9, 0)), h (b + 1), h (b + 2)) (by omega) n0 ⟨rfl, fun x _ => ⟨rfl, rfl⟩, fun x a b => by omega⟩
  · have e : q_row (q_row h (b + 1) (h (b + 1))) (b + 2) (h (b + 2)) = h := by rw [q_row_id, q_row_id]
    have this : ∃ N S : Int → Int, q_L 17 5 [(11, b), (0, num), (0, t), (0, 0), (0, 0), (9, 0)] [] (sh, q_row (q_row h (b + 1) (h (b + 1))) (b + 2) (h (b + 2))) = some ((0, n - sm f n), (sh, q_up (q_up (q_row (q_row h (b + 1) N) (b + 2) S) b 1 (sm f n)) b 3 (q_add (h b 3) (n - sm f n)))) ∧ ∀ x, 0 ≤ x → x < n → f x = 1 → N (sm f x) = h (b + 1) x ∧ S (sm f x) = h (b + 2) x := this
    rw [e] at this
    exact this
  · intro i y i0 i1 hI
    obtain ⟨⟨st, x5⟩, N, S⟩ := y
    obtain ⟨h1, h2, h3⟩ := hI
    have h1 : st = sm f i := h1
    have h2 : ∀ x, i ≤ x → N x = h (b + 1) x ∧ S x = h (b + 2) x := h2
    have h3 : ∀ x, 0 ≤ x → x < i → f x = 1 → N (sm f x) = h (b + 1) x ∧ S (sm f x) = h (b + 2) x := h3
    have bd := sm_bnd (f := f) (a := 0) (b := 1) (n := i) i0 (fun j j0 j1 => by have := f01 j; omega)
    obtain ⟨nI, sI⟩ := h2 i (by omega)
    have fi := hf i i0 i1
    left
    show ∃ y : (Int × q_V) × (Int → Int) × (Int → Int), q_L 17 5 [(11, b), (0, num), (0, t), (0, st), (0, i), x5] [] (sh, q_row (q_row h (b + 1) N) (b + 2) S) = q_L 17 5 [(11, b), (0, num), (0, t), (0, y.1.1), (0, i + 1), y.1.2] [] (sh, q_row (q_row h (b + 1) y.2.1) (b + 2) y.2.2) ∧ y.1.1 = sm f (i + 1) ∧ (∀ x, i + 1 ≤ x → y.2.1 x = h (b + 1) x ∧ y.2.2 x = h (b + 2) x) ∧ ∀ x, 0 ≤ x → x < i + 1 → f x = 1 → y.2.1 (sm f x) = h (b + 1) x ∧ y.2.2 (sm f x) = h (b + 2) x
    rw [sm_succ i0]
    by_cases z : h (b + 1) i ≤ num ∧ 0 ≤ h (b + 2) i ∧ h (b + 2) i ≤ t
    · rw [if_pos z] at fi
      obtain ⟨z1, z2, z3⟩ := z
      refine ⟨((st, (0, 1)), N, S), ?_, by show st = _; omega, fun x hx => h2 x (by omega), ?_⟩
      · rw [e_X1_have_5]
        simp (disch := omega) only [q_470, q_up_far, q_row_row, q_row_self, q_row_ne, q_up_ne, q_up_eq, q_rowup, ud_eq, ud_ne, q_add_id, q_sub_id, q_mul_id, q_w_eq, q_rem_n, q_div_n, ↓reduceIte, leT, leF, ltT, ltF, eqT, eqF, true_or, or_true, false_or, or_false, true_and, and_true, false_and, and_false, or_self, and_self, Option.bind_some, q_rowin, p6, p7, l6, l7, en, nI, sI, e_X1_have_50, e_X1_have_51, e_X1_have_87]
      · intro x x0 x1 fx
        by_cases e : x = i
        · rw [e, fi] at fx; omega
        · exact h3 x x0 (by omega) fx
    · rw [if_neg z] at fi
      refine ⟨((st + 1, (0, 0)), ud N st (h (b + 1) i), ud S st (h (b + 2) i)), ?_, by show st + 1 = _; omega, ?_, ?_⟩
      · rw [e_X1_have_5]
        by_cases z1 : num < h (b + 1) i
        · simp (disch := omega) only [q_470, q_up_far, q_row_row, q_row_self, q_row_ne, q_up_ne, q_up_eq, q_rowup, ud_eq, ud_ne, q_add_id, q_sub_id, q_mul_id, q_w_eq, q_rem_n, q_div_n, ↓reduceIte, leT, leF, ltT, ltF, eqT, eqF, true_or, or_true, false_or, or_false, true_and, and_true, false_and, and_false, or_self, and_self, Option.bind_some, q_rowin, p6, p7, l6, l7, en, nI, sI, e_X1_have_50, e_X1_have_51, e_X1_have_87]
        · by_cases z2 : h (b + 2) i < 0
          · simp (disch := omega) only [q_470, q_up_far, q_row_row, q_row_self, q_row_ne, q_up_ne, q_up_eq, q_rowup, ud_eq, ud_ne, q_add_id, q_sub_id, q_mul_id, q_w_eq, q_rem_n, q_div_n, ↓reduceIte, leT, leF, ltT, ltF, eqT, eqF, true_or, or_true, false_or, or_false, true_and, and_true, false_and, and_false, or_self, and_self, Option.bind_some, q_rowin, p6, p7, l6, l7, en, nI, sI, e_X1_have_50, e_X1_have_51, e_X1_have_87]
          · have z3 : t < h (b + 2) i := by omega
            simp (disch := omega) only [q_470, q_up_far, q_row_row, q_row_self, q_row_ne, q_up_ne, q_up_eq, q_rowup, ud_eq, ud_ne, q_add_id, q_sub_id, q_mul_id, q_w_eq, q_rem_n, q_div_n, ↓reduceIte, leT, leF, ltT, ltF, eqT, eqF, true_or, or_true, false_or, or_false, true_and, and_true, false_and, and_false, or_self, and_self, Option.bind_some, q_rowin, p6, p7, l6, l7, en, nI, sI, e_X1_have_50, e_X1_have_51, e_X1_have_87]
      · intro x hx
        show ud N st (h (b + 1) i) x = _ ∧ ud S st (h (b + 2) i) x = _
        rw [ud_ne (by omega), ud_ne (by omega)]
        exact h2 x (by omega)
      · intro x x0 x1 fx
        show ud N st (h (b + 1) i) (sm f x) = _ ∧ ud S st (h (b + 2) i) (sm f x) = _
        by_cases e : x = i
        · rw [e, ud_eq h1.symm, ud_eq h1.symm]
          exact ⟨rfl, rfl⟩
        · have m1 := sm_mono f0 (m := x + 1) (n := i) (by omega)
          rw [sm_succ x0] at m1
          rw [ud_ne (by omega), ud_ne (by omega)]
          exact h3 x x0 (by omega) fx
  · intro y hI
    obtain ⟨⟨st, x5⟩, N, S⟩ := y
    obtain ⟨h1, h2, h3⟩ := hI
    have h1 : st = sm f n := h1
    have h3 : ∀ x, 0 ≤ x → x < n → f x = 1 → N (sm f x) = h (b + 1) x ∧ S (sm f x) = h (b + 2) x := h3
    have bd := sm_bnd (f := f) (a := 0) (b := 1) (n := n) n0 (fun j j0 j1 => by have := f01 j; omega)
    refine ⟨N, S, ?_, h3⟩
    show q_L 17 5 [(11, b), (0, num), (0, t), (0, st), (0, n), x5] [] (sh, q_row (q_row h (b + 1) N) (b + 2) S) = _
    rw [e_X1_have_5, h1]
    simp (disch := omega) only [q_470, q_up_far, q_row_row, q_row_self, q_row_ne, q_up_ne, q_up_eq, q_rowup, ud_eq, ud_ne, q_add_id, q_sub_id, q_mul_id, q_w_eq, q_rem_n, q_div_n, ↓reduceIte, leT, leF, ltT, ltF, eqT, eqF, true_or, or_true, false_or, or_false, true_and, and_true, false_and, and_false, or_self, and_self, Option.bind_some, en]
theorem r_nameL {sh : Int × (Int → Nat × Int)} {h : Int → Int → Int} {c num n : Int} {G0 : Int → Int} (e0 : h 469 0 = 470) (l : (sh.2 470).2 = 1354) (wf0 : WF G0) (hh : G0 0 ≤ 3000) (c0 : 0 ≤ c) (c1 : c < G0 2) (en : G0 (108 + c) = n) :
    ∃ G1 : Int → Int, q_L 229 34 [(22, 469), (0, c), (0, num), (0, 0), (0, n - 1), (9, 0)] [] (sh, q_row h 470 G0) = some ((0, n - sm (kF G0 c num) n), (sh, q_row h 470 (ud G1 (124 + c) (q_add (G1 (124 + c)) (n - sm (kF G0 c num) n))))) ∧ WFR G1 ∧ G1 (108 + c) = sm (kF G0 c num) n ∧ (∀ y, y ≠ 108 + c → (y < 204 + 12 * c ∨ 216 + 12 * c ≤ y) → (y < 300 + 12 * c ∨ 312 + 12 * c ≤ y) → G1 y = G0 y) ∧ ∀ x, 0 ≤ x → x < n → kF G0 c num x = 1 → G1 (204 + 12 * c + sm (kF G0 c num) x) = G0 (204 + 12 * c + x) ∧ G1 (300 + 12 * c + sm (kF G0 c num) x) = G0 (300 + 12 * c + x) := by
  have wr := wf0.1
  have u0 := wr.hour
  have u2 := wr.nc
  have r0 := wr.blocks (d := c) (by omega) (by omega)
  have rf := wr.far (d := c) (by omega) (by omega)
  rw [en] at r0
  obtain ⟨f, ef⟩ : ∃ f, kF G0 c num = f := ⟨_, rfl⟩
  have f01 : ∀ x : Int, f x = 0 ∨ f x = 1 := fun x => by rw [← ef]; exact kF_01 _ _ _ _
  have f0 : ∀ x : Int, 0 ≤ f x := fun x => by have := f01 x; omega
  rw [ef]
  have := lp (fun j (y : (Int × q_V) × (Int → Int)) => q_L 229 34 [(22, 469), (0, c), (0, num), (0, y.1.1), (0, n - 1 - j), y.1.2] [] (sh, q_row h 470 y.2)) (fun j y => y.1.1 = j - (sm f n - sm f (n - j)) ∧ WFR y.2 ∧ y.2 (108 + c) = n - j + (sm f n - sm f (n - j)) ∧ (∀ z, z ≠ 108 + c → (z < 204 + 12 * c ∨ 216 + 12 * c ≤ z) → (z < 300 + 12 * c ∨ 312 + 12 * c ≤ z) → y.2 z = G0 z) ∧ (∀ x, 0 ≤ x → x < n - j → y.2 (204 + 12 * c + x) = G0 (204 + 12 * c + x) ∧ y.2 (300 + 12 * c + x) = G0 (300 + 12 * c + x)) ∧ ∀ x, n - j ≤ x → x < n → f x = 1 → y.2 (204 + 12 * c + (n - j + (sm f x - sm f (n - j)))) = G0 (204 + 12 * c + x) ∧ y.2 (300 + 12 * c + (n - j + (sm f x - sm f (n - j)))) = G0 (300 + 12 * c + x)) (fun r => ∃ G1 : Int → Int, r = some ((0, n - sm f n), (sh, q_row h 470 (ud G1 (124 + c) (q_add (G1 (124 + c)) (n - sm f n))))) ∧ WFR G1 ∧ G1 (108 + c) = sm f n ∧ (∀ y, y ≠ 108 + c → (y < 204 + 12 * c ∨ 216 + 12 * c ≤ y) → (y < 300 + 12 * c ∨ 312 + 12 * c ≤ y) → G1 y = G0 y) ∧ ∀ x, 0 ≤ x → x < n → f x = 1 → G1 (204 + 12 * c + sm f x) = G0 (204 + 12 * c + x) ∧ G1 (300 + 12 * c + sm f x) = G0 (300 + 12 * c + x)) n ?_ ?_ 0 ((0, (9, 0)), G0) (by omega) (by omega) ⟨by show (0 : Int) = 0 - (sm f n - sm f (n - 0)); rw [Int.sub_zero]; omega, wr, by show G0 (108 + c) = n - 0 + (sm f n - sm f (n - 0)); rw [Int.sub_zero]; omega, fun _ _ _ _ => rfl, fun _ _ _ => ⟨rfl, rfl⟩, fun x a b => by omega⟩
  · have this : ∃ G1 : Int → Int, q_L 229 34 [(22, 469), (0, c), (0, num), (0, 0), (0, n - 1 - 0), (9, 0)] [] (sh, q_row h 470 G0) = some ((0, n - sm f n), (sh, q_row h 470 (ud G1 (124 + c) (q_add (G1 (124 + c)) (n - sm f n))))) ∧ WFR G1 ∧ G1 (108 + c) = sm f n ∧ (∀ y, y ≠ 108 + c → (y < 204 + 12 * c ∨ 216 + 12 * c ≤ y) → (y < 300 + 12 * c ∨ 312 + 12 * c ≤ y) → G1 y = G0 y) ∧ ∀ x, 0 ≤ x → x < n → f x = 1 → G1 (204 + 12 * c + sm f x) = G0 (204 + 12 * c + x) ∧ G1 (300 + 12 * c + sm f x) = G0 (300 + 12 * c + x) := this
    rw [Int.sub_zero] at this
    exact this
  · intro j y j0 j1 hI
    obtain ⟨⟨hd, x5⟩, G⟩ := y
    obtain ⟨h1, h2, h3, h4, h5, h6⟩ := hI
    have h1 : hd = j - (sm f n - sm f (n - j)) := h1
    have h2 : WFR G := h2
    have h3 : G (108 + c) = n - j + (sm f n - sm f (n - j)) := h3
    have h4 : ∀ z, z ≠ 108 + c → (z < 204 + 12 * c ∨ 216 + 12 * c ≤ z) → (z < 300 + 12 * c ∨ 312 + 12 * c ≤ z) → G z = G0 z := h4
    have h5 : ∀ x, 0 ≤ x → x < n - j → G (204 + 12 * c + x) = G0 (204 + 12 * c + x) ∧ G (300 + 12 * c + x) = G0 (300 + 12 * c + x) := h5
    have h6 : ∀ x, n - j ≤ x → x < n → f x = 1 → G (204 + 12 * c + (n - j + (sm f x - sm f (n - j)))) = G0 (204 + 12 * c + x) ∧ G (300 + 12 * c + (n - j + (sm f x - sm f (n - j)))) = G0 (300 + 12 * c + x) := h6
    obtain ⟨i, ei⟩ : ∃ i, n - 1 - j = i := ⟨_, rfl⟩
    have ej : n - j = i + 1 := by omega
    have ej2 : n - (j + 1) = i := by omega
    rw [ej] at h1 h3 h5 h6
    have i0 : 0 ≤ i := by omega
    have ss := sm_succ (f := f) i0
    have mn := sm_mono f0 (m := i + 1) (n := n) (by omega)
    have bi := sm_bnd (f := f) (a := 0) (b := 1) (n := n) r0.1 (fun j j0 j1 => by have := f01 j; omega)
    have bj := sm_bnd (f := f) (a := 0) (b := 1) (n := i) i0 (fun j j0 j1 => by have := f01 j; omega)
    have rb := h2.blocks (d := c) c0 (by omega)
    obtain ⟨gN, gS⟩ := h5 i i0 (by omega)
    have g84 := h4 (84 + c) (by omega) (by omega) (by omega)
    have g0 := h4 0 (by omega) (by omega) (by omega)
    have rs := wr.bsent (c := c) (p := i) c0 (by omega) i0 (by omega)
    have aN : 204 + (12 * c + i) = 204 + 12 * c + i := by omega
    have aS : 300 + (12 * c + i) = 300 + 12 * c + i := by omega
    have em : i + (-1) = i - 1 := by omega
    have fi : f i = if G0 (204 + 12 * c + i) ≤ num ∧ 0 ≤ G0 (300 + 12 * c + i) ∧ G0 (300 + 12 * c + i) + G0 (84 + c) ≤ G0 0 then 0 else 1 := by rw [← ef]; rfl
    left
    show ∃ y : (Int × q_V) × (Int → Int), q_L 229 34 [(22, 469), (0, c), (0, num), (0, hd), (0, n - 1 - j), x5] [] (sh, q_row h 470 G) = q_L 229 34 [(22, 469), (0, c), (0, num), (0, y.1.1), (0, n - 1 - (j + 1)), y.1.2] [] (sh, q_row h 470 y.2) ∧ _
    rw [ei, show n - 1 - (j + 1) = i - 1 by omega, ej2]
    by_cases z : G0 (204 + 12 * c + i) ≤ num ∧ 0 ≤ G0 (300 + 12 * c + i) ∧ G0 (300 + 12 * c + i) + G0 (84 + c) ≤ G0 0
    · rw [if_pos z] at fi
      obtain ⟨z1, z2, z3⟩ := z
      have tk := r_takesOut (sh := sh) (h := h) (c := c) (i := i) (G := G) e0 l h2 c0 (by omega) i0 (by omega)
      refine ⟨((hd + 1, (0, 12 * c + i)), takeG G c i), ?_, by show hd + 1 = _; omega, h2.take c0 (by omega) i0 (by omega), ?_, ?_, ?_, ?_⟩
      · rw [e_X12_name_34]
        simp (disch := omega) only [q_470, q_up_far, q_row_row, q_row_self, q_row_ne, q_up_ne, q_up_eq, q_rowup, ud_eq, ud_ne, q_add_id, q_sub_id, q_mul_id, q_w_eq, q_rem_n, q_div_n, ↓reduceIte, leT, leF, ltT, ltF, eqT, eqF, true_or, or_true, false_or, or_false, true_and, and_true, false_and, and_false, or_self, and_self, Option.bind_some, e0, l, aN, aS, em, gN, gS, g84, g0, tk, e_X12_name_114, e_X12_name_117]
      · show takeG G c i (108 + c) = _
        rw [takeG_n]; omega
      · intro y y1 y2 y3
        show takeG G c i y = G0 y
        rw [takeG_out y1 (by omega)]
        exact h4 y y1 y2 y3
      · intro x x0 x1
        show takeG G c i (204 + 12 * c + x) = _ ∧ takeG G c i (300 + 12 * c + x) = _
        rw [takeG_out (by omega) (by omega), takeG_out (by omega) (by omega)]
        exact h5 x x0 (by omega)
      · intro x x0 x1 fx
        show takeG G c i (204 + 12 * c + (i + (sm f x - sm f i))) = _ ∧ takeG G c i (300 + 12 * c + (i + (sm f x - sm f i))) = _
        have xi : i + 1 ≤ x := by
          by_cases e : x = i
          · rw [e, fi] at fx; omega
          · omega
        have m1 := sm_mono f0 (m := x + 1) (n := n) (by omega)
        rw [sm_succ (by omega)] at m1
        have m2 := sm_mono f0 (m := i + 1) (n := x) xi
        obtain ⟨q1, q2⟩ := h6 x xi x1 fx
        rw [takeG_in c0 (by omega) (by omega) i0, takeG_in c0 (by omega) (by omega) i0]
        rw [show 204 + 12 * c + (i + (sm f x - sm f i)) + 1 = 204 + 12 * c + (i + 1 + (sm f x - sm f (i + 1))) by omega, show 300 + 12 * c + (i + (sm f x - sm f i)) + 1 = 300 + 12 * c + (i + 1 + (sm f x - sm f (i + 1))) by omega]
        exact ⟨q1, q2⟩
    · rw [if_neg z] at fi
      refine ⟨((hd, (0, 12 * c + i)), G), ?_, by show hd = _; omega, h2, by show G (108 + c) = _; omega, h4, fun x x0 x1 => h5 x x0 (by omega), ?_⟩
      · rw [e_X12_name_34]
        by_cases z1 : num < G0 (204 + 12 * c + i)
        · simp (disch := omega) only [q_470, q_up_far, q_row_row, q_row_self, q_row_ne, q_up_ne, q_up_eq, q_rowup, ud_eq, ud_ne, q_add_id, q_sub_id, q_mul_id, q_w_eq, q_rem_n, q_div_n, ↓reduceIte, leT, leF, ltT, ltF, eqT, eqF, true_or, or_true, false_or, or_false, true_and, and_true, false_and, and_false, or_self, and_self, Option.bind_some, e0, l, aN, aS, em, gN, gS, g84, g0, e_X12_name_114, e_X12_name_117]
        · by_cases z2 : G0 (300 + 12 * c + i) < 0
          · simp (disch := omega) only [q_470, q_up_far, q_row_row, q_row_self, q_row_ne, q_up_ne, q_up_eq, q_rowup, ud_eq, ud_ne, q_add_id, q_sub_id, q_mul_id, q_w_eq, q_rem_n, q_div_n, ↓reduceIte, leT, leF, ltT, ltF, eqT, eqF, true_or, or_true, false_or, or_false, true_and, and_true, false_and, and_false, or_self, and_self, Option.bind_some, e0, l, aN, aS, em, gN, gS, g84, g0, e_X12_name_114, e_X12_name_117]
          · have z3 : G0 0 < G0 (300 + 12 * c + i) + G0 (84 + c) := by omega
            simp (disch := omega) only [q_470, q_up_far, q_row_row, q_row_self, q_row_ne, q_up_ne, q_up_eq, q_rowup, ud_eq, ud_ne, q_add_id, q_sub_id, q_mul_id, q_w_eq, q_rem_n, q_div_n, ↓reduceIte, leT, leF, ltT, ltF, eqT, eqF, true_or, or_true, false_or, or_false, true_and, and_true, false_and, and_false, or_self, and_self, Option.bind_some, e0, l, aN, aS, em, gN, gS, g84, g0, e_X12_name_114, e_X12_name_117]
      · intro x x0 x1 fx
        show G (204 + 12 * c + (i + (sm f x - sm f i))) = _ ∧ G (300 + 12 * c + (i + (sm f x - sm f i))) = _
        by_cases e : x = i
        · rw [e, show i + (sm f i - sm f i) = i by omega]
          exact h5 i i0 (by omega)
        · have := h6 x (by omega) x1 fx
          rw [show i + (sm f x - sm f i) = i + 1 + (sm f x - sm f (i + 1)) by omega]
          exact this
  · intro y hI
    obtain ⟨⟨hd, x5⟩, G⟩ := y
    obtain ⟨h1, h2, h3, h4, h5, h6⟩ := hI
    have h1 : hd = n - (sm f n - sm f (n - n)) := h1
    have h2 : WFR G := h2
    have h3 : G (108 + c) = n - n + (sm f n - sm f (n - n)) := h3
    have h4 : ∀ z, z ≠ 108 + c → (z < 204 + 12 * c ∨ 216 + 12 * c ≤ z) → (z < 300 + 12 * c ∨ 312 + 12 * c ≤ z) → G z = G0 z := h4
    have h6 : ∀ x, n - n ≤ x → x < n → f x = 1 → G (204 + 12 * c + (n - n + (sm f x - sm f (n - n)))) = G0 (204 + 12 * c + x) ∧ G (300 + 12 * c + (n - n + (sm f x - sm f (n - n)))) = G0 (300 + 12 * c + x) := h6
    have z0 : sm f (n - n) = 0 := by rw [Int.sub_self]; rfl
    rw [z0] at h1 h3 h6
    refine ⟨G, ?_, h2, by omega, h4, ?_⟩
    · show q_L 229 34 [(22, 469), (0, c), (0, num), (0, hd), (0, n - 1 - n), x5] [] (sh, q_row h 470 G) = _
      rw [e_X12_name_34, h1, Int.sub_zero]
      simp (disch := omega) only [q_470, q_up_far, q_row_row, q_row_self, q_row_ne, q_up_ne, q_up_eq, q_rowup, ud_eq, ud_ne, q_add_id, q_sub_id, q_mul_id, q_w_eq, q_rem_n, q_div_n, ↓reduceIte, leT, leF, ltT, ltF, eqT, eqF, true_or, or_true, false_or, or_false, true_and, and_true, false_and, and_false, or_self, and_self, Option.bind_some, e0, l]
    · intro x x0 x1 fx
      have := h6 x (by omega) x1 fx
      rw [show n - n + (sm f x - 0) = sm f x by omega] at this
      exact this
theorem st_name (c num : Int) : Step 133 229 [(0, c), (0, num)] := by
  intro sh h hs ho hi
  obtain ⟨w, G, hw1, iw, ew, hG, hp, hr, wf, hh⟩ := hi.opn
  have wr := wf.1
  have u0 := wr.hour; have u1 := wr.nd; have u2 := wr.nc; have u3 := wr.na
  by_cases v1 : (0 ≤ c ∧ c < G 2) ∧ 0 ≤ num
  · obtain ⟨⟨c0, c1⟩, v2⟩ := v1
    have r0 := wr.blocks (d := c) (by omega) (by omega)
    have rf := wr.far (d := c) (by omega) (by omega)
    have k1 := wf.2.1 c c0 c1
    obtain ⟨n, en⟩ : ∃ n, G (108 + c) = n := ⟨_, rfl⟩
    rw [en] at r0 k1
    have e4 : w + 13 + 15 * c + 3 + 1 = w + 13 + 15 * c + 4 := by omega
    have e5 : w + 13 + 15 * c + 3 + 2 = w + 13 + 15 * c + 5 := by omega
    obtain ⟨N, S, kh, kN⟩ := k_have (sh := sh) (h := h) (b := w + 13 + 15 * c + 3) (num := num) (t := G 0 - G (84 + c)) (n := n) (f := kF G c num) (by omega) (by rw [e4]; exact hp.bnum iw c c0 (by omega)) (by rw [e5]; exact hp.bsent iw c c0 (by omega)) (by rw [e4]; exact hs.c4 iw c c0 (by omega)) (by rw [e5]; exact hs.c5 iw c c0 (by omega)) (by rw [← en]; exact hr.blocks wr c c0 c1) r0.1 r0.2 (fun x x0 x1 => by
      rw [e4, e5, hr.bnum wr c x c0 c1 x0 (by omega), hr.bsent wr c x c0 c1 x0 (by omega)]
      unfold kF
      by_cases z : G (204 + 12 * c + x) ≤ num ∧ 0 ≤ G (300 + 12 * c + x) ∧ G (300 + 12 * c + x) + G (84 + c) ≤ G 0
      · rw [if_pos z, if_pos ⟨z.1, z.2.1, by omega⟩]
      · rw [if_neg z, if_neg (fun hz => z ⟨hz.1, hz.2.1, by omega⟩)]) (kF_01 G c num)
    rw [e4, e5] at kh kN
    obtain ⟨f, ef⟩ : ∃ f, kF G c num = f := ⟨_, rfl⟩
    have f01 : ∀ x : Int, f x = 0 ∨ f x = 1 := fun x => by rw [← ef]; exact kF_01 _ _ _ _
    have f0 : ∀ x : Int, 0 ≤ f x := fun x => by have := f01 x; omega
    have bi := sm_bnd (f := f) (a := 0) (b := 1) (n := n) r0.1 (fun j j0 j1 => by have := f01 j; omega)
    obtain ⟨hc, ehc⟩ : ∃ hc, q_up (q_up (q_row (q_row h (w + 13 + 15 * c + 4) N) (w + 13 + 15 * c + 5) S) (w + 13 + 15 * c + 3) 1 (sm f n)) (w + 13 + 15 * c + 3) 3 (q_add (h (w + 13 + 15 * c + 3) 3) (n - sm f n)) = hc := ⟨_, rfl⟩
    have far : ∀ a, a ≠ w + 13 + 15 * c + 3 → a ≠ w + 13 + 15 * c + 4 → a ≠ w + 13 + 15 * c + 5 → hc a = h a := fun a a1 a2 a3 => by rw [← ehc, q_up_far a1, q_up_far a1, q_row_ne a3, q_row_ne a2]
    obtain ⟨G1, rn, w1, g1, gf, gk⟩ := r_nameL (sh := sh) (h := hc) (c := c) (num := num) (n := n) (G0 := G) (by rw [far _ (by omega) (by omega) (by omega)]; exact hp.m0) hs.k470 wf (by omega) c0 c1 en
    rw [ef] at kh kN rn g1 gk
    rw [ehc] at kh
    have e470 : q_row hc 470 G = hc := by
      have : hc 470 = G := by rw [far _ (by omega) (by omega) (by omega)]; exact hG
      rw [← this, q_row_id]
    rw [e470, gf (124 + c) (by omega) (by omega) (by omega)] at rn
    obtain ⟨G', eG⟩ : ∃ G', ud G1 (124 + c) (q_add (G (124 + c)) (n - sm f n)) = G' := ⟨_, rfl⟩
    rw [eG] at rn
    have w2 : WFR G' := by rw [← eG]; exact w1.free (by omega)
    have gg : ∀ y, y ≠ 124 + c → G' y = G1 y := fun y hy => by rw [← eG, ud_ne hy]
    have gall : ∀ y, y ≠ 108 + c → y ≠ 124 + c → (y < 204 + 12 * c ∨ 216 + 12 * c ≤ y) → (y < 300 + 12 * c ∨ 312 + 12 * c ≤ y) → G' y = G y := fun y a1 a2 a3 a4 => by rw [gg y a2]; exact gf y a1 a3 a4
    have hrow : ∀ j, j ≠ 1 → j ≠ 3 → hc (w + 13 + 15 * c + 3) j = h (w + 13 + 15 * c + 3) j := fun j j1 j3 => by
      rw [← ehc, q_up_ne (by omega), q_up_ne (by omega), q_row_ne (by omega), q_row_ne (by omega)]
    refine ⟨n - sm f n, hc, q_row hc 470 G', ?_, ?_, hi.world2 hw1 ?_ ?_ ?_ ?_ ?_, ?_⟩
    · simp (disch := omega) only [q_470, q_up_far, q_row_row, q_row_self, q_row_ne, q_up_ne, q_up_eq, q_rowup, ud_eq, ud_ne, q_add_id, q_sub_id, q_mul_id, q_w_eq, q_rem_n, q_div_n, ↓reduceIte, leT, leF, ltT, ltF, eqT, eqF, true_or, or_true, false_or, or_false, true_and, and_true, false_and, and_false, or_self, and_self, Option.bind_some, ew, hp.w4 iw, hp.w5 iw, hp.w6 iw, hp.w7 iw, hp.w8 iw, hp.dish iw, hp.craft iw, hp.ask iw, hp.t6, hs.rains iw, hs.dishes iw, hs.crafts iw, hs.asks iw, hs.k468, hr.hour wr, hr.nd wr, hr.nc wr, hr.na wr, kh, hr.far wr, hp.blocks iw, c_X11_name, e_X11_name_0, e_X11_name_5, e_X11_name_12, e_X11_name_18, e_X11_name_49, c_X11_noCraft, e_X11_noCraft_0, e_X11_noCraft_14, k_X11_outside]
    · simp (disch := omega) only [q_470, q_up_far, q_row_row, q_row_self, q_row_ne, q_up_ne, q_up_eq, q_rowup, ud_eq, ud_ne, q_add_id, q_sub_id, q_mul_id, q_w_eq, q_rem_n, q_div_n, ↓reduceIte, leT, leF, ltT, ltF, eqT, eqF, true_or, or_true, false_or, or_false, true_and, and_true, false_and, and_false, or_self, and_self, Option.bind_some, hp.m0, hp.m6, hs.k470, hs.k474, hG, far, en, k_X12_in, c_X12_name, e_X12_name_0, e_X12_name_5, c_X12_isCraft, e_X12_isCraft_0, e_X12_isCraft_13, rn]
    · rw [← ehc]
      exact (((hp.row (fun j => VP_cr iw c0 (by omega) (by omega) (by omega) (by omega))).row (fun j => VP_cr iw c0 (by omega) (by omega) (by omega) (by omega))).up (VP_cr iw c0 (by omega) (by omega) (by omega) (by omega))).up (VP_cr iw c0 (by omega) (by omega) (by omega) (by omega))
    · intro k j hk _
      rw [far k (by omega) (by omega) (by omega)]
    · refine hr.blocksOf wr w2 c0 c1 far (fun y y1 y2 y3 y4 y5 y6 y7 y8 => gall y y2 y4 y7 y8) ?_ ?_ ?_ ?_ ?_ ?_ ?_ ?_
      · rw [hrow 0 (by decide) (by decide), gall _ (by omega) (by omega) (by omega) (by omega)]; exact hr.room wr c c0 c1
      · rw [gg _ (by omega), g1, ← ehc, q_up_ne (by omega), q_up_self]
      · rw [hrow 2 (by decide) (by decide), gall _ (by omega) (by omega) (by omega) (by omega)]; exact hr.made wr c c0 c1
      · rw [← eG, ud_self, ← ehc, q_up_self, hr.had wr c c0 c1]
      · rw [hrow 4 (by decide) (by decide), gall _ (by omega) (by omega) (by omega) (by omega)]; exact hr.dropped wr c c0 c1
      · rw [hrow 5 (by decide) (by decide), gall _ (by omega) (by omega) (by omega) (by omega)]; exact hr.lost wr c c0 c1
      · intro k k0 k1
        rw [gg _ (by omega), g1] at k1
        obtain ⟨x, x0, x1, x2, x3⟩ := sm_hit f01 k0 k1
        have q1 := (kN x x0 x1 x2).1
        have q2 := (gk x x0 x1 x2).1
        rw [x3] at q1 q2
        rw [gg _ (by omega), q2, ← ehc, q_up_far (by omega), q_up_far (by omega), q_row_ne (by omega), q_row_self, q1]
        exact hr.bnum wr c x c0 c1 x0 (by omega)
      · intro k k0 k1
        rw [gg _ (by omega), g1] at k1
        obtain ⟨x, x0, x1, x2, x3⟩ := sm_hit f01 k0 k1
        have q1 := (kN x x0 x1 x2).2
        have q2 := (gk x x0 x1 x2).2
        rw [x3] at q1 q2
        rw [gg _ (by omega), q2, ← ehc, q_up_far (by omega), q_up_far (by omega), q_row_self, q1]
        exact hr.bsent wr c x c0 c1 x0 (by omega)
    · refine ⟨w2, ?_, wf.2.2.1.fr wr (fun x hx => gall x (by omega) (by omega) (by omega) (by omega)), wf.2.2.2.1.fr wr (fun x hx => gall x (by omega) (by omega) (by omega) (by omega)), wf.2.2.2.2.fr wr (gall 2 (by omega) (by omega) (by omega) (by omega)) (fun x hx => gall x (by omega) (by omega) (by omega) (by omega))⟩
      intro d d0 d1
      rw [gall 2 (by omega) (by omega) (by omega) (by omega)] at d1
      rw [gall (92 + d) (by omega) (by omega) (by omega) (by omega)]
      by_cases e : d = c
      · subst e
        rw [gg _ (by omega), g1]
        omega
      · rw [gall (108 + d) (by omega) (by omega) (by omega) (by omega)]
        exact wf.2.1 d d0 d1
    · rw [gall 0 (by omega) (by omega) (by omega) (by omega)]; exact hh
    · intro k hk
      exact ⟨by rw [q_row_ne (by omega), far _ (by omega) (by omega) (by omega)], far _ (by omega) (by omega) (by omega)⟩
  · by_cases a1 : 0 ≤ c ∧ c < G 2 <;> by_cases a2 : 0 ≤ num <;> first | (exfalso; omega) | skip
    all_goals
      refine ⟨-1000001, (q_up h 468 0 (q_add (h 468 0) 1)), q_up (q_up h 468 0 (q_add (h 468 0) 1)) 474 0 (q_add (h 474 0) 1), ?_, ?_, hi.find 0 (by decide) (by decide), fun k hk => ⟨by rw [q_up_far (by omega), q_up_far (by omega)], by rw [q_up_far (by omega)]⟩⟩
      · simp (disch := omega) only [q_470, q_up_far, q_row_row, q_row_self, q_row_ne, q_up_ne, q_up_eq, q_rowup, ud_eq, ud_ne, q_add_id, q_sub_id, q_mul_id, q_w_eq, q_rem_n, q_div_n, ↓reduceIte, leT, leF, ltT, ltF, eqT, eqF, true_or, or_true, false_or, or_false, true_and, and_true, false_and, and_false, or_self, and_self, Option.bind_some, ew, hp.w4 iw, hp.w5 iw, hp.w6 iw, hp.w7 iw, hp.w8 iw, hp.dish iw, hp.craft iw, hp.ask iw, hp.t6, hs.rains iw, hs.dishes iw, hs.crafts iw, hs.asks iw, hs.k468, hr.hour wr, hr.nd wr, hr.nc wr, hr.na wr, k_X11_outside, k_f0 hp.t6 hs.k468, c_X11_name, e_X11_name_0, e_X11_name_5, e_X11_name_12, e_X11_name_18, e_X11_name_49, c_X11_noCraft, e_X11_noCraft_0, e_X11_noCraft_14]
      · simp (disch := omega) only [q_470, q_up_far, q_row_row, q_row_self, q_row_ne, q_up_ne, q_up_eq, q_rowup, ud_eq, ud_ne, q_add_id, q_sub_id, q_mul_id, q_w_eq, q_rem_n, q_div_n, ↓reduceIte, leT, leF, ltT, ltF, eqT, eqF, true_or, or_true, false_or, or_false, true_and, and_true, false_and, and_false, or_self, and_self, Option.bind_some, hp.m0, hp.m6, hs.k470, hs.k474, hG, k_X12_in, k_g0 (sh := sh) (h := (q_up h 468 0 (q_add (h 468 0) 1))) (by rw [q_up_far (by decide)]; exact hp.m6) hs.k474, c_X12_name, e_X12_name_0, e_X12_name_5, e_X12_name_12, e_X12_name_18, c_X12_isCraft, e_X12_isCraft_0, e_X12_isCraft_13]
