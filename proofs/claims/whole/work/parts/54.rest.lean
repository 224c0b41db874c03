/-! the planner's rows -/
theorem VP_pl {x y : Int} (hx : (443 ≤ x ∧ x ≤ 451) ∨ (x = 442 ∧ y ≤ 2)) : VP0 x y = none := by
  unfold VP0
  rw [if_neg (by omega), if_neg (by omega)]
  by_cases e : x = 442
  · rw [if_pos e, if_neg (by omega)]
  · rw [if_neg e, if_neg (by omega), if_neg (by omega), if_neg (by omega), if_neg (by omega), if_neg (by omega)]
/-- nothing but the planner's rows is changed -/
def FP (h h' : Int → Int → Int) : Prop := ∀ x y, ¬ ((443 ≤ x ∧ x ≤ 451) ∨ (x = 442 ∧ 0 ≤ y ∧ y ≤ 2)) → h' x y = h x y
theorem FP.refl (h : Int → Int → Int) : FP h h := fun _ _ _ => rfl
theorem FP.trans {h h' h'' : Int → Int → Int} (a : FP h h') (b : FP h' h'') : FP h h'' := fun x y hn => (b x y hn).trans (a x y hn)
theorem FP.ptr {h h' : Int → Int → Int} (a : FP h h') (hp : Ptr h) : Ptr h' := by
  intro x y v hv
  by_cases e : (443 ≤ x ∧ x ≤ 451) ∨ (x = 442 ∧ 0 ≤ y ∧ y ≤ 2)
  · rw [VP_pl (by omega)] at hv; cases hv
  · rw [a x y e]; exact hp x y v hv
theorem FP.rel {h h' : Int → Int → Int} (a : FP h h') {w : Int} (iw : isW w) {G : Int → Int} (wr : WFR G) (hr : RelW h w G) : RelW h' w G := by
  have w0 := iw.b
  exact hr.frame wr (fun k k0 k1 => by funext y; exact a k y (by omega))
/-- nothing but what the search writes is changed -/
def FC (h h' : Int → Int → Int) : Prop := ∀ x y, ¬ ((445 ≤ x ∧ x ≤ 448) ∨ x = 451 ∨ (x = 442 ∧ (y = 1 ∨ y = 2))) → h' x y = h x y
theorem FC.refl (h : Int → Int → Int) : FC h h := fun _ _ _ => rfl
theorem FC.trans {h h' h'' : Int → Int → Int} (a : FC h h') (b : FC h' h'') : FC h h'' := fun x y hn => (b x y hn).trans (a x y hn)
theorem FC.fp {h h' : Int → Int → Int} (a : FC h h') : FP h h' := fun x y hn => a x y (by omega)
/-- what the planner looks at -/
def LK (G : Int → Int) (m : Int) (A : Int → Int) : Prop := 0 ≤ m ∧ m ≤ 5 ∧ (∀ i, 0 ≤ i → i < m → 0 ≤ A i ∧ A i < G 3 ∧ G (480 + A i) = 0) ∧ ∀ i j, 0 ≤ i → i < j → j < m → A i < A j
def PC (h : Int → Int → Int) (w : Int) (G : Int → Int) (m : Int) (A W : Int → Int) : Prop := Ptr h ∧ RelW h w G ∧ h 442 0 = m ∧ ∀ i, 0 ≤ i → i < m → h 443 i = A i ∧ h 444 i = W i
theorem PC.fc {h h' : Int → Int → Int} {w : Int} {G : Int → Int} {m : Int} {A W : Int → Int} (c : PC h w G m A W) (iw : isW w) (wr : WFR G) (a : FC h h') : PC h' w G m A W :=
  ⟨a.fp.ptr c.1, a.fp.rel iw wr c.2.1, by rw [a 442 0 (by omega)]; exact c.2.2.1, fun i i0 i1 => by rw [a 443 i (by omega), a 444 i (by omega)]; exact c.2.2.2 i i0 i1⟩
theorem k_canStand {sh : Int × (Int → Nat × Int)} {h : Int → Int → Int} {w i m : Int} {G E A W : Int → Int} (hs : Sh sh) (iw : isW w) (wf : WF G) (lk : LK G m A) (pc : PC h w G m A W) (i0 : 0 ≤ i) (i1 : i < m) (hE : ∀ d, 0 ≤ d → d < G 1 → h 451 d = E d ∧ E d ≤ 20000) : ∃ b, q_Cc 43 [(15, 442), (20, w), (0, i)] (sh, h) = some ((0, b), (sh, h)) ∧ ((b = 1 ∧ ∃ d, 0 ≤ d ∧ d < G 1 ∧ 0 ≤ ft G (FE G E) (A i) d) ∨ (b = 0 ∧ ∀ d, 0 ≤ d → d < G 1 → ft G (FE G E) (A i) d < 0)) := by
  have wr := wf.1
  have u1 := wr.nd
  have w0 := iw.b
  obtain ⟨hp, hr, -, ha⟩ := pc
  obtain ⟨-, m5, la, -⟩ := lk
  have la := la i i0 i1
  rw [c_X5_canStand, e_X5_canStand_0]
  refine lp (fun d (_ : Unit) => q_L 43 2 [(15, 442), (20, w), (0, i), (0, d)] [] (sh, h)) (fun d _ => ∀ x, 0 ≤ x → x < d → ft G (FE G E) (A i) x < 0) (fun r => ∃ b, r = some ((0, b), (sh, h)) ∧ ((b = 1 ∧ ∃ d, 0 ≤ d ∧ d < G 1 ∧ 0 ≤ ft G (FE G E) (A i) d) ∨ (b = 0 ∧ ∀ d, 0 ≤ d → d < G 1 → ft G (FE G E) (A i) d < 0))) (G 1) ?_ ?_ 0 () (by omega) u1.1 (fun x a b => by omega)
  · intro d _ d0 d1 hI
    obtain ⟨e1, e2⟩ := hE d d0 d1
    have k := k_startOn (E := E) hs hp iw hr wf i0 (by omega) (ha i i0 i1).1 la.1 la.2.1 d0 d1 e1 e2
    by_cases z : ft G (FE G E) (A i) d < 0
    · left
      refine ⟨(), ?_, ?_⟩
      · rw [e_X5_canStand_2]
        simp (disch := omega) only [q_470, q_up_far, q_row_row, q_row_self, q_row_ne, q_up_ne, q_up_eq, q_rowup, ud_eq, ud_ne, q_add_id, q_sub_id, q_mul_id, q_w_eq, q_rem_n, q_div_n, ↓reduceIte, leT, leF, ltT, ltF, eqT, eqF, true_or, or_true, false_or, or_false, true_and, and_true, false_and, and_false, or_self, and_self, Option.bind_some, k, hr.nd wr, e_X5_canStand_17]
      · intro x x0 x1
        by_cases e : x = d
        · rw [e]; exact z
        · exact hI x x0 (by omega)
    · right
      refine ⟨1, ?_, Or.inl ⟨rfl, d, d0, d1, by omega⟩⟩
      show q_L 43 2 [(15, 442), (20, w), (0, i), (0, d)] [] (sh, h) = _
      rw [e_X5_canStand_2]
      simp (disch := omega) only [q_470, q_up_far, q_row_row, q_row_self, q_row_ne, q_up_ne, q_up_eq, q_rowup, ud_eq, ud_ne, q_add_id, q_sub_id, q_mul_id, q_w_eq, q_rem_n, q_div_n, ↓reduceIte, leT, leF, ltT, ltF, eqT, eqF, true_or, or_true, false_or, or_false, true_and, and_true, false_and, and_false, or_self, and_self, Option.bind_some, k, hr.nd wr, e_X5_canStand_17]
  · intro _ hI
    refine ⟨0, ?_, Or.inr ⟨rfl, hI⟩⟩
    show q_L 43 2 [(15, 442), (20, w), (0, i), (0, G 1)] [] (sh, h) = _
    rw [e_X5_canStand_2]
    simp (disch := omega) only [q_470, q_up_far, q_row_row, q_row_self, q_row_ne, q_up_ne, q_up_eq, q_rowup, ud_eq, ud_ne, q_add_id, q_sub_id, q_mul_id, q_w_eq, q_rem_n, q_div_n, ↓reduceIte, leT, leF, ltT, ltF, eqT, eqF, true_or, or_true, false_or, or_false, true_and, and_true, false_and, and_false, or_self, and_self, Option.bind_some, hr.nd wr]
/-- the rest from k on: what it weighs, and how many of it weigh anything -/
def RSk (G E A W : Int → Int) (R V : Int → Int) (k : Int) : Prop := (R k = R (k + 1) + W k ∧ V k = V (k + 1) + 1 ∧ 0 < W k) ∨ (R k = R (k + 1) ∧ V k = V (k + 1) ∧ (W k = 0 ∨ ∀ d, 0 ≤ d → d < G 1 → ft G (FE G E) (A k) d < 0))
def RS (G E A W : Int → Int) (m : Int) (R V : Int → Int) : Prop := R m = 0 ∧ V m = 0 ∧ ∀ k, 0 ≤ k → k < m → RSk G E A W R V k
theorem RSk_ud {G E A W R V : Int → Int} {k j a b : Int} (r : RSk G E A W R V k) (hj : j < k) : RSk G E A W (ud R j a) (ud V j b) k := by
  unfold RSk at *
  rw [ud_ne (by omega), ud_ne (by omega), ud_ne (by omega), ud_ne (by omega)]
  exact r
theorem k_findRest {sh : Int × (Int → Nat × Int)} {h : Int → Int → Int} {w m : Int} {G E A W : Int → Int} (hs : Sh sh) (iw : isW w) (wf : WF G) (lk : LK G m A) (hW : ∀ i, 0 ≤ i → i < m → 0 ≤ W i ∧ W i ≤ 3000) (pc : PC h w G m A W) (hE : ∀ d, 0 ≤ d → d < G 1 → h 451 d = E d ∧ E d ≤ 20000) : ∃ R V, q_Cc 42 [(15, 442), (20, w)] (sh, h) = some ((9, 0), (sh, q_row (q_row h 449 R) 450 V)) ∧ RS G E A W m R V ∧ ∀ k, 0 ≤ k → k ≤ m → 0 ≤ R k ∧ R k ≤ 3000 * (m - k) ∧ 0 ≤ V k ∧ V k ≤ m - k := by
  have wr := wf.1
  have u1 := wr.nd
  have w0 := iw.b
  have m0 := lk.1
  have m5 := lk.2.1
  have hp := pc.1
  have hm := pc.2.2.1
  have ha := pc.2.2.2
  have := lp (fun i (y : (Int → Int) × (Int → Int) × q_V) => q_L 42 27 [(15, 442), (20, w), (0, m - 1 - i), y.2.2] [] (sh, q_row (q_row h 449 y.1) 450 y.2.1)) (fun i y => y.1 m = 0 ∧ y.2.1 m = 0 ∧ (∀ k, m - i ≤ k → k < m → RSk G E A W y.1 y.2.1 k) ∧ (∀ k, m - i ≤ k → k ≤ m → 0 ≤ y.1 k ∧ y.1 k ≤ 3000 * (m - k) ∧ 0 ≤ y.2.1 k ∧ y.2.1 k ≤ m - k)) (fun r => ∃ R V, r = some ((9, 0), (sh, q_row (q_row h 449 R) 450 V)) ∧ RS G E A W m R V ∧ ∀ k, 0 ≤ k → k ≤ m → 0 ≤ R k ∧ R k ≤ 3000 * (m - k) ∧ 0 ≤ V k ∧ V k ≤ m - k) m ?_ ?_ 0 (ud (h 449) m 0, ud (h 450) m 0, (9, 0)) (by omega) m0 ⟨ud_self _ _ _, ud_self _ _ _, fun k a b => by omega, ?_⟩
  · obtain ⟨R, V, q1, q2, q3⟩ := this
    have q1 : q_L 42 27 [(15, 442), (20, w), (0, m - 1 - 0), (9, 0)] [] (sh, q_row (q_row h 449 (ud (h 449) m 0)) 450 (ud (h 450) m 0)) = some ((9, 0), (sh, q_row (q_row h 449 R) 450 V)) := q1
    rw [Int.sub_zero] at q1
    refine ⟨R, V, ?_, q2, q3⟩
    rw [← q1, c_X5_findRest, e_X5_findRest_0]
    have t1 : ∀ j v, q_up h 449 j v = q_row h 449 (ud (h 449) j v) := q_up_row h 449
    have t2 : ∀ j v, q_up (q_row h 449 (ud (h 449) m 0)) 450 j v = q_row (q_row h 449 (ud (h 449) m 0)) 450 (ud (h 450) j v) := fun j v => by rw [q_up_row, q_row_ne (by decide)]
    simp (disch := omega) only [q_470, q_up_far, q_row_row, q_row_self, q_row_ne, q_up_ne, q_up_eq, q_rowup, ud_eq, ud_ne, q_add_id, q_sub_id, q_mul_id, q_w_eq, q_rem_n, q_div_n, ↓reduceIte, leT, leF, ltT, ltF, eqT, eqF, true_or, or_true, false_or, or_false, true_and, and_true, false_and, and_false, or_self, and_self, Option.bind_some, hm, t1, t2, hp.pl9, hp.pl10, hs.k449, hs.k450]
  · intro i y i0 i1 hI
    obtain ⟨R, V, x3⟩ := y
    obtain ⟨c1, c2, c3, c4⟩ := hI
    have c1 : R m = 0 := c1
    have c2 : V m = 0 := c2
    have c3 : ∀ k, m - i ≤ k → k < m → RSk G E A W R V k := c3
    have c4 : ∀ k, m - i ≤ k → k ≤ m → 0 ≤ R k ∧ R k ≤ 3000 * (m - k) ∧ 0 ≤ V k ∧ V k ≤ m - k := c4
    left
    obtain ⟨k, hk⟩ : ∃ k, m - 1 - i = k := ⟨_, rfl⟩
    have hk2 : m - 1 - (i + 1) = k + (-1) := by omega
    have b4 := c4 (k + 1) (by omega) (by omega)
    have f : FP h (q_row (q_row h 449 R) 450 V) := fun x y hn => by rw [q_row_ne (by omega), q_row_ne (by omega)]
    have pcg : PC (q_row (q_row h 449 R) 450 V) w G m A W := ⟨f.ptr hp, f.rel iw wr pc.2.1, by rw [f.ptr hp |> fun _ => q_row_ne (by decide), q_row_ne (by decide)]; exact hm, fun i i0 i1 => by rw [q_row_ne (by decide), q_row_ne (by decide), q_row_ne (by decide), q_row_ne (by decide)]; exact ha i i0 i1⟩
    obtain ⟨b, kb, hb⟩ := k_canStand (sh := sh) (i := k) (E := E) hs iw wf lk pcg (by omega) (by omega) (fun d d0 d1 => by rw [q_row_ne (by decide), q_row_ne (by decide)]; exact hE d d0 d1)
    have wk := hW k (by omega) (by omega)
    have ak := (ha k (by omega) (by omega)).2
    have fin : ∀ a v x, (a = R (k + 1) + W k ∧ v = V (k + 1) + 1 ∧ 0 < W k) ∨ (a = R (k + 1) ∧ v = V (k + 1) ∧ (W k = 0 ∨ ∀ d, 0 ≤ d → d < G 1 → ft G (FE G E) (A k) d < 0)) → q_L 42 27 [(15, 442), (20, w), (0, k), x3] [] (sh, q_row (q_row h 449 R) 450 V) = q_L 42 27 [(15, 442), (20, w), (0, k + (-1)), x] [] (sh, q_row (q_row h 449 (ud R k a)) 450 (ud V k v)) → ∃ y : (Int → Int) × (Int → Int) × q_V, q_L 42 27 [(15, 442), (20, w), (0, m - 1 - i), x3] [] (sh, q_row (q_row h 449 R) 450 V) = q_L 42 27 [(15, 442), (20, w), (0, m - 1 - (i + 1)), y.2.2] [] (sh, q_row (q_row h 449 y.1) 450 y.2.1) ∧ y.1 m = 0 ∧ y.2.1 m = 0 ∧ (∀ k, m - (i + 1) ≤ k → k < m → RSk G E A W y.1 y.2.1 k) ∧ (∀ k, m - (i + 1) ≤ k → k ≤ m → 0 ≤ y.1 k ∧ y.1 k ≤ 3000 * (m - k) ∧ 0 ≤ y.2.1 k ∧ y.2.1 k ≤ m - k) := by
      intro a v x hav e
      refine ⟨(ud R k a, ud V k v, x), ?_, ?_, ?_, ?_, ?_⟩
      · rw [hk, hk2]; exact e
      · show ud R k a m = 0
        rw [ud_ne (by omega)]; exact c1
      · show ud V k v m = 0
        rw [ud_ne (by omega)]; exact c2
      · intro z z0 z1
        show RSk G E A W (ud R k a) (ud V k v) z
        by_cases ez : z = k
        · subst ez
          unfold RSk
          rw [ud_self, ud_self, ud_ne (by omega), ud_ne (by omega)]
          exact hav
        · exact RSk_ud (c3 z (by omega) z1) (by omega)
      · intro z z0 z1
        show 0 ≤ ud R k a z ∧ ud R k a z ≤ 3000 * (m - z) ∧ 0 ≤ ud V k v z ∧ ud V k v z ≤ m - z
        by_cases ez : z = k
        · subst ez
          rw [ud_self, ud_self]
          clear c3 c4 hb
          rcases hav with ⟨h1, h2, h3⟩ | ⟨h1, h2, -⟩ <;> omega
        · rw [ud_ne ez, ud_ne ez]; exact c4 z (by omega) z1
    show ∃ y : (Int → Int) × (Int → Int) × q_V, q_L 42 27 [(15, 442), (20, w), (0, m - 1 - i), x3] [] (sh, q_row (q_row h 449 R) 450 V) = q_L 42 27 [(15, 442), (20, w), (0, m - 1 - (i + 1)), y.2.2] [] (sh, q_row (q_row h 449 y.1) 450 y.2.1) ∧ y.1 m = 0 ∧ y.2.1 m = 0 ∧ (∀ k, m - (i + 1) ≤ k → k < m → RSk G E A W y.1 y.2.1 k) ∧ (∀ k, m - (i + 1) ≤ k → k ≤ m → 0 ≤ y.1 k ∧ y.1 k ≤ 3000 * (m - k) ∧ 0 ≤ y.2.1 k ∧ y.2.1 k ≤ m - k)
    clear c3 c4
    by_cases wz : 0 < W k
    · rcases hb with ⟨b1, -⟩ | ⟨b0, hn⟩
      · subst b1
        refine fin (R (k + 1) + W k) (V (k + 1) + 1) (0, 1) (Or.inl ⟨rfl, rfl, wz⟩) ?_
        clear fin
        rw [e_X5_findRest_27]
        simp (disch := omega) only [q_470, q_up_far, q_row_row, q_row_self, q_row_ne, q_up_ne, q_up_eq, q_rowup, ud_eq, ud_ne, q_add_id, q_sub_id, q_mul_id, q_w_eq, q_rem_n, q_div_n, ↓reduceIte, leT, leF, ltT, ltF, eqT, eqF, true_or, or_true, false_or, or_false, true_and, and_true, false_and, and_false, or_self, and_self, Option.bind_some, kb, ak, q_rowin, hp.pl4, hp.pl9, hp.pl10, hs.k444, hs.k449, hs.k450, e_X5_findRest_46, e_X5_findRest_53, e_X5_findRest_54, e_X5_findRest_82, e_X5_findRest_106]
      · subst b0
        refine fin (R (k + 1)) (V (k + 1)) (0, 0) (Or.inr ⟨rfl, rfl, Or.inr hn⟩) ?_
        clear fin
        rw [e_X5_findRest_27]
        simp (disch := omega) only [q_470, q_up_far, q_row_row, q_row_self, q_row_ne, q_up_ne, q_up_eq, q_rowup, ud_eq, ud_ne, q_add_id, q_sub_id, q_mul_id, q_w_eq, q_rem_n, q_div_n, ↓reduceIte, leT, leF, ltT, ltF, eqT, eqF, true_or, or_true, false_or, or_false, true_and, and_true, false_and, and_false, or_self, and_self, Option.bind_some, kb, ak, q_rowin, Int.add_zero, hp.pl4, hp.pl9, hp.pl10, hs.k444, hs.k449, hs.k450, e_X5_findRest_46, e_X5_findRest_53, e_X5_findRest_54, e_X5_findRest_82, e_X5_findRest_106]
    · refine fin (R (k + 1)) (V (k + 1)) (0, 0) (Or.inr ⟨rfl, rfl, Or.inl (by omega)⟩) ?_
      clear fin hb
      rw [e_X5_findRest_27]
      simp (disch := omega) only [q_470, q_up_far, q_row_row, q_row_self, q_row_ne, q_up_ne, q_up_eq, q_rowup, ud_eq, ud_ne, q_add_id, q_sub_id, q_mul_id, q_w_eq, q_rem_n, q_div_n, ↓reduceIte, leT, leF, ltT, ltF, eqT, eqF, true_or, or_true, false_or, or_false, true_and, and_true, false_and, and_false, or_self, and_self, Option.bind_some, ak, q_rowin, Int.add_zero, hp.pl4, hp.pl9, hp.pl10, hs.k444, hs.k449, hs.k450, e_X5_findRest_46, e_X5_findRest_53, e_X5_findRest_54, e_X5_findRest_82, e_X5_findRest_106]
  · intro y hI
    obtain ⟨R, V, x3⟩ := y
    obtain ⟨c1, c2, c3, c4⟩ := hI
    refine ⟨R, V, ?_, ⟨c1, c2, fun k k0 k1 => c3 k (by omega) k1⟩, fun k k0 k1 => c4 k (by omega) k1⟩
    show q_L 42 27 [(15, 442), (20, w), (0, m - 1 - m), x3] [] (sh, q_row (q_row h 449 R) 450 V) = _
    rw [e_X5_findRest_27]
    simp (disch := omega) only [q_470, q_up_far, q_row_row, q_row_self, q_row_ne, q_up_ne, q_up_eq, q_rowup, ud_eq, ud_ne, q_add_id, q_sub_id, q_mul_id, q_w_eq, q_rem_n, q_div_n, ↓reduceIte, leT, leF, ltT, ltF, eqT, eqF, true_or, or_true, false_or, or_false, true_and, and_true, false_and, and_false, or_self, and_self, Option.bind_some, ]
  · intro k k0 k1
    have e : k = m := by omega
    show 0 ≤ ud (h 449) m 0 k ∧ ud (h 449) m 0 k ≤ 3000 * (m - k) ∧ 0 ≤ ud (h 450) m 0 k ∧ ud (h 450) m 0 k ≤ m - k
    rw [ud_eq e, ud_eq e]
    omega
