/-! a plan is made -/
theorem lkN_ok (G : Int → Int) (but : Int) (R : Int → Int) : ∀ n : Nat, (∀ i, 0 ≤ i → i < (lkN G but R n).1 → 0 ≤ (lkN G but R n).2 i ∧ (lkN G but R n).2 i < n ∧ G (480 + (lkN G but R n).2 i) = 0) ∧ (∀ i j, 0 ≤ i → i < j → j < (lkN G but R n).1 → (lkN G but R n).2 i < (lkN G but R n).2 j) := by
  intro n
  induction n with
  | zero =>
    refine ⟨fun i i0 i1 => ?_, fun i j i0 i1 i2 => ?_⟩
    · have i1 : i < 0 := i1
      omega
    · have i2 : j < 0 := i2
      omega
  | succ n ih =>
    have b := lkN_b G but R n
    obtain ⟨a1, a2⟩ := ih
    unfold lkN
    by_cases z : G (480 + (n : Int)) = 0 ∧ (n : Int) ≠ but ∧ (lkN G but R n).1 < 5
    · rw [if_pos z]
      refine ⟨fun i i0 i1 => ?_, fun i j i0 i1 i2 => ?_⟩
      · have i1 : i < (lkN G but R n).1 + 1 := i1
        show 0 ≤ ud (lkN G but R n).2 (lkN G but R n).1 n i ∧ ud (lkN G but R n).2 (lkN G but R n).1 n i < ((n + 1 : Nat) : Int) ∧ G (480 + ud (lkN G but R n).2 (lkN G but R n).1 n i) = 0
        by_cases e : i = (lkN G but R n).1
        · rw [ud_eq e]; exact ⟨by omega, by omega, z.1⟩
        · rw [ud_ne e]
          have := a1 i i0 (by omega)
          exact ⟨this.1, by omega, this.2.2⟩
      · have i2 : j < (lkN G but R n).1 + 1 := i2
        show ud (lkN G but R n).2 (lkN G but R n).1 n i < ud (lkN G but R n).2 (lkN G but R n).1 n j
        rw [ud_ne (by omega)]
        by_cases e : j = (lkN G but R n).1
        · rw [ud_eq e]
          exact (a1 i i0 (by omega)).2.1
        · rw [ud_ne e]
          exact a2 i j i0 i1 (by omega)
    · rw [if_neg z]
      exact ⟨fun i i0 i1 => ⟨(a1 i i0 i1).1, by have := (a1 i i0 i1).2.1; omega, (a1 i i0 i1).2.2⟩, a2⟩
theorem lkN_any (G : Int → Int) (but : Int) (R R' : Int → Int) : ∀ n : Nat, (lkN G but R n).1 = (lkN G but R' n).1 ∧ ∀ i, 0 ≤ i → i < (lkN G but R n).1 → (lkN G but R n).2 i = (lkN G but R' n).2 i := by
  intro n
  induction n with
  | zero => exact ⟨rfl, fun i i0 i1 => by have i1 : i < 0 := i1; omega⟩
  | succ n ih =>
    obtain ⟨a1, a2⟩ := ih
    unfold lkN
    rw [← a1]
    by_cases z : G (480 + (n : Int)) = 0 ∧ (n : Int) ≠ but ∧ (lkN G but R n).1 < 5
    · rw [if_pos z, if_pos z]
      refine ⟨rfl, fun i i0 i1 => ?_⟩
      have i1 : i < (lkN G but R n).1 + 1 := i1
      show ud (lkN G but R n).2 (lkN G but R n).1 n i = ud (lkN G but R' n).2 (lkN G but R n).1 n i
      by_cases e : i = (lkN G but R n).1
      · rw [ud_eq e, ud_eq e]
      · rw [ud_ne e, ud_ne e]; exact a2 i i0 (by omega)
    · rw [if_neg z, if_neg z]
      exact ⟨a1, a2⟩
theorem lkN_full (G : Int → Int) (but : Int) (R : Int → Int) (n : Nat) (hn : ¬ (lkN G but R n).1 < 5) : ∀ k : Nat, lkN G but R (n + k) = lkN G but R n := by
  intro k
  induction k with
  | zero => rfl
  | succ k ih =>
    show (if G (480 + ((n + k : Nat) : Int)) = 0 ∧ ((n + k : Nat) : Int) ≠ but ∧ (lkN G but R (n + k)).1 < 5 then ((lkN G but R (n + k)).1 + 1, ud (lkN G but R (n + k)).2 (lkN G but R (n + k)).1 ((n + k : Nat) : Int)) else lkN G but R (n + k)) = lkN G but R n
    rw [ih, if_neg (fun z => hn z.2.2)]
/-- how many are looked at, and which -/
def lkm (G : Int → Int) (but : Int) : Int := (lkN G but (fun _ => 0) (G 3).toNat).1
def lkA (G : Int → Int) (but : Int) : Int → Int := (lkN G but (fun _ => 0) (G 3).toNat).2
theorem lk_ok {G : Int → Int} (wr : WFR G) (but : Int) : LK G (lkm G but) (lkA G but) := by
  have u3 := wr.na
  have b := lkN_b G but (fun _ => 0) (G 3).toNat
  obtain ⟨a1, a2⟩ := lkN_ok G but (fun _ => 0) (G 3).toNat
  exact ⟨b.1, b.2, fun i i0 i1 => ⟨(a1 i i0 i1).1, by have := (a1 i i0 i1).2.1; unfold lkA; omega, (a1 i i0 i1).2.2⟩, a2⟩
/-- weights by places -/
def wtW (G A : Int → Int) : Int → Int := fun i => weightF G (A i) (G (466 + A i))
theorem wtW_b {G A : Int → Int} {m : Int} (wr : WFR G) (lk : LK G m A) : ∀ i, 0 ≤ i → i < m → 0 ≤ wtW G A i ∧ wtW G A i ≤ 3000 := by
  intro i i0 i1
  have u3 := wr.na
  have a := lk.2.2.1 i i0 i1
  have v := wr.aworth (d := A i) (by omega) (by omega)
  exact weightF_b wr a.1 (by omega) v.1 v.2
theorem k_lookAt {sh : Int × (Int → Nat × Int)} {h : Int → Int → Int} {w n a : Int} {G : Int → Int} (hs : Sh sh) (iw : isW w) (wf : WF G) (hp : Ptr h) (hr : RelW h w G) (hn : h 442 0 = n) (n0 : 0 ≤ n) (n1 : n < 5) (a0 : 0 ≤ a) (a1 : a < G 3) : q_Cc 40 [(15, 442), (20, w), (0, a)] (sh, h) = some ((9, 0), (sh, q_up (q_up (q_up h 443 n a) 444 n (weightF G a (G (466 + a)))) 442 0 (n + 1))) := by
  have wr := wf.1
  have u3 := wr.na
  have w0 := iw.b
  have v := wr.aworth (d := a) (by omega) (by omega)
  have f : FP h (q_up h 443 n a) := fun x y hn => by rw [q_up_ne (by omega)]
  have k := k_weightOf (sh := sh) (v := G (466 + a)) hs (f.ptr hp) iw (f.rel iw wr hr) wf a0 a1 v.1 v.2
  simp (disch := omega) only [q_470, q_up_far, q_row_row, q_row_self, q_row_ne, q_up_ne, q_up_eq, q_rowup, ud_eq, ud_ne, q_add_id, q_sub_id, q_mul_id, q_w_eq, q_rem_n, q_div_n, ↓reduceIte, leT, leF, ltT, ltF, eqT, eqF, true_or, or_true, false_or, or_false, true_and, and_true, false_and, and_false, or_self, and_self, Option.bind_some, k, hn, hr.aworth wr, hp.w7 iw, hp.ask iw, hs.asks iw, hp.pl3, hp.pl4, hs.k443, hs.k444, c_X5_lookAt, e_X5_lookAt_0, e_X5_lookAt_32]
/-- the class looks at A -/
def LC (h : Int → Int → Int) (m : Int) (A W : Int → Int) : Prop := h 442 0 = m ∧ ∀ i, 0 ≤ i → i < m → h 443 i = A i ∧ h 444 i = W i
theorem LC.add {G h : Int → Int → Int} {g : Int → Int} {m a v : Int} {A W : Int → Int} (l : LC h m A W) (m0 : 0 ≤ m) : LC (q_up (q_up (q_up h 443 m a) 444 m v) 442 0 (m + 1)) (m + 1) (ud A m a) (ud W m v) := by
  refine ⟨q_up_self _ _ _ _, fun i i0 i1 => ?_⟩
  rw [q_up_ne (by omega), q_up_ne (by omega)]
  by_cases e : i = m
  · subst e
    rw [q_up_self, q_up_ne (by omega), q_up_self, ud_self, ud_self]
    exact ⟨rfl, rfl⟩
  · rw [q_up_ne (by omega), q_up_ne (by omega), q_up_ne (by omega), ud_ne e, ud_ne e]
    exact l.2 i i0 (by omega)
theorem FP.look {h : Int → Int → Int} {m a v u : Int} : FP h (q_up (q_up (q_up h 443 m a) 444 m v) 442 0 u) := fun x y hn => by rw [q_up_ne (by omega), q_up_ne (by omega), q_up_ne (by omega)]
theorem k_lookW {sh : Int × (Int → Nat × Int)} {h : Int → Int → Int} {w but : Int} {G : Int → Int} (hs : Sh sh) (iw : isW w) (wf : WF G) (hp : Ptr h) (hr : RelW h w G) : ∃ h', q_Cc 39 [(15, 442), (20, w), (0, but)] (sh, h) = some ((9, 0), (sh, h')) ∧ FP h h' ∧ LC h' (lkm G but) (lkA G but) (wtW G (lkA G but)) := by
  have wr := wf.1
  have u3 := wr.na
  have w0 := iw.b
  rw [c_X5_lookAtWaiting, e_X5_lookAtWaiting_0]
  refine lp (fun i (y : Int → Int → Int) => q_L 39 7 [(15, 442), (20, w), (0, but), (0, i)] [] (sh, y)) (fun i y => FP h y ∧ LC y (lkN G but (fun _ => 0) i.toNat).1 (lkN G but (fun _ => 0) i.toNat).2 (wtW G (lkN G but (fun _ => 0) i.toNat).2)) (fun r => ∃ h', r = some ((9, 0), (sh, h')) ∧ FP h h' ∧ LC h' (lkm G but) (lkA G but) (wtW G (lkA G but))) (G 3) ?_ ?_ 0 (q_up h 442 0 0) (by omega) u3.1 ⟨fun x y hn => by rw [q_up_ne (by omega)], q_up_self _ _ _ _, fun i i0 i1 => by have i1 : i < 0 := i1; omega⟩
  · intro i y i0 i1 hI
    obtain ⟨f, l⟩ := hI
    have hpy := f.ptr hp
    have hry := f.rel iw wr hr
    have b := lkN_b G but (fun _ => 0) i.toNat
    have ss := lkN_succ (G := G) (but := but) (R := fun _ => 0) i0
    have full := lkN_full G but (fun _ => 0) i.toNat
    obtain ⟨m, em⟩ : ∃ m, (lkN G but (fun _ => 0) i.toNat).1 = m := ⟨_, rfl⟩
    rw [em] at b ss full
    have l1 := l.1
    rw [em] at l1
    by_cases z3 : m < 5
    · left
      by_cases z : G (480 + i) = 0 ∧ i ≠ but
      · obtain ⟨z1, z2⟩ := z
        have zz : G (480 + i) = 0 ∧ i ≠ but ∧ m < 5 := ⟨z1, z2, z3⟩
        rw [if_pos zz] at ss
        have k := k_lookAt (sh := sh) hs iw wf hpy hry l1 b.1 z3 i0 i1
        refine ⟨_, ?_, f.trans (FP.look (h := y) (m := m) (a := i) (v := weightF G i (G (466 + i))) (u := m + 1)), ?_⟩
        · rw [e_X5_lookAtWaiting_7]
          simp (disch := omega) only [q_470, q_up_far, q_row_row, q_row_self, q_row_ne, q_up_ne, q_up_eq, q_rowup, ud_eq, ud_ne, q_add_id, q_sub_id, q_mul_id, q_w_eq, q_rem_n, q_div_n, ↓reduceIte, leT, leF, ltT, ltF, eqT, eqF, true_or, or_true, false_or, or_false, true_and, and_true, false_and, and_false, or_self, and_self, Option.bind_some, k, l1, z1, hry.na wr, hry.astate wr, hpy.w7 iw, hpy.ask iw, hs.asks iw, e_X5_lookAtWaiting_46]
        · rw [ss]
          rw [em] at l
          have q := LC.add (G := h) (g := G) (a := i) (v := weightF G i (G (466 + i))) l b.1
          refine ⟨q.1, fun x x0 x1 => ?_⟩
          have qq := q.2 x x0 x1
          refine ⟨qq.1, qq.2.trans ?_⟩
          show ud (wtW G (lkN G but (fun _ => 0) i.toNat).2) m (weightF G i (G (466 + i))) x = wtW G (ud (lkN G but (fun _ => 0) i.toNat).2 m i) x
          unfold wtW
          by_cases e : x = m
          · rw [ud_eq e, ud_eq e]
          · rw [ud_ne e, ud_ne e]
      · have zz : ¬ (G (480 + i) = 0 ∧ i ≠ but ∧ m < 5) := fun hh => z ⟨hh.1, hh.2.1⟩
        rw [if_neg zz] at ss
        refine ⟨y, ?_, f, ?_⟩
        · rw [e_X5_lookAtWaiting_7]
          by_cases z1 : i = but
          · simp (disch := omega) only [q_470, q_up_far, q_row_row, q_row_self, q_row_ne, q_up_ne, q_up_eq, q_rowup, ud_eq, ud_ne, q_add_id, q_sub_id, q_mul_id, q_w_eq, q_rem_n, q_div_n, ↓reduceIte, leT, leF, ltT, ltF, eqT, eqF, true_or, or_true, false_or, or_false, true_and, and_true, false_and, and_false, or_self, and_self, Option.bind_some, l1, hry.na wr, e_X5_lookAtWaiting_46]
          · have z2 : ¬ G (480 + i) = 0 := fun e => z ⟨e, z1⟩
            simp (disch := omega) only [q_470, q_up_far, q_row_row, q_row_self, q_row_ne, q_up_ne, q_up_eq, q_rowup, ud_eq, ud_ne, q_add_id, q_sub_id, q_mul_id, q_w_eq, q_rem_n, q_div_n, ↓reduceIte, leT, leF, ltT, ltF, eqT, eqF, true_or, or_true, false_or, or_false, true_and, and_true, false_and, and_false, or_self, and_self, Option.bind_some, l1, hry.na wr, hry.astate wr, hpy.w7 iw, hpy.ask iw, hs.asks iw, e_X5_lookAtWaiting_46]
        · rw [ss]; exact l
    · right
      refine ⟨y, ?_, f, ?_⟩
      · show q_L 39 7 [(15, 442), (20, w), (0, but), (0, i)] [] (sh, y) = _
        rw [e_X5_lookAtWaiting_7]
        simp (disch := omega) only [q_470, q_up_far, q_row_row, q_row_self, q_row_ne, q_up_ne, q_up_eq, q_rowup, ud_eq, ud_ne, q_add_id, q_sub_id, q_mul_id, q_w_eq, q_rem_n, q_div_n, ↓reduceIte, leT, leF, ltT, ltF, eqT, eqF, true_or, or_true, false_or, or_false, true_and, and_true, false_and, and_false, or_self, and_self, Option.bind_some, l1, hry.na wr, e_X5_lookAtWaiting_52]
      · have e := full z3 ((G 3).toNat - i.toNat)
        have e2 : i.toNat + ((G 3).toNat - i.toNat) = (G 3).toNat := by omega
        rw [e2] at e
        unfold lkm lkA
        rw [e]; exact l
  · intro y hI
    obtain ⟨f, l⟩ := hI
    have hry := f.rel iw wr hr
    refine ⟨y, ?_, f, l⟩
    show q_L 39 7 [(15, 442), (20, w), (0, but), (0, G 3)] [] (sh, y) = _
    rw [e_X5_lookAtWaiting_7]
    simp (disch := omega) only [q_470, q_up_far, q_row_row, q_row_self, q_row_ne, q_up_ne, q_up_eq, q_rowup, ud_eq, ud_ne, q_add_id, q_sub_id, q_mul_id, q_w_eq, q_rem_n, q_div_n, ↓reduceIte, leT, leF, ltT, ltF, eqT, eqF, true_or, or_true, false_or, or_false, true_and, and_true, false_and, and_false, or_self, and_self, Option.bind_some, hry.na wr, e_X5_lookAtWaiting_52]
/-- the plan -/
def frE (G : Int → Int) : Int → Int := FE G (enN G (G 3).toNat)
def plB (G : Int → Int) (m : Int) (A W : Int → Int) : Int × Int × (Int → Int) × (Int → Int) := sr (G 1).toNat (ftP G A) (ntP G A) W m.toNat 0 0 0 (frE G) (fun _ => 0) (fun _ => 0) (-1, 0, fun _ => 0, fun _ => 0)
theorem plB_0 (G : Int → Int) (m : Int) (A W : Int → Int) : 0 ≤ (plB G m A W).1 := sr_ge _ _ _ _ _ _ _ _ _ _ _ _
def BC (h : Int → Int → Int) (m : Int) (B : Int × Int × (Int → Int) × (Int → Int)) : Prop := h 442 1 = B.1 ∧ h 442 2 = B.2.1 ∧ ∀ i, 0 ≤ i → i < m → h 447 i = B.2.2.1 i ∧ h 448 i = B.2.2.2 i
def BR (h : Int → Int → Int) (m : Int) (B : Int × Int × (Int → Int) × (Int → Int)) : Prop := h 469 24 = B.1 ∧ h 469 25 = B.2.1 ∧ ∀ i, 0 ≤ i → i < m → h 484 i = B.2.2.1 i ∧ h 485 i = B.2.2.2 i
theorem k_solve {sh : Int × (Int → Nat × Int)} {h : Int → Int → Int} {w m : Int} {G A W : Int → Int} (hs : Sh sh) (iw : isW w) (wf : WF G) (lk : LK G m A) (hW : ∀ i, 0 ≤ i → i < m → 0 ≤ W i ∧ W i ≤ 3000) (hp : Ptr h) (hr : RelW h w G) (lc : LC h m A W) : ∃ h', q_Cc 41 [(15, 442), (20, w)] (sh, h) = some ((9, 0), (sh, h')) ∧ FP h h' ∧ LC h' m A W ∧ BC h' m (plB G m A W) := by
  have wr := wf.1
  have u1 := wr.nd; have u3 := wr.na
  have w0 := iw.b
  have m0 := lk.1
  have m5 := lk.2.1
  obtain ⟨X, q1, hX⟩ := k_findEnds (sh := sh) hs hp iw hr wf
  have f1 : FP h (q_row h 451 X) := fun x y hn => by rw [q_row_ne (by omega)]
  have lc1 : LC (q_row h 451 X) m A W := by
    unfold LC
    rw [q_row_ne (by decide), q_row_ne (by decide), q_row_ne (by decide)]; exact lc
  have pc1 : PC (q_row h 451 X) w G m A W := ⟨f1.ptr hp, f1.rel iw wr hr, lc1.1, lc1.2⟩
  have eb : ∀ d, enN G (G 3).toNat d ≤ 20000 := fun d => (enN_b wf (G 3).toNat (by omega) d).2
  obtain ⟨R, V, q2, rs, rb⟩ := k_findRest (sh := sh) (E := enN G (G 3).toNat) hs iw wf lk hW pc1 (fun d d0 d1 => by rw [q_row_self]; exact ⟨hX d d0 (by omega), eb d⟩)
  obtain ⟨g, eg⟩ : ∃ g, q_up (q_up (q_row (q_row (q_row h 451 X) 449 R) 450 V) 442 1 (-1)) 442 2 0 = g := ⟨_, rfl⟩
  have f2 : FP h g := fun x y hn => by rw [← eg, q_up_ne (by omega), q_up_ne (by omega), q_row_ne (by omega), q_row_ne (by omega), q_row_ne (by omega)]
  have lc2 : LC g m A W := by
    unfold LC
    rw [← eg, q_up_ne (by decide), q_up_ne (by decide), q_up_far (by decide), q_up_far (by decide), q_up_far (by decide), q_up_far (by decide), q_row_ne (by decide), q_row_ne (by decide), q_row_ne (by decide), q_row_ne (by decide), q_row_ne (by decide), q_row_ne (by decide)]
    exact lc1
  obtain ⟨h', q3, f3, sc⟩ := k_try (sh := sh) hs iw wf lk hW rs rb (fun d _ _ => eb d) m.toNat 6 0 0 0 (enN G (G 3).toNat) (fun _ => 0) (fun _ => 0) (-1, 0, fun _ => 0, fun _ => 0) g (by omega) (by omega) (by omega) (by omega) ⟨f2.ptr hp, f2.rel iw wr hr, lc2.1, lc2.2⟩ (fun i i0 i1 => by
    rw [← eg, q_up_far (by decide), q_up_far (by decide), q_up_far (by decide), q_up_far (by decide), q_row_ne (by decide), q_row_self, q_row_self]; exact ⟨rfl, rfl⟩) (by omega) (by omega) (by omega) (by omega) (fun d _ _ => ⟨eb d, Int.le_refl _⟩) ⟨fun i a b => by omega, fun d d0 d1 => by
    rw [← eg, q_up_far (by decide), q_up_far (by decide), q_row_ne (by decide), q_row_ne (by decide), q_row_self]; exact hX d d0 (by omega), by rw [← eg, q_up_ne (by decide), q_up_self], by rw [← eg, q_up_self], fun hb => by have hb : (0 : Int) ≤ -1 := hb; omega⟩
  have q3 : q_Cc 306 [(15, 442), (20, w), (0, 0), (0, 0), (0, 0)] (sh, g) = some ((9, 0), (sh, h')) := q3
  refine ⟨h', ?_, f2.trans f3.fp, ?_, sc.2.2.1, sc.2.2.2.1, sc.2.2.2.2 (plB_0 G m A W)⟩
  · rw [c_X5_solve, e_X5_solve_0, q1, Option.bind_some]
    show q_L 41 5 [(15, 442), (20, w)] [] (sh, q_row h 451 X) = _
    rw [e_X5_solve_5, q2, Option.bind_some]
    show q_L 41 10 [(15, 442), (20, w)] [] (sh, q_row (q_row (q_row h 451 X) 449 R) 450 V) = _
    rw [e_X5_solve_10, eg, q3, Option.bind_some]
    show q_L 41 28 [(15, 442), (20, w)] [] (sh, h') = _
    rw [e_X5_solve_28]
  · unfold LC
    rw [f3 442 0 (by omega)]
    exact ⟨lc2.1, fun i i0 i1 => by rw [f3 443 i (by omega), f3 444 i (by omega)]; exact lc2.2 i i0 i1⟩
theorem r_plans {sh : Int × (Int → Nat × Int)} {h : Int → Int → Int} {m : Int} {G A : Int → Int} (hs : Sh sh) (wf : WF G) (lk : LK G m A) (pr : PR h G m A) : ∃ h', q_Cc 207 [(22, 469)] (sh, h) = some ((9, 0), (sh, h')) ∧ FR h h' ∧ BR h' m (plB G m A (wtW G A)) := by
  have wr := wf.1
  have u1 := wr.nd; have u3 := wr.na
  have m0 := lk.1
  have m5 := lk.2.1
  have hp := pr.1
  obtain ⟨X, q1, hX⟩ := r_findFree (sh := sh) hp.m0 hp.m26 hs.k470 hs.k486 pr.2.1 wf
  obtain ⟨g, eg⟩ : ∃ g, q_up (q_up (q_row h 486 X) 469 24 (-1)) 469 25 0 = g := ⟨_, rfl⟩
  have f2 : FR h g := fun x y hn => by rw [← eg, q_up_ne (by omega), q_up_ne (by omega), q_row_ne (by omega)]
  have eb : ∀ d, enN G (G 3).toNat d ≤ 20000 := fun d => (enN_b wf (G 3).toNat (by omega) d).2
  obtain ⟨h', q3, f3, sc⟩ := r_try (sh := sh) (W := wtW G A) hs wf lk (fun i _ _ => rfl) m.toNat 6 0 0 0 (frE G) (fun _ => 0) (fun _ => 0) (-1, 0, fun _ => 0, fun _ => 0) g (by omega) (by omega) (by omega) (by omega) (pr.fr f2) (by omega) (by omega) (by omega) (by omega) (fun d d0 d1 => FE_b wf d0 (by omega) (eb d)) ⟨fun i a b => by omega, fun d d0 d1 => by
    rw [← eg, q_up_far (by decide), q_up_far (by decide), q_row_self]; exact hX d d0 (by omega), by rw [← eg, q_up_ne (by decide), q_up_self], by rw [← eg, q_up_self], fun hb => by have hb : (0 : Int) ≤ -1 := hb; omega⟩
  have q3 : q_Cc 316 [(22, 469), (0, 0), (0, 0), (0, 0)] (sh, g) = some ((9, 0), (sh, h')) := q3
  refine ⟨h', ?_, f2.trans f3, sc.2.2.1, sc.2.2.2.1, sc.2.2.2.2 (plB_0 G m A (wtW G A))⟩
  rw [c_X12_plans, e_X12_plans_0, q1, Option.bind_some]
  show q_L 207 4 [(22, 469)] [] (sh, q_row h 486 X) = _
  rw [e_X12_plans_4, eg, q3, Option.bind_some]
  show q_L 207 21 [(22, 469)] [] (sh, h') = _
  rw [e_X12_plans_21]
/-- the class's plan of what waits -/
theorem k_plan {sh : Int × (Int → Nat × Int)} {h : Int → Int → Int} {w but : Int} {G : Int → Int} (hs : Sh sh) (iw : isW w) (wf : WF G) (hp : Ptr h) (hr : RelW h w G) : ∃ h', q_Cc 36 [(15, 442), (20, w), (0, but)] (sh, h) = some ((9, 0), (sh, h')) ∧ FP h h' ∧ LC h' (lkm G but) (lkA G but) (wtW G (lkA G but)) ∧ BC h' (lkm G but) (plB G (lkm G but) (lkA G but) (wtW G (lkA G but))) := by
  have wr := wf.1
  have lk := lk_ok wr but
  obtain ⟨g, q1, f1, l1⟩ := k_lookW (sh := sh) (but := but) hs iw wf hp hr
  obtain ⟨h', q2, f2, l2, b2⟩ := k_solve (sh := sh) hs iw wf lk (wtW_b wr lk) (f1.ptr hp) (f1.rel iw wr hr) l1
  refine ⟨h', ?_, f1.trans f2, l2, b2⟩
  rw [c_X5_planWaiting, e_X5_planWaiting_0, q1, Option.bind_some]
  show q_L 36 6 [(15, 442), (20, w), (0, but)] [] (sh, g) = _
  rw [e_X5_planWaiting_6, q2, Option.bind_some]
  show q_L 36 11 [(15, 442), (20, w), (0, but)] [] (sh, h') = _
  rw [e_X5_planWaiting_11]
/-- nothing but the reference's planning rows is changed -/
def FQ (h h' : Int → Int → Int) : Prop := ∀ x y, ¬ ((481 ≤ x ∧ x ≤ 486) ∨ (x = 469 ∧ (y = 18 ∨ y = 24 ∨ y = 25))) → h' x y = h x y
theorem FQ.refl (h : Int → Int → Int) : FQ h h := fun _ _ _ => rfl
theorem FQ.trans {h h' h'' : Int → Int → Int} (a : FQ h h') (b : FQ h' h'') : FQ h h'' := fun x y hn => (b x y hn).trans (a x y hn)
theorem FR.fq {h h' : Int → Int → Int} (a : FR h h') : FQ h h' := fun x y hn => a x y (by omega)
theorem FQ.ptr {h h' : Int → Int → Int} (a : FQ h h') (hp : Ptr h) : Ptr h' := by
  intro x y v hv
  by_cases e : (481 ≤ x ∧ x ≤ 486) ∨ (x = 469 ∧ (y = 18 ∨ y = 24 ∨ y = 25))
  · rw [VP_rl (by omega)] at hv; cases hv
  · rw [a x y e]; exact hp x y v hv
theorem r_lookW {sh : Int × (Int → Nat × Int)} {h : Int → Int → Int} {but : Int} {G : Int → Int} (hs : Sh sh) (wf : WF G) (hp : Ptr h) (hG : h 470 = G) : ∃ h', q_Cc 203 [(22, 469), (0, but)] (sh, h) = some ((9, 0), (sh, h')) ∧ FQ h h' ∧ PR h' G (lkm G but) (lkA G but) := by
  have q := r_lookN (sh := sh) (but := but) hp.m0 hp.m19 hs.k470 hs.k481 hG wf.1
  obtain ⟨a1, a2⟩ := lkN_any G but (h 481) (fun _ => 0) (G 3).toNat
  refine ⟨_, q, ?_, ?_⟩
  · intro x y hn
    rw [q_row_ne (by omega), q_up_ne (by omega)]
  · refine ⟨?_, ?_, ?_, ?_⟩
    · exact (hp.up (VP_rl (by omega))).row (fun j => VP_ref (by decide))
    · rw [q_row_ne (by decide), q_up_far (by decide)]; exact hG
    · rw [q_row_ne (by decide), q_up_self]; exact a1
    · intro i i0 i1
      rw [q_row_self]
      exact a2 i i0 (by rw [a1]; exact i1)
/-- the reference's plan of what waits -/
theorem r_plan {sh : Int × (Int → Nat × Int)} {h : Int → Int → Int} {G : Int → Int} (hs : Sh sh) (wf : WF G) (hp : Ptr h) (hG : h 470 = G) : ∃ h', q_Cc 208 [(22, 469)] (sh, h) = some ((9, 0), (sh, h')) ∧ FQ h h' ∧ PR h' G (lkm G (-1)) (lkA G (-1)) ∧ BR h' (lkm G (-1)) (plB G (lkm G (-1)) (lkA G (-1)) (wtW G (lkA G (-1)))) := by
  have wr := wf.1
  have lk := lk_ok wr (-1)
  obtain ⟨g, q1, f1, p1⟩ := r_lookW (sh := sh) (but := -1) hs wf hp hG
  obtain ⟨h', q2, f2, b2⟩ := r_plans (sh := sh) hs wf lk p1
  refine ⟨h', ?_, f1.trans f2.fq, p1.fr f2, b2⟩
  rw [c_X12_planNow, e_X12_planNow_0, q1, Option.bind_some]
  show q_L 208 5 [(22, 469)] [] (sh, g) = _
  rw [e_X12_planNow_5, q2, Option.bind_some]
  show q_L 208 9 [(22, 469)] [] (sh, h') = _
  rw [e_X12_planNow_9]
