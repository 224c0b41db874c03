/-! one asking is read -/
def one6 (k c n f t w : Int) : Int → Int := fun i => if i = 0 then k else if i = 1 then c else if i = 2 then n else if i = 3 then f else if i = 4 then t else w
def rdX (g : Int) : Int × Int × Int × (Int → Int) := (0, g, 0, fun _ => 0)
def rdE (b : Int → Int) (L a k c n f t : Int) : Int × Int × Int × (Int → Int) := if (nx b L a).2.2.1 = 1 ∧ (nx b L a).2.2.2 = 11 then (if (pr b L a 11 0 999).1 = 1 then (1, 0, (pr b L a 11 0 999).2.2, one6 k c n f t (pr b L a 11 0 999).2.1) else rdX (pr b L a 11 0 999).2.1) else (1, 0, a, one6 k c n f t 1)
def rdD (b : Int → Int) (L a k c n f : Int) : Int × Int × Int × (Int → Int) := if (pr b L a 10 (f + n) 9999).1 = 1 then rdE b L (pr b L a 10 (f + n) 9999).2.2 k c n f (pr b L a 10 (f + n) 9999).2.1 else rdX (pr b L a 10 (f + n) 9999).2.1
def rdC (b : Int → Int) (L a k c n : Int) : Int × Int × Int × (Int → Int) := if (pr b L a 9 0 9999).1 = 1 then rdD b L (pr b L a 9 0 9999).2.2 k c n (pr b L a 9 0 9999).2.1 else rdX (pr b L a 9 0 9999).2.1
def rdB (b : Int → Int) (L a k c : Int) : Int × Int × Int × (Int → Int) := if (pr b L a 8 1 9).1 = 1 then rdC b L (pr b L a 8 1 9).2.2 k c (pr b L a 8 1 9).2.1 else rdX (pr b L a 8 1 9).2.1
def rdA (b : Int → Int) (L nc a k : Int) : Int × Int × Int × (Int → Int) := if (pr b L a 7 0 (nc - 1)).1 = 1 then rdB b L (pr b L a 7 0 (nc - 1)).2.2 k (pr b L a 7 0 (nc - 1)).2.1 else rdX (pr b L a 7 0 (nc - 1)).2.1
def rd1 (b : Int → Int) (L nc a : Int) : Int × Int × Int × (Int → Int) := if (nx b L a).2.2.1 = 1 ∧ (nx b L a).2.2.2 ≤ 6 then rdA b L nc (nx b L a).1 (nx b L a).2.2.2 else rdX (nx b L a).2.1
theorem pr_rng {b : Int → Int} {L a w lo hi : Int} (h : (pr b L a w lo hi).1 = 1) : lo ≤ (pr b L a w lo hi).2.1 ∧ (pr b L a w lo hi).2.1 ≤ hi := by
  unfold pr at h ⊢
  by_cases z1 : (nx b L a).2.2.1 = 1 ∧ (nx b L a).2.2.2 = w
  · rw [if_pos z1] at h ⊢
    by_cases z2 : (nx b L (nx b L a).1).2.2.1 = 2 ∧ lo ≤ (nx b L (nx b L a).1).2.2.2 ∧ (nx b L (nx b L a).1).2.2.2 ≤ hi
    · rw [if_pos z2]; exact z2.2
    · rw [if_neg z2] at h
      have h : (0 : Int) = 1 := h
      omega
  · rw [if_neg z1] at h
    have h : (0 : Int) = 1 := h
    omega
theorem nx_w {b : Int → Int} {L a : Int} (L1 : L ≤ 110) (a0 : 0 ≤ a) (a1 : a ≤ L) (h : (nx b L a).2.2.1 = 1) : 0 ≤ (nx b L a).2.2.2 ∧ (nx b L a).2.2.2 < 12 := by
  obtain ⟨-, n⟩ := nx_ok (b := b) L1 a0 a1
  rcases n with ⟨-, -, s0, -⟩ | ⟨-, ⟨-, -, wd, sv⟩ | ⟨-, -, -, -, sv⟩ | ⟨-, -, -, -, sv⟩⟩
  · omega
  · rcases wd with ⟨w0, w1, -⟩ | ⟨w1, -⟩
    · exact ⟨w0, w1⟩
    · rw [if_pos (by omega)] at sv; omega
  · split at sv <;> omega
  · split at sv <;> omega
theorem rd1_rng {b : Int → Int} {L nc a : Int} (L1 : L ≤ 110) (a0 : 0 ≤ a) (a1 : a ≤ L) (h : (rd1 b L nc a).1 = 1) : ∃ k c n f t w, (rd1 b L nc a).2.2.2 = one6 k c n f t w ∧ 0 ≤ k ∧ k ≤ 6 ∧ 0 ≤ c ∧ c < nc ∧ 1 ≤ n ∧ n ≤ 9 ∧ 0 ≤ f ∧ f ≤ 9999 ∧ 0 ≤ t ∧ t ≤ 9999 ∧ 0 ≤ w ∧ w ≤ 999 := by
  have no : ∀ g, ¬ (rdX g).1 = 1 := fun g e => by have e : (0 : Int) = 1 := e; omega
  unfold rd1 at h ⊢
  by_cases z0 : (nx b L a).2.2.1 = 1 ∧ (nx b L a).2.2.2 ≤ 6
  · rw [if_pos z0] at h ⊢
    have w0 := nx_w L1 a0 a1 z0.1
    unfold rdA at h ⊢
    by_cases z1 : (pr b L (nx b L a).1 7 0 (nc - 1)).1 = 1
    · rw [if_pos z1] at h ⊢
      have p1 := pr_rng z1
      unfold rdB at h ⊢
      generalize pr b L (nx b L a).1 7 0 (nc - 1) = P1 at *
      by_cases z2 : (pr b L P1.2.2 8 1 9).1 = 1
      · rw [if_pos z2] at h ⊢
        have p2 := pr_rng z2
        unfold rdC at h ⊢
        generalize pr b L P1.2.2 8 1 9 = P2 at *
        by_cases z3 : (pr b L P2.2.2 9 0 9999).1 = 1
        · rw [if_pos z3] at h ⊢
          have p3 := pr_rng z3
          unfold rdD at h ⊢
          generalize pr b L P2.2.2 9 0 9999 = P3 at *
          by_cases z4 : (pr b L P3.2.2 10 (P3.2.1 + P2.2.1) 9999).1 = 1
          · rw [if_pos z4] at h ⊢
            have p4 := pr_rng z4
            unfold rdE at h ⊢
            generalize pr b L P3.2.2 10 (P3.2.1 + P2.2.1) 9999 = P4 at *
            by_cases z5 : (nx b L P4.2.2).2.2.1 = 1 ∧ (nx b L P4.2.2).2.2.2 = 11
            · rw [if_pos z5] at h ⊢
              by_cases z6 : (pr b L P4.2.2 11 0 999).1 = 1
              · rw [if_pos z6]
                have p6 := pr_rng z6
                exact ⟨_, _, _, _, _, _, rfl, w0.1, z0.2, p1.1, by omega, p2.1, p2.2, p3.1, p3.2, by omega, p4.2, p6.1, p6.2⟩
              · rw [if_neg z6] at h; exact (no _ h).elim
            · rw [if_neg z5]
              exact ⟨_, _, _, _, _, _, rfl, w0.1, z0.2, p1.1, by omega, p2.1, p2.2, p3.1, p3.2, by omega, p4.2, by omega, by omega⟩
          · rw [if_neg z4] at h; exact (no _ h).elim
        · rw [if_neg z3] at h; exact (no _ h).elim
      · rw [if_neg z2] at h; exact (no _ h).elim
    · rw [if_neg z1] at h; exact (no _ h).elim
  · rw [if_neg z0] at h; exact (no _ h).elim
/-! the class -/
def FT (R : Int) (h h' : Int → Int → Int) : Prop := ∀ x y, ¬ ((x = 452 ∧ 4 ≤ y ∧ y ≤ 7) ∨ (x = R ∧ 0 ≤ y ∧ y < 6)) → h' x y = h x y
theorem FT.trans {R : Int} {h h' h'' : Int → Int → Int} (a : FT R h h') (b : FT R h' h'') : FT R h h'' := fun x y hn => (b x y hn).trans (a x y hn)
theorem FN.ft {R : Int} {h h' : Int → Int → Int} (a : FN h h') : FT R h h' := fun x y hn => a x y (by omega)
theorem FT.up {R : Int} {h : Int → Int → Int} {y v : Int} (y0 : 0 ≤ y) (y1 : y < 6) : FT R h (q_up h R y v) := fun a b hn => by rw [q_up_ne (by omega)]
theorem TX.ft {R : Int} {h h' : Int → Int → Int} {b : Int → Int} {L : Int} (t : TX h b L) (r : 455 ≤ R) (f : FT R h h') : TX h' b L := by
  refine ⟨by rw [f 452 0 (by omega)]; exact t.1, by rw [f 452 1 (by omega)]; exact t.2.1, t.2.2.1, t.2.2.2.1, fun i i0 i1 => ?_⟩
  rw [f 453 i (by omega)]; exact t.2.2.2.2 i i0 i1
def KQ (b : Int → Int) (L : Int) (sh : Int × (Int → Nat × Int)) (R : Int) (h : Int → Int → Int) (z : q_R) (res : Int × Int × Int × (Int → Int)) : Prop := ∃ h', z = some ((0, res.1), (sh, h')) ∧ FT R h h' ∧ (res.1 = 1 → CPc h' b L res.2.2.1 ∧ (∀ i, 0 ≤ i → i < 6 → h' R i = res.2.2.2 i) ∧ 0 ≤ res.2.2.1 ∧ res.2.2.1 ≤ L) ∧ (res.1 = 1 ∨ (res.1 = 0 ∧ h' 452 5 = res.2.1))
theorem KQ.step {b : Int → Int} {L : Int} {sh : Int × (Int → Nat × Int)} {R : Int} {h h1 : Int → Int → Int} {z z' : q_R} {res : Int × Int × Int × (Int → Int)} (q : KQ b L sh R h1 z res) (f : FT R h h1) (e : z' = z) : KQ b L sh R h z' res := by
  obtain ⟨h', q1, q2, q3⟩ := q
  exact ⟨h', e.trans q1, f.trans q2, q3⟩
theorem KQ.fail {b : Int → Int} {L : Int} {sh : Int × (Int → Nat × Int)} {R g : Int} {h h1 : Int → Int → Int} {z : q_R} (f : FT R h h1) (e : z = some ((0, 0), (sh, h1))) (hg : h1 452 5 = g) : KQ b L sh R h z (rdX g) :=
  ⟨h1, e, f, fun (e : (0 : Int) = 1) => absurd e (by decide), Or.inr ⟨rfl, hg⟩⟩
/-- the row bears what is read so far -/
def RW (h : Int → Int → Int) (R : Int) (m : Int) (V : Int → Int) : Prop := (∀ i, 0 ≤ i → i < m → h R i = V i) ∧ h R 5 = 1
theorem RW.add {h : Int → Int → Int} {R m v : Int} {V : Int → Int} (r : RW h R m V) (m0 : 0 ≤ m) (m5 : m < 5) (hv : V m = v) : RW (q_up h R m v) R (m + 1) V := by
  refine ⟨fun i i0 i1 => ?_, by rw [q_up_ne (by omega)]; exact r.2⟩
  by_cases e : i = m
  · rw [e, q_up_self, hv]
  · rw [q_up_ne (by omega)]; exact r.1 i i0 (by omega)
theorem RW.fn {h h' : Int → Int → Int} {R m : Int} {V : Int → Int} (r : RW h R m V) (hR : 455 ≤ R) (f : FN h h') : RW h' R m V :=
  ⟨fun i i0 i1 => by rw [f R i (by omega)]; exact r.1 i i0 i1, by rw [f R 5 (by omega)]; exact r.2⟩
theorem k_rdE {sh : Int × (Int → Nat × Int)} {h : Int → Int → Int} {b : Int → Int} {L a R nc k c n f t : Int} (hs : Sh sh) (tx : TX h b L) (hR : 455 ≤ R) (lR : (sh.2 R).2 = 6) (a0 : 0 ≤ a) (a1 : a ≤ L) (ha : h 452 4 = a) (hv : h 452 7 = t) (rw_ : RW h R 4 (one6 k c n f t 1)) : KQ b L sh R h (q_L 79 115 [(19, 452), (30, R), (0, nc)] [(0, 1)] (sh, h)) (rdE b L a k c n f t) := by
  have f0 : FT R h (q_up h R 4 t) := FT.up (by decide) (by decide)
  have t0 := tx.ft hR f0
  have r0 := rw_.add (v := t) (by decide) (by decide) rfl
  obtain ⟨h1, q1, f1, c1⟩ := k_nx (sh := sh) hs t0 a0 a1 (by rw [q_up_ne (by omega)]; exact ha)
  have t1 := t0.fn f1
  have r1 := r0.fn hR f1
  have n1 := nx_b (b := b) tx.2.2.2.1 a0 a1
  obtain ⟨d1, d2, d3, d4⟩ := id c1
  have f01 : FT R h h1 := f0.trans f1.ft
  have hd : q_L 79 115 [(19, 452), (30, R), (0, nc)] [(0, 1)] (sh, h) = q_L 79 131 [(19, 452), (30, R), (0, nc)] [] (sh, h1) := by
    rw [e_X9_readOne_115]
    simp (disch := omega) only [q_470, q_up_far, q_row_row, q_row_self, q_row_ne, q_up_ne, q_up_eq, q_rowup, ud_eq, ud_ne, q_add_id, q_sub_id, q_mul_id, q_w_eq, q_rem_n, q_div_n, ↓reduceIte, leT, leF, ltT, ltF, eqT, eqF, true_or, or_true, false_or, or_false, true_and, and_true, false_and, and_false, or_self, and_self, Option.bind_some, hv, lR, q1]
  refine KQ.step (h1 := h1) ?_ f01 hd
  unfold rdE
  by_cases z1 : (nx b L a).2.2.1 = 1 ∧ (nx b L a).2.2.2 = 11
  · rw [if_pos z1]
    have d5 := d4 (Or.inl z1.1)
    rw [z1.1] at d3
    rw [z1.2] at d5
    obtain ⟨h2, q2, f2, c2⟩ := k_number (sh := sh) (lo := 0) (hi := 999) hs t1 (by omega) n1.2.2 d1
    have n2 := nx_b (b := b) tx.2.2.2.1 (show 0 ≤ (nx b L a).1 by omega) n1.2.2
    have t2 := t1.fn f2
    have r2 := r1.fn hR f2
    obtain ⟨g1, g2, g3, g4⟩ := id c2
    have ep : (pr b L a 11 0 999) = if (nx b L (nx b L a).1).2.2.1 = 2 ∧ 0 ≤ (nx b L (nx b L a).1).2.2.2 ∧ (nx b L (nx b L a).1).2.2.2 ≤ 999 then (1, (nx b L (nx b L a).1).2.2.2, (nx b L (nx b L a).1).1) else (0, (nx b L (nx b L a).1).2.1, 0) := by
      unfold pr
      rw [if_pos z1]
    rw [ep]
    by_cases z2 : (nx b L (nx b L a).1).2.2.1 = 2 ∧ 0 ≤ (nx b L (nx b L a).1).2.2.2 ∧ (nx b L (nx b L a).1).2.2.2 ≤ 999
    · rw [if_pos z2] at q2 ⊢
      rw [if_pos rfl]
      have g5 := g4 (Or.inr z2.1)
      have f3 : FT R h2 (q_up h2 R 5 (nx b L (nx b L a).1).2.2.2) := FT.up (by decide) (by decide)
      have t3 := t2.ft hR f3
      obtain ⟨h3, q3, f4, c3⟩ := k_nx (sh := sh) hs t3 (show 0 ≤ (nx b L (nx b L a).1).1 by omega) n2.2.2 (by rw [q_up_ne (by omega)]; exact g1)
      refine ⟨h3, ?_, (f2.ft.trans f3).trans f4.ft, fun _ => ⟨c3, fun i i0 i1 => ?_, by show 0 ≤ (nx b L (nx b L a).1).1; omega, n2.2.2⟩, Or.inl rfl⟩
      · simp (disch := omega) only [q_470, q_up_far, q_row_row, q_row_self, q_row_ne, q_up_ne, q_up_eq, q_rowup, ud_eq, ud_ne, q_add_id, q_sub_id, q_mul_id, q_w_eq, q_rem_n, q_div_n, ↓reduceIte, leT, leF, ltT, ltF, eqT, eqF, true_or, or_true, false_or, or_false, true_and, and_true, false_and, and_false, or_self, and_self, Option.bind_some, d3, d5, q2, g5, lR, q3, e_X9_readOne_131, e_X9_readOne_153, e_X9_readOne_156, e_X9_readOne_161, c_X9_readWorth, e_X9_readWorth_0, e_X9_readWorth_8, e_X9_readWorth_24]
      · rw [f4 R i (by omega)]
        by_cases e : i = 5
        · rw [e, q_up_self]; rfl
        · rw [q_up_ne (by omega), r2.1 i i0 (by omega)]
          have : i = 0 ∨ i = 1 ∨ i = 2 ∨ i = 3 ∨ i = 4 := by omega
          rcases this with q | q | q | q | q <;> (subst q; rfl)
    · rw [if_neg z2] at q2 ⊢
      rw [if_neg (fun (e : (0 : Int) = 1) => absurd e (by decide))]
      refine KQ.fail f2.ft ?_ g2
      simp (disch := omega) only [q_470, q_up_far, q_row_row, q_row_self, q_row_ne, q_up_ne, q_up_eq, q_rowup, ud_eq, ud_ne, q_add_id, q_sub_id, q_mul_id, q_w_eq, q_rem_n, q_div_n, ↓reduceIte, leT, leF, ltT, ltF, eqT, eqF, true_or, or_true, false_or, or_false, true_and, and_true, false_and, and_false, or_self, and_self, Option.bind_some, d3, d5, q2, e_X9_readOne_131, e_X9_readOne_153, e_X9_readOne_156, e_X9_readOne_161, c_X9_readWorth, e_X9_readWorth_0, e_X9_readWorth_8, e_X9_readWorth_24]
  · rw [if_neg z1]
    refine ⟨h1, ?_, FN.ft (FN.refl h1), fun _ => ⟨c1, fun i i0 i1 => ?_, a0, a1⟩, Or.inl rfl⟩
    · by_cases z2 : (nx b L a).2.2.1 = 1
      · have d5 := d4 (Or.inl z2)
        have z3 : ¬ (nx b L a).2.2.2 = 11 := fun e => z1 ⟨z2, e⟩
        simp (disch := omega) only [q_470, q_up_far, q_row_row, q_row_self, q_row_ne, q_up_ne, q_up_eq, q_rowup, ud_eq, ud_ne, q_add_id, q_sub_id, q_mul_id, q_w_eq, q_rem_n, q_div_n, ↓reduceIte, leT, leF, ltT, ltF, eqT, eqF, true_or, or_true, false_or, or_false, true_and, and_true, false_and, and_false, or_self, and_self, Option.bind_some, d3, z2, d5, e_X9_readOne_131, e_X9_readOne_153, e_X9_readOne_156, e_X9_readOne_161]
      · simp (disch := omega) only [q_470, q_up_far, q_row_row, q_row_self, q_row_ne, q_up_ne, q_up_eq, q_rowup, ud_eq, ud_ne, q_add_id, q_sub_id, q_mul_id, q_w_eq, q_rem_n, q_div_n, ↓reduceIte, leT, leF, ltT, ltF, eqT, eqF, true_or, or_true, false_or, or_false, true_and, and_true, false_and, and_false, or_self, and_self, Option.bind_some, d3, e_X9_readOne_131, e_X9_readOne_153, e_X9_readOne_156, e_X9_readOne_161]
    · by_cases e : i = 5
      · rw [e, r1.2]; rfl
      · exact r1.1 i i0 (by omega)
theorem k_rdD {sh : Int × (Int → Nat × Int)} {h : Int → Int → Int} {b : Int → Int} {L a R nc k c n f : Int} (hs : Sh sh) (tx : TX h b L) (hR : 455 ≤ R) (lR : (sh.2 R).2 = 6) (a0 : 0 ≤ a) (a1 : a ≤ L) (ha : h 452 4 = a) (hv : h 452 7 = f) (n0 : 0 ≤ n) (n1 : n ≤ 9) (f0 : 0 ≤ f) (f1 : f ≤ 9999) (rw_ : RW h R 3 (one6 k c n f 0 1)) : KQ b L sh R h (q_L 79 87 [(19, 452), (30, R), (0, nc)] [(0, 1)] (sh, h)) (rdD b L a k c n f) := by
  have fa : FT R h (q_up h R 3 f) := FT.up (by decide) (by decide)
  have t0 := tx.ft hR fa
  have r0 := rw_.add (v := f) (by decide) (by decide) rfl
  obtain ⟨h1, q1, fb, c1, c2⟩ := k_pair (sh := sh) (w := 10) (lo := f + n) (hi := 9999) hs t0 a0 a1 (by rw [q_up_ne (by omega)]; exact ha)
  have r1 := r0.fn hR fb
  have rn : h R 2 = n := rw_.1 2 (by decide) (by decide)
  have hd : q_L 79 87 [(19, 452), (30, R), (0, nc)] [(0, 1)] (sh, h) = q_L 79 115 [(19, 452), (30, R), (0, nc)] [(0, (pr b L a 10 (f + n) 9999).1)] (sh, h1) := by
    rw [e_X9_readOne_87]
    simp (disch := omega) only [q_470, q_up_far, q_row_row, q_row_self, q_row_ne, q_up_ne, q_up_eq, q_rowup, ud_eq, ud_ne, q_add_id, q_sub_id, q_mul_id, q_w_eq, q_rem_n, q_div_n, ↓reduceIte, leT, leF, ltT, ltF, eqT, eqF, true_or, or_true, false_or, or_false, true_and, and_true, false_and, and_false, or_self, and_self, Option.bind_some, hv, lR, rn, q1]
  refine KQ.step (h1 := h1) ?_ (fa.trans fb.ft) hd
  unfold rdD
  by_cases z : (pr b L a 10 (f + n) 9999).1 = 1
  · rw [if_pos z]
    obtain ⟨d1, d2, d3, d4, d5, d6⟩ := c1 z
    rw [z]
    refine k_rdE hs (t0.fn fb) hR lR d5 d6 d2 d1 ⟨fun i i0 i1 => ?_, r1.2⟩
    rw [r1.1 i i0 i1]
    have : i = 0 ∨ i = 1 ∨ i = 2 ∨ i = 3 := by omega
    rcases this with q | q | q | q <;> (subst q; rfl)
  · rw [if_neg z]
    rcases c2 with c2 | ⟨c2, c3⟩
    · exact (z c2).elim
    · refine KQ.fail (FN.ft (FN.refl h1)) ?_ c3
      rw [c2]
      simp (disch := omega) only [q_470, q_up_far, q_row_row, q_row_self, q_row_ne, q_up_ne, q_up_eq, q_rowup, ud_eq, ud_ne, q_add_id, q_sub_id, q_mul_id, q_w_eq, q_rem_n, q_div_n, ↓reduceIte, leT, leF, ltT, ltF, eqT, eqF, true_or, or_true, false_or, or_false, true_and, and_true, false_and, and_false, or_self, and_self, Option.bind_some, e_X9_readOne_115]
theorem k_rdC {sh : Int × (Int → Nat × Int)} {h : Int → Int → Int} {b : Int → Int} {L a R nc k c n : Int} (hs : Sh sh) (tx : TX h b L) (hR : 455 ≤ R) (lR : (sh.2 R).2 = 6) (a0 : 0 ≤ a) (a1 : a ≤ L) (ha : h 452 4 = a) (hv : h 452 7 = n) (n0 : 0 ≤ n) (n1 : n ≤ 9) (rw_ : RW h R 2 (one6 k c n 0 0 1)) : KQ b L sh R h (q_L 79 65 [(19, 452), (30, R), (0, nc)] [(0, 1)] (sh, h)) (rdC b L a k c n) := by
  have fa : FT R h (q_up h R 2 n) := FT.up (by decide) (by decide)
  have t0 := tx.ft hR fa
  have r0 := rw_.add (v := n) (by decide) (by decide) rfl
  obtain ⟨h1, q1, fb, c1, c2⟩ := k_pair (sh := sh) (w := 9) (lo := 0) (hi := 9999) hs t0 a0 a1 (by rw [q_up_ne (by omega)]; exact ha)
  have r1 := r0.fn hR fb
  have hd : q_L 79 65 [(19, 452), (30, R), (0, nc)] [(0, 1)] (sh, h) = q_L 79 87 [(19, 452), (30, R), (0, nc)] [(0, (pr b L a 9 0 9999).1)] (sh, h1) := by
    rw [e_X9_readOne_65]
    simp (disch := omega) only [q_470, q_up_far, q_row_row, q_row_self, q_row_ne, q_up_ne, q_up_eq, q_rowup, ud_eq, ud_ne, q_add_id, q_sub_id, q_mul_id, q_w_eq, q_rem_n, q_div_n, ↓reduceIte, leT, leF, ltT, ltF, eqT, eqF, true_or, or_true, false_or, or_false, true_and, and_true, false_and, and_false, or_self, and_self, Option.bind_some, hv, lR, q1]
  refine KQ.step (h1 := h1) ?_ (fa.trans fb.ft) hd
  unfold rdC
  by_cases z : (pr b L a 9 0 9999).1 = 1
  · rw [if_pos z]
    obtain ⟨d1, d2, d3, d4, d5, d6⟩ := c1 z
    rw [z]
    refine k_rdD hs (t0.fn fb) hR lR d5 d6 d2 d1 n0 n1 d3 d4 ⟨fun i i0 i1 => ?_, r1.2⟩
    rw [r1.1 i i0 i1]
    have : i = 0 ∨ i = 1 ∨ i = 2 := by omega
    rcases this with q | q | q <;> (subst q; rfl)
  · rw [if_neg z]
    rcases c2 with c2 | ⟨c2, c3⟩
    · exact (z c2).elim
    · refine KQ.fail (FN.ft (FN.refl h1)) ?_ c3
      rw [c2]
      simp (disch := omega) only [q_470, q_up_far, q_row_row, q_row_self, q_row_ne, q_up_ne, q_up_eq, q_rowup, ud_eq, ud_ne, q_add_id, q_sub_id, q_mul_id, q_w_eq, q_rem_n, q_div_n, ↓reduceIte, leT, leF, ltT, ltF, eqT, eqF, true_or, or_true, false_or, or_false, true_and, and_true, false_and, and_false, or_self, and_self, Option.bind_some, e_X9_readOne_87]
theorem k_rdB {sh : Int × (Int → Nat × Int)} {h : Int → Int → Int} {b : Int → Int} {L a R nc k c : Int} (hs : Sh sh) (tx : TX h b L) (hR : 455 ≤ R) (lR : (sh.2 R).2 = 6) (a0 : 0 ≤ a) (a1 : a ≤ L) (ha : h 452 4 = a) (hv : h 452 7 = c) (rw_ : RW h R 1 (one6 k c 0 0 0 1)) : KQ b L sh R h (q_L 79 44 [(19, 452), (30, R), (0, nc)] [(0, 1)] (sh, h)) (rdB b L a k c) := by
  have fa : FT R h (q_up h R 1 c) := FT.up (by decide) (by decide)
  have t0 := tx.ft hR fa
  have r0 := rw_.add (v := c) (by decide) (by decide) rfl
  obtain ⟨h1, q1, fb, c1, c2⟩ := k_pair (sh := sh) (w := 8) (lo := 1) (hi := 9) hs t0 a0 a1 (by rw [q_up_ne (by omega)]; exact ha)
  have r1 := r0.fn hR fb
  have hd : q_L 79 44 [(19, 452), (30, R), (0, nc)] [(0, 1)] (sh, h) = q_L 79 65 [(19, 452), (30, R), (0, nc)] [(0, (pr b L a 8 1 9).1)] (sh, h1) := by
    rw [e_X9_readOne_44]
    simp (disch := omega) only [q_470, q_up_far, q_row_row, q_row_self, q_row_ne, q_up_ne, q_up_eq, q_rowup, ud_eq, ud_ne, q_add_id, q_sub_id, q_mul_id, q_w_eq, q_rem_n, q_div_n, ↓reduceIte, leT, leF, ltT, ltF, eqT, eqF, true_or, or_true, false_or, or_false, true_and, and_true, false_and, and_false, or_self, and_self, Option.bind_some, hv, lR, q1]
  refine KQ.step (h1 := h1) ?_ (fa.trans fb.ft) hd
  unfold rdB
  by_cases z : (pr b L a 8 1 9).1 = 1
  · rw [if_pos z]
    obtain ⟨d1, d2, d3, d4, d5, d6⟩ := c1 z
    rw [z]
    refine k_rdC hs (t0.fn fb) hR lR d5 d6 d2 d1 (by omega) d4 ⟨fun i i0 i1 => ?_, r1.2⟩
    rw [r1.1 i i0 i1]
    have : i = 0 ∨ i = 1 := by omega
    rcases this with q | q <;> (subst q; rfl)
  · rw [if_neg z]
    rcases c2 with c2 | ⟨c2, c3⟩
    · exact (z c2).elim
    · refine KQ.fail (FN.ft (FN.refl h1)) ?_ c3
      rw [c2]
      simp (disch := omega) only [q_470, q_up_far, q_row_row, q_row_self, q_row_ne, q_up_ne, q_up_eq, q_rowup, ud_eq, ud_ne, q_add_id, q_sub_id, q_mul_id, q_w_eq, q_rem_n, q_div_n, ↓reduceIte, leT, leF, ltT, ltF, eqT, eqF, true_or, or_true, false_or, or_false, true_and, and_true, false_and, and_false, or_self, and_self, Option.bind_some, e_X9_readOne_65]
theorem k_rd1 {sh : Int × (Int → Nat × Int)} {h : Int → Int → Int} {b : Int → Int} {L a R nc : Int} (hs : Sh sh) (tx : TX h b L) (hR : 455 ≤ R) (lR : (sh.2 R).2 = 6) (a0 : 0 ≤ a) (a1 : a ≤ L) (ha : h 452 4 = a) (nc0 : 0 ≤ nc) (nc1 : nc ≤ 8) : KQ b L sh R h (q_Cc 79 [(19, 452), (30, R), (0, nc)] (sh, h)) (rd1 b L nc a) := by
  obtain ⟨h1, q1, f1, c1⟩ := k_nx (sh := sh) hs tx a0 a1 ha
  have t1 := tx.fn f1
  have n1 := nx_b (b := b) tx.2.2.2.1 a0 a1
  obtain ⟨d1, d2, d3, d4⟩ := id c1
  unfold rd1
  by_cases z0 : (nx b L a).2.2.1 = 1 ∧ (nx b L a).2.2.2 ≤ 6
  · rw [if_pos z0]
    have d5 := d4 (Or.inl z0.1)
    rw [z0.1] at d3
    obtain ⟨v, ev⟩ : ∃ v, (nx b L a).2.2.2 = v := ⟨_, rfl⟩
    rw [ev] at d5 z0 ⊢
    have v6 := z0.2
    have fa : FT R h1 (q_up (q_up h1 R 0 v) R 5 1) := (FT.up (by decide) (by decide)).trans (FT.up (by decide) (by decide))
    have t2 := t1.ft hR fa
    obtain ⟨h2, q2, fb, g1, g2⟩ := k_pair (sh := sh) (w := 7) (lo := 0) (hi := nc - 1) hs t2 (show 0 ≤ (nx b L a).1 by omega) n1.2.2 (by rw [q_up_ne (by omega), q_up_ne (by omega)]; exact d1)
    have r2 : RW h2 R 1 (one6 v 0 0 0 0 1) := by
      refine RW.fn ⟨fun i i0 i1 => ?_, q_up_self _ _ _ _⟩ hR fb
      have e : i = 0 := by omega
      rw [e, q_up_ne (by omega), q_up_self]; rfl
    have hd : q_Cc 79 [(19, 452), (30, R), (0, nc)] (sh, h) = q_L 79 44 [(19, 452), (30, R), (0, nc)] [(0, (pr b L (nx b L a).1 7 0 (nc - 1)).1)] (sh, h2) := by
      simp (disch := omega) only [q_470, q_up_far, q_row_row, q_row_self, q_row_ne, q_up_ne, q_up_eq, q_rowup, ud_eq, ud_ne, q_add_id, q_sub_id, q_mul_id, q_w_eq, q_rem_n, q_div_n, ↓reduceIte, leT, leF, ltT, ltF, eqT, eqF, true_or, or_true, false_or, or_false, true_and, and_true, false_and, and_false, or_self, and_self, Option.bind_some, q1, d3, d5, lR, q2, c_X9_readOne, e_X9_readOne_0, e_X9_readOne_4]
    refine KQ.step (h1 := h2) ?_ ((f1.ft.trans fa).trans fb.ft) hd
    unfold rdA
    by_cases z : (pr b L (nx b L a).1 7 0 (nc - 1)).1 = 1
    · rw [if_pos z]
      obtain ⟨i1, i2, i3, i4, i5, i6⟩ := g1 z
      rw [z]
      refine k_rdB hs (t2.fn fb) hR lR i5 i6 i2 i1 ⟨fun i i0 i1 => ?_, r2.2⟩
      rw [r2.1 i i0 i1]
      have e : i = 0 := by omega
      subst e; rfl
    · rw [if_neg z]
      rcases g2 with g2 | ⟨g2, g3⟩
      · exact (z g2).elim
      · refine KQ.fail (FN.ft (FN.refl h2)) ?_ g3
        rw [g2]
        simp (disch := omega) only [q_470, q_up_far, q_row_row, q_row_self, q_row_ne, q_up_ne, q_up_eq, q_rowup, ud_eq, ud_ne, q_add_id, q_sub_id, q_mul_id, q_w_eq, q_rem_n, q_div_n, ↓reduceIte, leT, leF, ltT, ltF, eqT, eqF, true_or, or_true, false_or, or_false, true_and, and_true, false_and, and_false, or_self, and_self, Option.bind_some, e_X9_readOne_44]
  · rw [if_neg z0]
    refine KQ.fail f1.ft ?_ d2
    by_cases z2 : (nx b L a).2.2.1 = 1
    · have d5 := d4 (Or.inl z2)
      have z3 : ¬ (nx b L a).2.2.2 ≤ 6 := fun e => z0 ⟨z2, e⟩
      simp (disch := omega) only [q_470, q_up_far, q_row_row, q_row_self, q_row_ne, q_up_ne, q_up_eq, q_rowup, ud_eq, ud_ne, q_add_id, q_sub_id, q_mul_id, q_w_eq, q_rem_n, q_div_n, ↓reduceIte, leT, leF, ltT, ltF, eqT, eqF, true_or, or_true, false_or, or_false, true_and, and_true, false_and, and_false, or_self, and_self, Option.bind_some, q1, d3, d5, z2, c_X9_readOne, e_X9_readOne_0, e_X9_readOne_4, e_X9_readOne_21]
    · simp (disch := omega) only [q_470, q_up_far, q_row_row, q_row_self, q_row_ne, q_up_ne, q_up_eq, q_rowup, ud_eq, ud_ne, q_add_id, q_sub_id, q_mul_id, q_w_eq, q_rem_n, q_div_n, ↓reduceIte, leT, leF, ltT, ltF, eqT, eqF, true_or, or_true, false_or, or_false, true_and, and_true, false_and, and_false, or_self, and_self, Option.bind_some, q1, d3, c_X9_readOne, e_X9_readOne_0, e_X9_readOne_4, e_X9_readOne_21]
