/-! the reference reads one asking -/
def FU (h h' : Int → Int → Int) (k : Int) : Prop := ∀ x y, ¬ ((x = 469 ∧ 11 ≤ y ∧ y ≤ 15) ∨ (x = 479 ∧ 6 * k ≤ y ∧ y < 6 * k + 6)) → h' x y = h x y
theorem FU.trans {h h' h'' : Int → Int → Int} {k : Int} (a : FU h h' k) (b : FU h' h'' k) : FU h h'' k := fun x y hn => (b x y hn).trans (a x y hn)
theorem FU.refl (h : Int → Int → Int) (k : Int) : FU h h k := fun _ _ _ => rfl
theorem FU.up {h : Int → Int → Int} {k y v : Int} (y0 : 6 * k ≤ y) (y1 : y < 6 * k + 6) : FU h (q_up h 479 y v) k := fun a b hn => by rw [q_up_ne (by omega)]
theorem TR.fu {h h' : Int → Int → Int} {b : Int → Int} {L k : Int} (t : TR h b L) (f : FU h h' k) : TR h' b L := by
  obtain ⟨t0, t1, t2, t3, t4, t5, t6⟩ := t
  refine ⟨by rw [f 469 4 (by omega)]; exact t0, by rw [f 469 5 (by omega)]; exact t1, by rw [f 469 17 (by omega)]; exact t2, t3, t4, fun i i0 i1 => ?_, fun i i0 i1 => ?_⟩
  · rw [f 473 i (by omega)]; exact t5 i i0 i1
  · rw [f 480 i (by omega)]; exact t6 i i0 i1
def RQ (b : Int → Int) (L : Int) (sh : Int × (Int → Nat × Int)) (k : Int) (h : Int → Int → Int) (z : q_R) (res : Int × Int × Int × (Int → Int)) : Prop := ∃ h', z = some ((9, 0), (sh, h')) ∧ FU h h' k ∧ (res.1 = 1 → h' 469 15 = -1 ∧ RR h' b L res.2.2.1 ∧ (∀ i, 0 ≤ i → i < 6 → h' 479 (6 * k + i) = res.2.2.2 i)) ∧ (res.1 = 1 ∨ (res.1 = 0 ∧ h' 469 15 = res.2.1 ∧ 0 ≤ res.2.1 ∧ res.2.1 ≤ L))
theorem RQ.step {b : Int → Int} {L : Int} {sh : Int × (Int → Nat × Int)} {k : Int} {h h1 : Int → Int → Int} {z z' : q_R} {res : Int × Int × Int × (Int → Int)} (q : RQ b L sh k h1 z res) (f : FU h h1 k) (e : z' = z) : RQ b L sh k h z' res := by
  obtain ⟨h', q1, q2, q3⟩ := q
  exact ⟨h', e.trans q1, f.trans q2, q3⟩
/-- it has found a fault: the rest is passed over -/
def RF (sh : Int × (Int → Nat × Int)) (k : Int) (h : Int → Int → Int) (g : Int) (z : q_R) : Prop := ∃ h', z = some ((9, 0), (sh, h')) ∧ FU h h' k ∧ h' 469 15 = g
theorem RF.rq {b : Int → Int} {L : Int} {sh : Int × (Int → Nat × Int)} {k g : Int} {h : Int → Int → Int} {z : q_R} (q : RF sh k h g z) (g0 : 0 ≤ g) (g1 : g ≤ L) : RQ b L sh k h z (rdX g) := by
  obtain ⟨h', q1, q2, q3⟩ := q
  exact ⟨h', q1, q2, fun (e : (0 : Int) = 1) => absurd e (by decide), Or.inr ⟨rfl, q3, g0, g1⟩⟩
theorem RF.step {sh : Int × (Int → Nat × Int)} {k g : Int} {h h1 : Int → Int → Int} {z z' : q_R} (q : RF sh k h1 g z) (f : FU h h1 k) (e : z' = z) : RF sh k h g z' := by
  obtain ⟨h', q1, q2, q3⟩ := q
  exact ⟨h', e.trans q1, f.trans q2, q3⟩
theorem r_flE {sh : Int × (Int → Nat × Int)} {h : Int → Int → Int} {k v g : Int} (hs : Sh sh) (h16 : h 469 16 = 479) (k0 : 0 ≤ k) (k1 : k < 4) (hg : h 469 15 = g) (g0 : 0 ≤ g) : RF sh k h g (q_L 193 152 [(22, 469), (0, k)] [(0, v), (0, 6 * k + 4), (30, 479)] (sh, h)) := by
  refine ⟨q_up (q_up h 479 (6 * k + 4) v) 479 (6 * k + 5) 1, ?_, (FU.up (by omega) (by omega)).trans (FU.up (by omega) (by omega)), by rw [q_up_ne (by omega), q_up_ne (by omega)]; exact hg⟩
  rw [e_X12_reads_152]
  simp (disch := omega) only [q_470, q_up_far, q_row_row, q_row_self, q_row_ne, q_up_ne, q_up_eq, q_rowup, ud_eq, ud_ne, q_add_id, q_sub_id, q_mul_id, q_w_eq, q_rem_n, q_div_n, ↓reduceIte, leT, leF, ltT, ltF, eqT, eqF, true_or, or_true, false_or, or_false, true_and, and_true, false_and, and_false, or_self, and_self, Option.bind_some, h16, hg, hs.k479, e_X12_reads_210]
theorem r_flD {sh : Int × (Int → Nat × Int)} {h : Int → Int → Int} {k v g : Int} (hs : Sh sh) (h16 : h 469 16 = 479) (k0 : 0 ≤ k) (k1 : k < 4) (hg : h 469 15 = g) (g0 : 0 ≤ g) : RF sh k h g (q_L 193 109 [(22, 469), (0, k)] [(0, v), (0, 6 * k + 3), (30, 479)] (sh, h)) := by
  have f1 : FU h (q_up h 479 (6 * k + 3) v) k := FU.up (by omega) (by omega)
  have hg1 : (q_up h 479 (6 * k + 3) v) 469 15 = g := by rw [q_up_ne (by omega)]; exact hg
  have h161 : (q_up h 479 (6 * k + 3) v) 469 16 = 479 := by rw [q_up_ne (by omega)]; exact h16
  refine (r_flE (v := 0) hs h161 k0 k1 hg1 g0).step f1 ?_
  have ra : ∀ lo hi, q_Cc 192 [(22, 469), (0, 10), (0, lo), (0, hi)] (sh, q_up h 479 (6 * k + 3) v) = some ((0, 0), (sh, q_up h 479 (6 * k + 3) v)) := fun lo hi => r_after0 hg1 g0
  rw [e_X12_reads_109]
  simp (disch := omega) only [q_470, q_up_far, q_row_row, q_row_self, q_row_ne, q_up_ne, q_up_eq, q_rowup, ud_eq, ud_ne, q_add_id, q_sub_id, q_mul_id, q_w_eq, q_rem_n, q_div_n, ↓reduceIte, leT, leF, ltT, ltF, eqT, eqF, true_or, or_true, false_or, or_false, true_and, and_true, false_and, and_false, or_self, and_self, Option.bind_some, h16, hs.k479, ra]
theorem r_flC {sh : Int × (Int → Nat × Int)} {h : Int → Int → Int} {k v g : Int} (hs : Sh sh) (h16 : h 469 16 = 479) (k0 : 0 ≤ k) (k1 : k < 4) (hg : h 469 15 = g) (g0 : 0 ≤ g) : RF sh k h g (q_L 193 88 [(22, 469), (0, k)] [(0, v), (0, 6 * k + 2), (30, 479)] (sh, h)) := by
  have f1 : FU h (q_up h 479 (6 * k + 2) v) k := FU.up (by omega) (by omega)
  have hg1 : (q_up h 479 (6 * k + 2) v) 469 15 = g := by rw [q_up_ne (by omega)]; exact hg
  have h161 : (q_up h 479 (6 * k + 2) v) 469 16 = 479 := by rw [q_up_ne (by omega)]; exact h16
  refine (r_flD (v := 0) hs h161 k0 k1 hg1 g0).step f1 ?_
  have ra : ∀ lo hi, q_Cc 192 [(22, 469), (0, 9), (0, lo), (0, hi)] (sh, q_up h 479 (6 * k + 2) v) = some ((0, 0), (sh, q_up h 479 (6 * k + 2) v)) := fun lo hi => r_after0 hg1 g0
  rw [e_X12_reads_88]
  simp (disch := omega) only [q_470, q_up_far, q_row_row, q_row_self, q_row_ne, q_up_ne, q_up_eq, q_rowup, ud_eq, ud_ne, q_add_id, q_sub_id, q_mul_id, q_w_eq, q_rem_n, q_div_n, ↓reduceIte, leT, leF, ltT, ltF, eqT, eqF, true_or, or_true, false_or, or_false, true_and, and_true, false_and, and_false, or_self, and_self, Option.bind_some, h16, hs.k479, ra]
theorem r_flB {sh : Int × (Int → Nat × Int)} {h : Int → Int → Int} {k v g : Int} (hs : Sh sh) (h16 : h 469 16 = 479) (k0 : 0 ≤ k) (k1 : k < 4) (hg : h 469 15 = g) (g0 : 0 ≤ g) : RF sh k h g (q_L 193 68 [(22, 469), (0, k)] [(0, v), (0, 6 * k + 1), (30, 479)] (sh, h)) := by
  have f1 : FU h (q_up h 479 (6 * k + 1) v) k := FU.up (by omega) (by omega)
  have hg1 : (q_up h 479 (6 * k + 1) v) 469 15 = g := by rw [q_up_ne (by omega)]; exact hg
  have h161 : (q_up h 479 (6 * k + 1) v) 469 16 = 479 := by rw [q_up_ne (by omega)]; exact h16
  refine (r_flC (v := 0) hs h161 k0 k1 hg1 g0).step f1 ?_
  have ra : ∀ lo hi, q_Cc 192 [(22, 469), (0, 8), (0, lo), (0, hi)] (sh, q_up h 479 (6 * k + 1) v) = some ((0, 0), (sh, q_up h 479 (6 * k + 1) v)) := fun lo hi => r_after0 hg1 g0
  rw [e_X12_reads_68]
  simp (disch := omega) only [q_470, q_up_far, q_row_row, q_row_self, q_row_ne, q_up_ne, q_up_eq, q_rowup, ud_eq, ud_ne, q_add_id, q_sub_id, q_mul_id, q_w_eq, q_rem_n, q_div_n, ↓reduceIte, leT, leF, ltT, ltF, eqT, eqF, true_or, or_true, false_or, or_false, true_and, and_true, false_and, and_false, or_self, and_self, Option.bind_some, h16, hs.k479, ra]
/-- the reference's row bears what is read so far -/
def RV (h : Int → Int → Int) (k m : Int) (V : Int → Int) : Prop := ∀ i, 0 ≤ i → i < m → h 479 (6 * k + i) = V i
theorem RV.add {h : Int → Int → Int} {k m v : Int} {V : Int → Int} (r : RV h k m V) (hv : V m = v) : RV (q_up h 479 (6 * k + m) v) k (m + 1) V := by
  intro i i0 i1
  by_cases e : i = m
  · rw [e, q_up_self, hv]
  · rw [q_up_ne (by omega)]; exact r i i0 (by omega)
theorem RV.fa {h h' : Int → Int → Int} {k m : Int} {V : Int → Int} (r : RV h k m V) (f : ∀ x y, ¬ (x = 469 ∧ 11 ≤ y ∧ y ≤ 15) → h' x y = h x y) : RV h' k m V := fun i i0 i1 => by rw [f 479 _ (by omega)]; exact r i i0 i1
theorem FA_fu {h h' : Int → Int → Int} {k : Int} (f : ∀ x y, ¬ (x = 469 ∧ 11 ≤ y ∧ y ≤ 15) → h' x y = h x y) : FU h h' k := fun x y hn => f x y (by omega)
theorem RR.up {h : Int → Int → Int} {b : Int → Int} {L a y v : Int} (r : RR h b L a) : RR (q_up h 479 y v) b L a := by
  unfold RR RK at *
  rw [q_up_ne (by omega), q_up_ne (by omega), q_up_ne (by omega), q_up_ne (by omega)]
  exact r
theorem r_rdE {sh : Int × (Int → Nat × Int)} {h : Int → Int → Int} {b : Int → Int} {L a kk k c n f t : Int} (hs : Sh sh) (tr : TR h b L) (h16 : h 469 16 = 479) (k0 : 0 ≤ kk) (k1 : kk < 4) (a0 : 0 ≤ a) (a1 : a ≤ L) (ha : RR h b L a) (hf : h 469 15 = -1) (rv : RV h kk 4 (one6 k c n f t 1)) : RQ b L sh kk h (q_L 193 152 [(22, 469), (0, kk)] [(0, t), (0, 6 * kk + 4), (30, 479)] (sh, h)) (rdE b L a k c n f t) := by
  obtain ⟨h1, e1⟩ : ∃ h1, q_up (q_up h 479 (6 * kk + 4) t) 479 (6 * kk + 5) 1 = h1 := ⟨_, rfl⟩
  have f1 : FU h h1 kk := by rw [← e1]; exact (FU.up (by omega) (by omega)).trans (FU.up (by omega) (by omega))
  have r1 : RR h1 b L a := by rw [← e1]; exact ha.up.up
  have t1 := tr.fu f1
  have hf1 : h1 469 15 = -1 := by rw [← e1, q_up_ne (by omega), q_up_ne (by omega)]; exact hf
  have h161 : h1 469 16 = 479 := by rw [f1 469 16 (by omega)]; exact h16
  have rv1 : RV h1 kk 6 (one6 k c n f t 1) := by
    rw [← e1]
    exact (rv.add (v := t) rfl).add (v := 1) rfl
  obtain ⟨d1, d2, d3, d4, d5⟩ := id r1
  obtain ⟨tk, etk⟩ : ∃ tk, h1 469 13 = tk := ⟨_, rfl⟩
  obtain ⟨tl, etl⟩ : ∃ tl, h1 469 14 = tl := ⟨_, rfl⟩
  have tk1 : h 469 13 = tk := by rw [← etk, ← e1, q_up_ne (by omega), q_up_ne (by omega)]
  have tl1 : h 469 14 = tl := by rw [← etl, ← e1, q_up_ne (by omega), q_up_ne (by omega)]
  unfold rdE
  by_cases z1 : (nx b L a).2.2.1 = 1 ∧ (nx b L a).2.2.2 = 11
  · rw [if_pos z1]
    have i3 : tk = 1 := by have := d3 (by omega); omega
    have i5 : tl = 11 := by have := d5 (Or.inl z1.1); omega
    obtain ⟨h2, v, q2, f2, g1, g2⟩ := r_after (sh := sh) (w := 11) (lo := 0) (hi := 999) hs t1 a0 a1 (by decide) r1 hf1
    have hd : q_L 193 152 [(22, 469), (0, kk)] [(0, t), (0, 6 * kk + 4), (30, 479)] (sh, h) = some ((9, 0), (sh, q_up h2 479 (6 * kk + 5) v)) := by
      rw [e_X12_reads_152]
      simp (disch := omega) only [q_470, q_up_far, q_row_row, q_row_self, q_row_ne, q_up_ne, q_up_eq, q_rowup, ud_eq, ud_ne, q_add_id, q_sub_id, q_mul_id, q_w_eq, q_rem_n, q_div_n, ↓reduceIte, leT, leF, ltT, ltF, eqT, eqF, true_or, or_true, false_or, or_false, true_and, and_true, false_and, and_false, or_self, and_self, Option.bind_some, h16, hs.k479, hf, tk1, tl1, i3, i5]
      rw [e1, q2]
      simp (disch := omega) only [q_470, q_up_far, q_row_row, q_row_self, q_row_ne, q_up_ne, q_up_eq, q_rowup, ud_eq, ud_ne, q_add_id, q_sub_id, q_mul_id, q_w_eq, q_rem_n, q_div_n, ↓reduceIte, leT, leF, ltT, ltF, eqT, eqF, true_or, or_true, false_or, or_false, true_and, and_true, false_and, and_false, or_self, and_self, Option.bind_some, hs.k479, e_X12_reads_209, e_X12_reads_210]
    have fx : FU h (q_up h2 479 (6 * kk + 5) v) kk := (f1.trans (FA_fu f2)).trans (FU.up (by omega) (by omega))
    by_cases z : (pr b L a 11 0 999).1 = 1
    · rw [if_pos z]
      obtain ⟨i1, i2, i4, -, -, i6, i7⟩ := g1 z
      refine ⟨_, hd, fx, fun _ => ⟨by rw [q_up_ne (by omega)]; exact i2, i4.up, fun i i0 i1' => ?_⟩, Or.inl rfl⟩
      by_cases e : i = 5
      · rw [e, q_up_self, i1]; rfl
      · rw [q_up_ne (by omega), f2 479 _ (by omega), rv1 i i0 (by omega)]
        have : i = 0 ∨ i = 1 ∨ i = 2 ∨ i = 3 ∨ i = 4 := by omega
        rcases this with q | q | q | q | q <;> (subst q; rfl)
    · rw [if_neg z]
      rcases g2 with g2 | ⟨g2, -, g3, g4, g5⟩
      · exact (z g2).elim
      · exact RF.rq ⟨_, hd, fx, by rw [q_up_ne (by omega)]; exact g3⟩ g4 g5
  · rw [if_neg z1]
    refine ⟨h1, ?_, f1, fun _ => ⟨hf1, r1, rv1⟩, Or.inl rfl⟩
    have tn : tk = 1 → ¬ tl = 11 := by
      intro e
      by_cases z4 : (nx b L a).2.2.1 = 4
      · rcases d4 z4 with q | ⟨q, q2⟩ <;> omega
      · have e3 := d3 z4
        have e1 : (nx b L a).2.2.1 = 1 := by omega
        have e5 := d5 (Or.inl e1)
        intro e6
        exact z1 ⟨e1, by omega⟩
    rw [e_X12_reads_152]
    by_cases z2 : tk = 1
    · have z3 := tn z2
      simp (disch := omega) only [q_470, q_up_far, q_row_row, q_row_self, q_row_ne, q_up_ne, q_up_eq, q_rowup, ud_eq, ud_ne, q_add_id, q_sub_id, q_mul_id, q_w_eq, q_rem_n, q_div_n, ↓reduceIte, leT, leF, ltT, ltF, eqT, eqF, true_or, or_true, false_or, or_false, true_and, and_true, false_and, and_false, or_self, and_self, Option.bind_some, h16, hs.k479, hf, tk1, tl1, z2, e1, e_X12_reads_210]
    · simp (disch := omega) only [q_470, q_up_far, q_row_row, q_row_self, q_row_ne, q_up_ne, q_up_eq, q_rowup, ud_eq, ud_ne, q_add_id, q_sub_id, q_mul_id, q_w_eq, q_rem_n, q_div_n, ↓reduceIte, leT, leF, ltT, ltF, eqT, eqF, true_or, or_true, false_or, or_false, true_and, and_true, false_and, and_false, or_self, and_self, Option.bind_some, h16, hs.k479, hf, tk1, e1, e_X12_reads_210]
theorem r_rdD {sh : Int × (Int → Nat × Int)} {h : Int → Int → Int} {b : Int → Int} {L a kk k c n f : Int} (hs : Sh sh) (tr : TR h b L) (h16 : h 469 16 = 479) (k0 : 0 ≤ kk) (k1 : kk < 4) (a0 : 0 ≤ a) (a1 : a ≤ L) (ha : RR h b L a) (hf : h 469 15 = -1) (n0 : 0 ≤ n) (n1 : n ≤ 9) (f0 : 0 ≤ f) (f1 : f ≤ 9999) (rv : RV h kk 3 (one6 k c n f 0 1)) : RQ b L sh kk h (q_L 193 109 [(22, 469), (0, kk)] [(0, f), (0, 6 * kk + 3), (30, 479)] (sh, h)) (rdD b L a k c n f) := by
  have fa : FU h (q_up h 479 (6 * kk + 3) f) kk := FU.up (by omega) (by omega)
  have t1 := tr.fu fa
  have rv1 := rv.add (v := f) rfl
  obtain ⟨h2, v, q2, f2, g1, g2⟩ := r_after (sh := sh) (w := 10) (lo := f + n) (hi := 9999) hs t1 a0 a1 (by decide) ha.up (by rw [q_up_ne (by omega)]; exact hf)
  have h162 : h2 469 16 = 479 := by rw [f2 469 16 (by omega), q_up_ne (by omega)]; exact h16
  have rn : h 479 (6 * kk + 2) = n := rv 2 (by decide) (by decide)
  have hd : q_L 193 109 [(22, 469), (0, kk)] [(0, f), (0, 6 * kk + 3), (30, 479)] (sh, h) = q_L 193 152 [(22, 469), (0, kk)] [(0, v), (0, 6 * kk + 4), (30, 479)] (sh, h2) := by
    rw [e_X12_reads_109]
    simp (disch := omega) only [q_470, q_up_far, q_row_row, q_row_self, q_row_ne, q_up_ne, q_up_eq, q_rowup, ud_eq, ud_ne, q_add_id, q_sub_id, q_mul_id, q_w_eq, q_rem_n, q_div_n, ↓reduceIte, leT, leF, ltT, ltF, eqT, eqF, true_or, or_true, false_or, or_false, true_and, and_true, false_and, and_false, or_self, and_self, Option.bind_some, h16, hs.k479, rn, q2]
  have fx := fa.trans (FA_fu (k := kk) f2)
  unfold rdD
  by_cases z : (pr b L a 10 (f + n) 9999).1 = 1
  · rw [if_pos z]
    obtain ⟨i1, i2, i4, -, -, i6, i7⟩ := g1 z
    refine RQ.step ?_ fx hd
    rw [i1]
    refine r_rdE hs (t1.fu (FA_fu (k := kk) f2)) h162 k0 k1 i6 i7 i4 i2 (fun i j0 j1 => ?_)
    rw [f2 479 _ (by omega), rv1 i j0 j1]
    have : i = 0 ∨ i = 1 ∨ i = 2 ∨ i = 3 := by omega
    rcases this with q | q | q | q <;> (subst q; rfl)
  · rw [if_neg z]
    rcases g2 with g2 | ⟨g2, -, g3, g4, g5⟩
    · exact (z g2).elim
    · exact ((r_flE hs h162 k0 k1 g3 g4).step fx hd).rq g4 g5
theorem r_rdC {sh : Int × (Int → Nat × Int)} {h : Int → Int → Int} {b : Int → Int} {L a kk k c n : Int} (hs : Sh sh) (tr : TR h b L) (h16 : h 469 16 = 479) (k0 : 0 ≤ kk) (k1 : kk < 4) (a0 : 0 ≤ a) (a1 : a ≤ L) (ha : RR h b L a) (hf : h 469 15 = -1) (n0 : 0 ≤ n) (n1 : n ≤ 9) (rv : RV h kk 2 (one6 k c n 0 0 1)) : RQ b L sh kk h (q_L 193 88 [(22, 469), (0, kk)] [(0, n), (0, 6 * kk + 2), (30, 479)] (sh, h)) (rdC b L a k c n) := by
  have fa : FU h (q_up h 479 (6 * kk + 2) n) kk := FU.up (by omega) (by omega)
  have t1 := tr.fu fa
  have rv1 := rv.add (v := n) rfl
  obtain ⟨h2, v, q2, f2, g1, g2⟩ := r_after (sh := sh) (w := 9) (lo := 0) (hi := 9999) hs t1 a0 a1 (by decide) ha.up (by rw [q_up_ne (by omega)]; exact hf)
  have h162 : h2 469 16 = 479 := by rw [f2 469 16 (by omega), q_up_ne (by omega)]; exact h16
  have hd : q_L 193 88 [(22, 469), (0, kk)] [(0, n), (0, 6 * kk + 2), (30, 479)] (sh, h) = q_L 193 109 [(22, 469), (0, kk)] [(0, v), (0, 6 * kk + 3), (30, 479)] (sh, h2) := by
    rw [e_X12_reads_88]
    simp (disch := omega) only [q_470, q_up_far, q_row_row, q_row_self, q_row_ne, q_up_ne, q_up_eq, q_rowup, ud_eq, ud_ne, q_add_id, q_sub_id, q_mul_id, q_w_eq, q_rem_n, q_div_n, ↓reduceIte, leT, leF, ltT, ltF, eqT, eqF, true_or, or_true, false_or, or_false, true_and, and_true, false_and, and_false, or_self, and_self, Option.bind_some, h16, hs.k479, q2]
  have fx := fa.trans (FA_fu (k := kk) f2)
  unfold rdC
  by_cases z : (pr b L a 9 0 9999).1 = 1
  · rw [if_pos z]
    obtain ⟨i1, i2, i4, i8, i9, i6, i7⟩ := g1 z
    refine RQ.step ?_ fx hd
    rw [i1]
    rw [i1] at i8 i9
    refine r_rdD hs (t1.fu (FA_fu (k := kk) f2)) h162 k0 k1 i6 i7 i4 i2 n0 n1 i8 i9 (fun i j0 j1 => ?_)
    rw [f2 479 _ (by omega), rv1 i j0 j1]
    have : i = 0 ∨ i = 1 ∨ i = 2 := by omega
    rcases this with q | q | q <;> (subst q; rfl)
  · rw [if_neg z]
    rcases g2 with g2 | ⟨g2, -, g3, g4, g5⟩
    · exact (z g2).elim
    · exact ((r_flD hs h162 k0 k1 g3 g4).step fx hd).rq g4 g5
theorem r_rdB {sh : Int × (Int → Nat × Int)} {h : Int → Int → Int} {b : Int → Int} {L a kk k c : Int} (hs : Sh sh) (tr : TR h b L) (h16 : h 469 16 = 479) (k0 : 0 ≤ kk) (k1 : kk < 4) (a0 : 0 ≤ a) (a1 : a ≤ L) (ha : RR h b L a) (hf : h 469 15 = -1) (rv : RV h kk 1 (one6 k c 0 0 0 1)) : RQ b L sh kk h (q_L 193 68 [(22, 469), (0, kk)] [(0, c), (0, 6 * kk + 1), (30, 479)] (sh, h)) (rdB b L a k c) := by
  have fa : FU h (q_up h 479 (6 * kk + 1) c) kk := FU.up (by omega) (by omega)
  have t1 := tr.fu fa
  have rv1 := rv.add (v := c) rfl
  obtain ⟨h2, v, q2, f2, g1, g2⟩ := r_after (sh := sh) (w := 8) (lo := 1) (hi := 9) hs t1 a0 a1 (by decide) ha.up (by rw [q_up_ne (by omega)]; exact hf)
  have h162 : h2 469 16 = 479 := by rw [f2 469 16 (by omega), q_up_ne (by omega)]; exact h16
  have hd : q_L 193 68 [(22, 469), (0, kk)] [(0, c), (0, 6 * kk + 1), (30, 479)] (sh, h) = q_L 193 88 [(22, 469), (0, kk)] [(0, v), (0, 6 * kk + 2), (30, 479)] (sh, h2) := by
    rw [e_X12_reads_68]
    simp (disch := omega) only [q_470, q_up_far, q_row_row, q_row_self, q_row_ne, q_up_ne, q_up_eq, q_rowup, ud_eq, ud_ne, q_add_id, q_sub_id, q_mul_id, q_w_eq, q_rem_n, q_div_n, ↓reduceIte, leT, leF, ltT, ltF, eqT, eqF, true_or, or_true, false_or, or_false, true_and, and_true, false_and, and_false, or_self, and_self, Option.bind_some, h16, hs.k479, q2]
  have fx := fa.trans (FA_fu (k := kk) f2)
  unfold rdB
  by_cases z : (pr b L a 8 1 9).1 = 1
  · rw [if_pos z]
    obtain ⟨i1, i2, i4, i8, i9, i6, i7⟩ := g1 z
    refine RQ.step ?_ fx hd
    rw [i1]
    rw [i1] at i8 i9
    refine r_rdC hs (t1.fu (FA_fu (k := kk) f2)) h162 k0 k1 i6 i7 i4 i2 (by omega) i9 (fun i j0 j1 => ?_)
    rw [f2 479 _ (by omega), rv1 i j0 j1]
    have : i = 0 ∨ i = 1 := by omega
    rcases this with q | q <;> (subst q; rfl)
  · rw [if_neg z]
    rcases g2 with g2 | ⟨g2, -, g3, g4, g5⟩
    · exact (z g2).elim
    · exact ((r_flC hs h162 k0 k1 g3 g4).step fx hd).rq g4 g5
theorem r_rd1 {sh : Int × (Int → Nat × Int)} {h : Int → Int → Int} {b : Int → Int} {L a kk : Int} {G : Int → Int} (hs : Sh sh) (tr : TR h b L) (h16 : h 469 16 = 479) (hm0 : h 469 0 = 470) (hG : h 470 = G) (wr : WFR G) (k0 : 0 ≤ kk) (k1 : kk < 4) (a0 : 0 ≤ a) (a1 : a ≤ L) (ha : RR h b L a) (hf : h 469 15 = -1) : RQ b L sh kk h (q_Cc 193 [(22, 469), (0, kk)] (sh, h)) (rd1 b L (G 2) a) := by
  have u2 := wr.nc
  have n1 := nx_b (b := b) tr.2.2.2.2.1 a0 a1
  obtain ⟨d1, d2, d3, d4, d5⟩ := id ha
  unfold rd1
  by_cases z0 : (nx b L a).2.2.1 = 1 ∧ (nx b L a).2.2.2 ≤ 6
  · rw [if_pos z0]
    have w0 := nx_w tr.2.2.2.2.1 a0 a1 z0.1
    have i3 := d3 (by omega)
    rw [z0.1] at i3
    have i5 := d5 (Or.inl z0.1)
    obtain ⟨v, ev⟩ : ∃ v, (nx b L a).2.2.2 = v := ⟨_, rfl⟩
    rw [ev] at i5 z0 w0 ⊢
    have v6 := z0.2
    have fa : FU h (q_up h 479 (6 * kk) v) kk := FU.up (by omega) (by omega)
    have t1 := tr.fu fa
    obtain ⟨h1, q1, f1, c1⟩ := r_nx (sh := sh) hs t1 (show 0 ≤ (nx b L a).1 by omega) n1.2.2 (by rw [q_up_ne (by omega)]; exact d1)
    have fb : FU (q_up h 479 (6 * kk) v) h1 kk := fun x y hn => f1 x y (by omega)
    have t2 := t1.fu fb
    have hf1 : h1 469 15 = -1 := by rw [f1 469 15 (by omega), q_up_ne (by omega)]; exact hf
    have h161 : h1 469 16 = 479 := by rw [f1 469 16 (by omega), q_up_ne (by omega)]; exact h16
    have h101 : h1 469 0 = 470 := by rw [f1 469 0 (by omega), q_up_ne (by omega)]; exact hm0
    have hG1 : h1 470 = G := by
      rw [← hG]; funext y
      rw [f1 470 y (by omega), q_up_ne (by omega)]
    obtain ⟨h2, x, q2, f2, g1, g2⟩ := r_after (sh := sh) (w := 7) (lo := 0) (hi := G 2 - 1) hs t2 (show 0 ≤ (nx b L a).1 by omega) n1.2.2 (by decide) c1 hf1
    have h162 : h2 469 16 = 479 := by rw [f2 469 16 (by omega)]; exact h161
    have hd : q_Cc 193 [(22, 469), (0, kk)] (sh, h) = q_L 193 68 [(22, 469), (0, kk)] [(0, x), (0, 6 * kk + 1), (30, 479)] (sh, h2) := by
      simp (disch := omega) only [q_470, q_up_far, q_row_row, q_row_self, q_row_ne, q_up_ne, q_up_eq, q_rowup, ud_eq, ud_ne, q_add_id, q_sub_id, q_mul_id, q_w_eq, q_rem_n, q_div_n, ↓reduceIte, leT, leF, ltT, ltF, eqT, eqF, true_or, or_true, false_or, or_false, true_and, and_true, false_and, and_false, or_self, and_self, Option.bind_some, i3, i5, h16, hs.k479, q1, h161, h101, hG1, hs.k470, q2, k_X12_in, c_X12_reads, e_X12_reads_0, e_X12_reads_18, e_X12_reads_43]
    have fx := (fa.trans fb).trans (FA_fu (k := kk) f2)
    unfold rdA
    by_cases z : (pr b L (nx b L a).1 7 0 (G 2 - 1)).1 = 1
    · rw [if_pos z]
      obtain ⟨j1, j2, j4, j8, j9, j6, j7⟩ := g1 z
      refine RQ.step ?_ fx hd
      rw [j1]
      refine r_rdB hs (t2.fu (FA_fu (k := kk) f2)) h162 k0 k1 j6 j7 j4 j2 (fun i e0 e1 => ?_)
      have e : i = 0 := by omega
      rw [e, f2 479 _ (by omega), f1 479 _ (by omega), Int.add_zero, q_up_self]; rfl
    · rw [if_neg z]
      rcases g2 with g2 | ⟨g2, -, g3, g4, g5⟩
      · exact (z g2).elim
      · exact ((r_flB hs h162 k0 k1 g3 g4).step fx hd).rq g4 g5
  · rw [if_neg z0]
    refine RF.rq (g := (nx b L a).2.1) ⟨q_up h 469 15 (nx b L a).2.1, ?_, fun x y hn => by rw [q_up_ne (by omega)], q_up_self _ _ _ _⟩ (by omega) (by omega)
    obtain ⟨tk, etk⟩ : ∃ tk, h 469 13 = tk := ⟨_, rfl⟩
    obtain ⟨tl, etl⟩ : ∃ tl, h 469 14 = tl := ⟨_, rfl⟩
    have tn : tk = 1 → ¬ (0 ≤ tl ∧ tl ≤ 6) := by
      intro e
      by_cases z4 : (nx b L a).2.2.1 = 4
      · rcases d4 z4 with q | ⟨q, q2⟩ <;> omega
      · have e3 := d3 z4
        have e1 : (nx b L a).2.2.1 = 1 := by omega
        have e5 := d5 (Or.inl e1)
        intro e6
        exact z0 ⟨e1, by omega⟩
    by_cases z2 : tk = 1
    · have z3 := tn z2
      by_cases z4 : 0 ≤ tl <;> simp (disch := omega) only [q_470, q_up_far, q_row_row, q_row_self, q_row_ne, q_up_ne, q_up_eq, q_rowup, ud_eq, ud_ne, q_add_id, q_sub_id, q_mul_id, q_w_eq, q_rem_n, q_div_n, ↓reduceIte, leT, leF, ltT, ltF, eqT, eqF, true_or, or_true, false_or, or_false, true_and, and_true, false_and, and_false, or_self, and_self, Option.bind_some, hf, etk, etl, z2, d2, k_X12_in, c_X12_reads, e_X12_reads_0, e_X12_reads_18, e_X12_reads_21, e_X12_reads_25, c_X12_wrong, e_X12_wrong_0, e_X12_wrong_19]
    · simp (disch := omega) only [q_470, q_up_far, q_row_row, q_row_self, q_row_ne, q_up_ne, q_up_eq, q_rowup, ud_eq, ud_ne, q_add_id, q_sub_id, q_mul_id, q_w_eq, q_rem_n, q_div_n, ↓reduceIte, leT, leF, ltT, ltF, eqT, eqF, true_or, or_true, false_or, or_false, true_and, and_true, false_and, and_false, or_self, and_self, Option.bind_some, hf, etk, d2, c_X12_reads, e_X12_reads_0, e_X12_reads_18, e_X12_reads_21, e_X12_reads_25, c_X12_wrong, e_X12_wrong_0, e_X12_wrong_19]
