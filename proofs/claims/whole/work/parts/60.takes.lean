/-! what a wish takes from others -/
def ipN (A on : Int → Int) : Nat → Int
  | 0 => 0
  | n + 1 => if on n < 0 then ipN A on n else q_or (ipN A on n) (q_shl 1 (A n))
theorem ipN_i32 (A on : Int → Int) : ∀ n : Nat, q_i32 (ipN A on n) := by
  intro n
  induction n with
  | zero => show q_i32 0; unfold q_i32; omega
  | succ n ih =>
    unfold ipN
    split
    · exact ih
    · exact q_or_i32 _ _
theorem ipN_succ {A on : Int → Int} {k : Int} (k0 : 0 ≤ k) : ipN A on (k + 1).toNat = if on k < 0 then ipN A on k.toNat else q_or (ipN A on k.toNat) (q_shl 1 (A k)) := by
  have ei : (k.toNat : Int) = k := Int.toNat_of_nonneg k0
  have es : (k + 1).toNat = k.toNat + 1 := by omega
  rw [es]
  show (if on (k.toNat : Int) < 0 then ipN A on k.toNat else q_or (ipN A on k.toNat) (q_shl 1 (A (k.toNat : Int)))) = _
  rw [ei]
theorem k_inPlan {sh : Int × (Int → Nat × Int)} {h : Int → Int → Int} {m : Int} {A W : Int → Int} {B : Int × Int × (Int → Int) × (Int → Int)} (hs : Sh sh) (hp : Ptr h) (m0 : 0 ≤ m) (m5 : m ≤ 5) (lc : LC h m A W) (bc : BC h m B) : q_Cc 52 [(15, 442)] (sh, h) = some ((0, ipN A B.2.2.1 m.toNat), (sh, h)) := by
  have hm := lc.1
  rw [c_X5_inPlan, e_X5_inPlan_0]
  refine lp (fun k (x : Int) => q_L 52 4 [(15, 442), (0, x), (0, k)] [] (sh, h)) (fun k x => x = ipN A B.2.2.1 k.toNat) (fun r => r = some ((0, ipN A B.2.2.1 m.toNat), (sh, h))) m ?_ ?_ 0 0 (by omega) m0 rfl
  · intro k x k0 k1 hx
    left
    refine ⟨ipN A B.2.2.1 (k + 1).toNat, ?_, rfl⟩
    have e1 := (lc.2 k k0 k1).1
    have e2 := (bc.2.2 k k0 k1).1
    rw [ipN_succ k0, ← hx, e_X5_inPlan_4]
    by_cases z : B.2.2.1 k < 0 <;> simp (disch := omega) only [q_470, q_up_far, q_row_row, q_row_self, q_row_ne, q_up_ne, q_up_eq, q_rowup, ud_eq, ud_ne, q_add_id, q_sub_id, q_mul_id, q_w_eq, q_rem_n, q_div_n, ↓reduceIte, leT, leF, ltT, ltF, eqT, eqF, true_or, or_true, false_or, or_false, true_and, and_true, false_and, and_false, or_self, and_self, Option.bind_some, hm, e1, e2, hp.pl3, hp.pl7, hs.k443, hs.k447, e_X5_inPlan_32]
  · intro x hx
    show q_L 52 4 [(15, 442), (0, x), (0, m)] [] (sh, h) = _
    rw [e_X5_inPlan_4, hx]
    simp (disch := omega) only [q_470, q_up_far, q_row_row, q_row_self, q_row_ne, q_up_ne, q_up_eq, q_rowup, ud_eq, ud_ne, q_add_id, q_sub_id, q_mul_id, q_w_eq, q_rem_n, q_div_n, ↓reduceIte, leT, leF, ltT, ltF, eqT, eqF, true_or, or_true, false_or, or_false, true_and, and_true, false_and, and_false, or_self, and_self, Option.bind_some, hm]
theorem r_inPlan {sh : Int × (Int → Nat × Int)} {h : Int → Int → Int} {m : Int} {G A : Int → Int} {B : Int × Int × (Int → Int) × (Int → Int)} (hs : Sh sh) (m0 : 0 ≤ m) (m5 : m ≤ 5) (pr : PR h G m A) (br : BR h m B) : q_Cc 214 [(22, 469)] (sh, h) = some ((0, ipN A B.2.2.1 m.toNat), (sh, h)) := by
  obtain ⟨hp, -, hm, ha⟩ := pr
  rw [c_X12_inPlan, e_X12_inPlan_0]
  refine lp (fun k (x : Int) => q_L 214 4 [(22, 469), (0, x), (0, k)] [] (sh, h)) (fun k x => x = ipN A B.2.2.1 k.toNat) (fun r => r = some ((0, ipN A B.2.2.1 m.toNat), (sh, h))) m ?_ ?_ 0 0 (by omega) m0 rfl
  · intro k x k0 k1 hx
    left
    refine ⟨ipN A B.2.2.1 (k + 1).toNat, ?_, rfl⟩
    have e1 := ha k k0 k1
    have e2 := (br.2.2 k k0 k1).1
    have x0 : q_i32 x := by rw [hx]; exact ipN_i32 _ _ _
    have xz := q_or_zero x0
    rw [ipN_succ k0, ← hx, e_X12_inPlan_4]
    by_cases z : B.2.2.1 k < 0 <;> simp (disch := omega) only [q_470, q_up_far, q_row_row, q_row_self, q_row_ne, q_up_ne, q_up_eq, q_rowup, ud_eq, ud_ne, q_add_id, q_sub_id, q_mul_id, q_w_eq, q_rem_n, q_div_n, ↓reduceIte, leT, leF, ltT, ltF, eqT, eqF, true_or, or_true, false_or, or_false, true_and, and_true, false_and, and_false, or_self, and_self, Option.bind_some, hm, e1, e2, xz, hp.m19, hp.m22, hs.k481, hs.k484, e_X12_inPlan_34]
  · intro x hx
    show q_L 214 4 [(22, 469), (0, x), (0, m)] [] (sh, h) = _
    rw [e_X12_inPlan_4, hx]
    simp (disch := omega) only [q_470, q_up_far, q_row_row, q_row_self, q_row_ne, q_up_ne, q_up_eq, q_rowup, ud_eq, ud_ne, q_add_id, q_sub_id, q_mul_id, q_w_eq, q_rem_n, q_div_n, ↓reduceIte, leT, leF, ltT, ltF, eqT, eqF, true_or, or_true, false_or, or_false, true_and, and_true, false_and, and_false, or_self, and_self, Option.bind_some, hm]
/-! another worth: what the plan reads of p else stays -/
theorem lkN_congr {G G' : Int → Int} (but : Int) (R : Int → Int) : ∀ n : Nat, (∀ i, 0 ≤ i → i < (n : Int) → G' (480 + i) = G (480 + i)) → lkN G' but R n = lkN G but R n := by
  intro n
  induction n with
  | zero => intro _; rfl
  | succ n ih =>
    intro hg
    unfold lkN
    rw [ih (fun i i0 i1 => hg i i0 (by omega)), hg n (by omega) (by omega)]
theorem enN_congr {G G' : Int → Int} : ∀ n : Nat, (∀ i, 0 ≤ i → i < (n : Int) → G' (480 + i) = G (480 + i) ∧ G' (494 + i) = G (494 + i) ∧ G' (508 + i) = G (508 + i) ∧ G' (424 + i) = G (424 + i)) → ∀ d, enN G' n d = enN G n d := by
  intro n
  induction n with
  | zero => intro _ d; rfl
  | succ n ih =>
    intro hg d
    obtain ⟨g1, g2, g3, g4⟩ := hg n (by omega) (by omega)
    unfold enN
    rw [ih (fun i i0 i1 => hg i i0 (by omega)), g1, g2, g3, g4]
theorem ft_w {G F F' : Int → Int} {x v a d : Int} (wr : WFR G) (x0 : 466 ≤ x) (x1 : x < 480) (a0 : 0 ≤ a) (a1 : a < 14) (d0 : 0 ≤ d) (d1 : d < 6) (hF : F' d = F d) : ft (ud G x v) F' a d = ft G F a d := by
  have r1 := wr.acraft (d := a) a0 a1
  have r2 := wr.place (d := d) d0 d1
  unfold ft ftT ftH firstF sinceF
  rw [hF]
  simp (disch := omega) only [q_470, q_up_far, q_row_row, q_row_self, q_row_ne, q_up_ne, q_up_eq, q_rowup, ud_eq, ud_ne, q_add_id, q_sub_id, q_mul_id, q_w_eq, q_rem_n, q_div_n, ↓reduceIte, leT, leF, ltT, ltF, eqT, eqF, true_or, or_true, false_or, or_false, true_and, and_true, false_and, and_false, or_self, and_self, Option.bind_some, ]
theorem plB_w {G A : Int → Int} {m a v : Int} (wf : WF G) (lk : LK G m A) (a0 : 0 ≤ a) (a1 : a < G 3) (W : Int → Int) (hW : ∀ k, 0 ≤ k → k < m → W k = if A k = a then weightF G a v else wtW G A k) : plB (ud G (466 + a) v) m A (wtW (ud G (466 + a) v) A) = plB G m A W := by
  have wr := wf.1
  have u1 := wr.nd; have u3 := wr.na
  obtain ⟨m0, m5, la, -⟩ := lk
  have e1 : ud G (466 + a) v 1 = G 1 := ud_ne (by omega)
  have e3 : ud G (466 + a) v 3 = G 3 := ud_ne (by omega)
  have nd : ((G 1).toNat : Int) = G 1 := Int.toNat_of_nonneg u1.1
  unfold plB
  rw [e1]
  refine sr_congr (G 1).toNat _ _ _ _ _ _ m ?_ ?_ ?_ m.toNat 0 0 0 _ _ _ _ _ (by omega) (by omega) ?_
  · intro F F' k d k0 k1 d0 d1 hF
    rw [nd] at d1
    have l := la k k0 k1
    show ft (ud G (466 + a) v) F (A k) d = ft G F' (A k) d
    exact ft_w wr (by omega) (by omega) l.1 (by omega) d0 (by omega) hF
  · intro k d k0 k1 d0 d1
    rw [nd] at d1
    have l := la k k0 k1
    show ud G (466 + a) v (424 + A k) + ud G (466 + a) v (64 + d) = G (424 + A k) + G (64 + d)
    rw [ud_ne (by omega), ud_ne (by omega)]
  · intro k k0 k1
    have l := la k k0 k1
    rw [hW k k0 k1]
    have r1 := wr.acraft (d := A k) l.1 (by omega)
    unfold wtW weightF
    by_cases e : A k = a
    · rw [if_pos e, e]
      rw [e] at r1
      simp (disch := omega) only [q_470, q_up_far, q_row_row, q_row_self, q_row_ne, q_up_ne, q_up_eq, q_rowup, ud_eq, ud_ne, q_add_id, q_sub_id, q_mul_id, q_w_eq, q_rem_n, q_div_n, ↓reduceIte, leT, leF, ltT, ltF, eqT, eqF, true_or, or_true, false_or, or_false, true_and, and_true, false_and, and_false, or_self, and_self, Option.bind_some, ]
    · rw [if_neg e]
      simp (disch := omega) only [q_470, q_up_far, q_row_row, q_row_self, q_row_ne, q_up_ne, q_up_eq, q_rowup, ud_eq, ud_ne, q_add_id, q_sub_id, q_mul_id, q_w_eq, q_rem_n, q_div_n, ↓reduceIte, leT, leF, ltT, ltF, eqT, eqF, true_or, or_true, false_or, or_false, true_and, and_true, false_and, and_false, or_self, and_self, Option.bind_some, ]
  · intro d d0 d1
    rw [nd] at d1
    unfold frE FE
    rw [e3, enN_congr (G := G) (G' := ud G (466 + a) v) (G 3).toNat (fun i i0 i1 => ⟨ud_ne (by omega), ud_ne (by omega), ud_ne (by omega), ud_ne (by omega)⟩), ud_ne (by omega), ud_ne (by omega)]
