/-! what holds of a plan -/
def cnN (on : Int → Int) : Nat → Int
  | 0 => 0
  | n + 1 => cnN on n + if on n < 0 then 0 else 1
theorem cnN_succ {on : Int → Int} {k : Int} (k0 : 0 ≤ k) : cnN on (k + 1).toNat = cnN on k.toNat + if on k < 0 then 0 else 1 := by
  have ei : (k.toNat : Int) = k := Int.toNat_of_nonneg k0
  have es : (k + 1).toNat = k.toNat + 1 := by omega
  rw [es]
  show cnN on k.toNat + (if on (k.toNat : Int) < 0 then 0 else 1) = _
  rw [ei]
theorem cnN_ud (on : Int → Int) (k v : Int) : ∀ n : Nat, (n : Int) ≤ k → cnN (ud on k v) n = cnN on n := by
  intro n
  induction n with
  | zero => intro _; rfl
  | succ n ih =>
    intro hn
    show cnN (ud on k v) n + (if ud on k v n < 0 then 0 else 1) = cnN on n + (if on n < 0 then 0 else 1)
    rw [ih (by omega), ud_ne (by omega)]
def gdI (G A on fr : Int → Int) (i : Int) : Prop := (on i = -1 ∧ fr i = -1) ∨ (0 ≤ on i ∧ on i < G 1 ∧ frE G (on i) ≤ fr i ∧ fr i + G (424 + A i) ≤ G (452 + A i))
def gdP (G A on fr : Int → Int) (m : Int) : Prop := ∀ i j, 0 ≤ i → i < j → j < m → 0 ≤ on i → on i = on j → fr i + G (424 + A i) ≤ fr j
/-- a row that can stand -/
def gd (G A : Int → Int) (m : Int) (B : Int × Int × (Int → Int) × (Int → Int)) : Prop := (∀ i, 0 ≤ i → i < m → gdI G A B.2.2.1 B.2.2.2 i) ∧ gdP G A B.2.2.1 B.2.2.2 m ∧ B.2.1 = cnN B.2.2.1 m.toNat
theorem frE_b {G : Int → Int} (wf : WF G) {d : Int} (d0 : 0 ≤ d) (d1 : d < 6) : G 0 ≤ frE G d ∧ frE G d ≤ 20003 := by
  have u3 := wf.1.na
  exact FE_b wf d0 d1 (enN_b wf (G 3).toNat (by omega) d).2
theorem plB_ok {G A W : Int → Int} {m : Int} (wf : WF G) (lk : LK G m A) : gd G A m (plB G m A W) := by
  have wr := wf.1
  have u0 := wr.hour; have u1 := wr.nd; have u3 := wr.na
  obtain ⟨m0, m5, la, -⟩ := lk
  have nd : ((G 1).toNat : Int) = G 1 := Int.toNat_of_nonneg u1.1
  have key := sr_ind (G 1).toNat (ftP G A) (ntP G A) W m (fun k w u F on fr => (∀ d, 0 ≤ d → d < G 1 → frE G d ≤ F d) ∧ (∀ i, 0 ≤ i → i < k → gdI G A on fr i ∧ (0 ≤ on i → fr i + G (424 + A i) ≤ F (on i))) ∧ gdP G A on fr k ∧ u = cnN on k.toNat) (fun B => B.1 = -1 ∨ gd G A m B) ?_ ?_ ?_ m.toNat 0 0 0 (frE G) (fun _ => 0) (fun _ => 0) (-1, 0, fun _ => 0, fun _ => 0) (by omega) (by omega) ⟨fun d _ _ => Int.le_refl _, fun i a b => by omega, fun i j a b c => by omega, rfl⟩ (Or.inl rfl)
  · have p0 := plB_0 G m A W
    rcases key with key | key
    · have key : (plB G m A W).1 = -1 := key
      omega
    · exact key
  · intro w u F on fr q
    obtain ⟨-, q2, q3, q4⟩ := q
    exact Or.inr ⟨fun i i0 i1 => (q2 i i0 i1).1, q3, q4⟩
  · intro k w u F on fr d k0 k1 d0 d1 q hf
    obtain ⟨q1, q2, q3, q4⟩ := q
    rw [nd] at d1
    have hf : 0 ≤ ft G F (A k) d := hf
    have a := la k k0 k1
    have fb := frE_b wf d0 (by omega)
    have hF := q1 d d0 d1
    have b := ft_b (G := G) (F := F) (a := A k) (d := d) wr (by omega)
    have t := wr.turn (d := d) d0 (by omega)
    have n := wr.an (d := A k) (by omega) (by omega)
    obtain ⟨s, es⟩ : ∃ s, ftP G A F k d = s := ⟨_, rfl⟩
    have es2 : ft G F (A k) d = s := es
    rw [es2] at hf b
    rw [es]
    have et : s + ntP G A k d = s + (G (424 + A k) + G (64 + d)) := rfl
    rw [et]
    refine ⟨?_, ?_, ?_, ?_⟩
    · intro x x0 x1
      by_cases e : x = d
      · rw [e, ud_self]; omega
      · rw [ud_ne e]; exact q1 x x0 x1
    · intro i i0 i1
      by_cases e : i = k
      · subst e
        unfold gdI
        rw [ud_self, ud_self, ud_self]
        exact ⟨Or.inr ⟨d0, d1, by omega, by omega⟩, fun _ => by omega⟩
      · have z := q2 i i0 (by omega)
        unfold gdI at z ⊢
        rw [ud_ne e, ud_ne e]
        refine ⟨z.1, fun o0 => ?_⟩
        have zz := z.2 o0
        by_cases eo : on i = d
        · rw [ud_eq eo]
          rw [eo] at zz
          omega
        · rw [ud_ne eo]; exact zz
    · intro i j i0 i1 i2 o0 oe
      rw [ud_ne (by omega)] at o0 oe
      rw [ud_ne (by omega)]
      by_cases e : j = k
      · subst e
        rw [ud_self] at oe ⊢
        have zz := (q2 i i0 (by omega)).2 o0
        rw [oe] at zz
        omega
      · rw [ud_ne e] at oe ⊢
        exact q3 i j i0 i1 (by omega) o0 oe
    · rw [cnN_succ k0, ud_self, if_neg (by omega), cnN_ud on k d k.toNat (by omega), q4]
  · intro k w u F on fr k0 k1 q
    obtain ⟨q1, q2, q3, q4⟩ := q
    refine ⟨q1, ?_, ?_, ?_⟩
    · intro i i0 i1
      by_cases e : i = k
      · subst e
        unfold gdI
        rw [ud_self, ud_self]
        exact ⟨Or.inl ⟨rfl, rfl⟩, fun h => by omega⟩
      · have z := q2 i i0 (by omega)
        unfold gdI at z ⊢
        rw [ud_ne e, ud_ne e]
        exact z
    · intro i j i0 i1 i2 o0 oe
      rw [ud_ne (by omega)] at o0 oe
      by_cases e : j = k
      · subst e
        rw [ud_self] at oe
        omega
      · rw [ud_ne e] at oe
        rw [ud_ne (by omega), ud_ne e]
        exact q3 i j i0 i1 (by omega) o0 oe
    · rw [cnN_succ k0, ud_self, if_pos (by decide), cnN_ud on k (-1) k.toNat (by omega), q4, Int.add_zero]
/-! the place of an asking among those looked at -/
def PO (m : Int) (A : Int → Int) (a i : Int) : Prop := (0 ≤ i ∧ i < m ∧ A i = a ∧ ∀ x, 0 ≤ x → x < m → A x = a → x = i) ∨ (i = -1 ∧ ∀ x, 0 ≤ x → x < m → A x ≠ a)
theorem PO_ex {G A : Int → Int} {m : Int} (lk : LK G m A) (a : Int) : ∃ i, PO m A a i := by
  by_cases z : ∃ i, 0 ≤ i ∧ i < m ∧ A i = a
  · obtain ⟨i, i0, i1, e⟩ := z
    refine ⟨i, Or.inl ⟨i0, i1, e, fun x x0 x1 ex => ?_⟩⟩
    rcases Int.lt_trichotomy x i with q | q | q
    · have := lk.2.2.2 x i x0 q i1; omega
    · exact q
    · have := lk.2.2.2 i x i0 q x1; omega
  · exact ⟨-1, Or.inr ⟨rfl, fun x x0 x1 e => z ⟨x, x0, x1, e⟩⟩⟩
theorem k_placeOf {sh : Int × (Int → Nat × Int)} {h : Int → Int → Int} {m a i : Int} {A W : Int → Int} (hs : Sh sh) (hp : Ptr h) (m0 : 0 ≤ m) (m5 : m ≤ 5) (lc : LC h m A W) (po : PO m A a i) : q_Cc 54 [(15, 442), (0, a)] (sh, h) = some ((0, i), (sh, h)) := by
  rw [c_X5_placeOf, e_X5_placeOf_0]
  have hm := lc.1
  refine lp (fun k (_ : Unit) => q_L 54 2 [(15, 442), (0, a), (0, k)] [] (sh, h)) (fun k _ => ∀ x, 0 ≤ x → x < k → A x ≠ a) (fun r => r = some ((0, i), (sh, h))) m ?_ ?_ 0 () (by omega) m0 (fun x a b => by omega)
  · intro k _ k0 k1 hI
    have e1 := (lc.2 k k0 k1).1
    by_cases z : A k = a
    · right
      have ei : i = k := by
        rcases po with ⟨-, -, -, u⟩ | ⟨-, u⟩
        · exact (u k k0 k1 z).symm
        · exact (u k k0 k1 z).elim
      rw [ei]
      show q_L 54 2 [(15, 442), (0, a), (0, k)] [] (sh, h) = _
      rw [e_X5_placeOf_2]
      simp (disch := omega) only [q_470, q_up_far, q_row_row, q_row_self, q_row_ne, q_up_ne, q_up_eq, q_rowup, ud_eq, ud_ne, q_add_id, q_sub_id, q_mul_id, q_w_eq, q_rem_n, q_div_n, ↓reduceIte, leT, leF, ltT, ltF, eqT, eqF, true_or, or_true, false_or, or_false, true_and, and_true, false_and, and_false, or_self, and_self, Option.bind_some, hm, e1, z, hp.pl3, hs.k443]
    · left
      refine ⟨(), ?_, ?_⟩
      · rw [e_X5_placeOf_2]
        simp (disch := omega) only [q_470, q_up_far, q_row_row, q_row_self, q_row_ne, q_up_ne, q_up_eq, q_rowup, ud_eq, ud_ne, q_add_id, q_sub_id, q_mul_id, q_w_eq, q_rem_n, q_div_n, ↓reduceIte, leT, leF, ltT, ltF, eqT, eqF, true_or, or_true, false_or, or_false, true_and, and_true, false_and, and_false, or_self, and_self, Option.bind_some, hm, e1, hp.pl3, hs.k443]
      · intro x x0 x1
        by_cases e : x = k
        · rw [e]; exact z
        · exact hI x x0 (by omega)
  · intro _ hI
    have ei : i = -1 := by
      rcases po with ⟨i0, i1, e, -⟩ | ⟨e, -⟩
      · exact (hI i i0 i1 e).elim
      · exact e
    rw [ei]
    show q_L 54 2 [(15, 442), (0, a), (0, m)] [] (sh, h) = _
    rw [e_X5_placeOf_2]
    simp (disch := omega) only [q_470, q_up_far, q_row_row, q_row_self, q_row_ne, q_up_ne, q_up_eq, q_rowup, ud_eq, ud_ne, q_add_id, q_sub_id, q_mul_id, q_w_eq, q_rem_n, q_div_n, ↓reduceIte, leT, leF, ltT, ltF, eqT, eqF, true_or, or_true, false_or, or_false, true_and, and_true, false_and, and_false, or_self, and_self, Option.bind_some, hm]
theorem r_placeOf {sh : Int × (Int → Nat × Int)} {h : Int → Int → Int} {m a i : Int} {G A : Int → Int} (hs : Sh sh) (m0 : 0 ≤ m) (m5 : m ≤ 5) (pr : PR h G m A) (po : PO m A a i) : q_Cc 209 [(22, 469), (0, a)] (sh, h) = some ((0, i), (sh, h)) := by
  rw [c_X12_placeOf, e_X12_placeOf_0]
  obtain ⟨hp, -, hm, ha⟩ := pr
  refine lp (fun k (v : Int) => q_L 209 4 [(22, 469), (0, a), (0, v), (0, k)] [] (sh, h)) (fun k v => v = if i < k then i else -1) (fun r => r = some ((0, i), (sh, h))) m ?_ ?_ 0 (-1) (by omega) m0 ?_
  · intro k v k0 k1 hI
    have e1 := ha k k0 k1
    left
    by_cases z : A k = a
    · have ei : i = k := by
        rcases po with ⟨-, -, -, u⟩ | ⟨-, u⟩
        · exact (u k k0 k1 z).symm
        · exact (u k k0 k1 z).elim
      refine ⟨k, ?_, ?_⟩
      · rw [e_X12_placeOf_4]
        simp (disch := omega) only [q_470, q_up_far, q_row_row, q_row_self, q_row_ne, q_up_ne, q_up_eq, q_rowup, ud_eq, ud_ne, q_add_id, q_sub_id, q_mul_id, q_w_eq, q_rem_n, q_div_n, ↓reduceIte, leT, leF, ltT, ltF, eqT, eqF, true_or, or_true, false_or, or_false, true_and, and_true, false_and, and_false, or_self, and_self, Option.bind_some, hm, e1, z, hp.m19, hs.k481, e_X12_placeOf_27]
      · rw [if_pos (by omega), ei]
    · have ei : i ≠ k := by
        rcases po with ⟨-, -, e, -⟩ | ⟨e, -⟩
        · intro e2; rw [e2] at e; exact z e
        · omega
      refine ⟨v, ?_, ?_⟩
      · rw [e_X12_placeOf_4]
        simp (disch := omega) only [q_470, q_up_far, q_row_row, q_row_self, q_row_ne, q_up_ne, q_up_eq, q_rowup, ud_eq, ud_ne, q_add_id, q_sub_id, q_mul_id, q_w_eq, q_rem_n, q_div_n, ↓reduceIte, leT, leF, ltT, ltF, eqT, eqF, true_or, or_true, false_or, or_false, true_and, and_true, false_and, and_false, or_self, and_self, Option.bind_some, hm, e1, hp.m19, hs.k481, e_X12_placeOf_27]
      · rw [hI]
        by_cases c : i < k
        · rw [if_pos c, if_pos (by omega)]
        · rw [if_neg c, if_neg (by omega)]
  · intro v hI
    have ev : v = i := by
      rw [hI]
      rcases po with ⟨i0, i1, -⟩ | ⟨e, -⟩
      · rw [if_pos i1]
      · rw [e]; split <;> rfl
    rw [ev]
    show q_L 209 4 [(22, 469), (0, a), (0, i), (0, m)] [] (sh, h) = _
    rw [e_X12_placeOf_4]
    simp (disch := omega) only [q_470, q_up_far, q_row_row, q_row_self, q_row_ne, q_up_ne, q_up_eq, q_rowup, ud_eq, ud_ne, q_add_id, q_sub_id, q_mul_id, q_w_eq, q_rem_n, q_div_n, ↓reduceIte, leT, leF, ltT, ltF, eqT, eqF, true_or, or_true, false_or, or_false, true_and, and_true, false_and, and_false, or_self, and_self, Option.bind_some, hm]
  · rcases po with ⟨i0, i1, -⟩ | ⟨e, -⟩
    · rw [if_neg (by omega)]
    · rw [if_pos (by omega), e]
