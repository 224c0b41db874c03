/-- the class's next piece -/
theorem k_skip {sh : Int × (Int → Nat × Int)} {h : Int → Int → Int} {b : Int → Int} {L a g : Int} (hs : Sh sh) (t : TX h b L) (a0 : 0 ≤ a) (ha : h 452 4 = a) (r : Rn (pSp b L) L a g) : q_L 83 0 [(19, 452)] [] (sh, h) = q_L 83 38 [(19, 452)] [] (sh, q_up h 452 4 g) := by
  obtain ⟨ag, gL, rs, rn⟩ := r
  have e0 : q_up h 452 4 a = h := by
    funext x y
    by_cases e : x = 452 ∧ y = 4
    · rw [e.1, e.2, q_up_self, ha]
    · rw [q_up_ne (by omega)]
  have := lp (fun i (_ : Unit) => q_L 83 0 [(19, 452)] [] (sh, q_up h 452 4 i)) (fun i _ => a ≤ i) (fun z => z = q_L 83 38 [(19, 452)] [] (sh, q_up h 452 4 g)) g ?_ ?_ a () a0 ag (Int.le_refl _)
  · have this : q_L 83 0 [(19, 452)] [] (sh, q_up h 452 4 a) = _ := this
    rw [e0] at this
    exact this
  · intro i _ i0 i1 ai
    obtain ⟨t0, t1, l0, l1, tb⟩ := id t
    have bi := (tb i i0 (by omega)).1
    have b32 := (pSp_i (b := b) (L := L) (k := i) (by omega)).mp (rs i ai i1)
    left
    refine ⟨(), ?_, by omega⟩
    rw [e_X9_next_0]
    simp (disch := omega) only [q_470, q_up_far, q_row_row, q_row_self, q_row_ne, q_up_ne, q_up_eq, q_rowup, ud_eq, ud_ne, q_add_id, q_sub_id, q_mul_id, q_w_eq, q_rem_n, q_div_n, ↓reduceIte, leT, leF, ltT, ltF, eqT, eqF, true_or, or_true, false_or, or_false, true_and, and_true, false_and, and_false, or_self, and_self, Option.bind_some, t0, t1, bi, b32, q_up_up, hs.k453]
  · intro _ _
    obtain ⟨t0, t1, l0, l1, tb⟩ := id t
    show q_L 83 0 [(19, 452)] [] (sh, q_up h 452 4 g) = _
    rw [e_X9_next_0]
    by_cases z : g < L
    · have bi := (tb g (by omega) z).1
      have b32 : ¬ b g = 32 := fun q => by rw [(pSp_i (b := b) z).mpr q] at rn; cases rn
      simp (disch := omega) only [q_470, q_up_far, q_row_row, q_row_self, q_row_ne, q_up_ne, q_up_eq, q_rowup, ud_eq, ud_ne, q_add_id, q_sub_id, q_mul_id, q_w_eq, q_rem_n, q_div_n, ↓reduceIte, leT, leF, ltT, ltF, eqT, eqF, true_or, or_true, false_or, or_false, true_and, and_true, false_and, and_false, or_self, and_self, Option.bind_some, t0, t1, bi, q_up_up, hs.k453]
    · simp (disch := omega) only [q_470, q_up_far, q_row_row, q_row_self, q_row_ne, q_up_ne, q_up_eq, q_rowup, ud_eq, ud_ne, q_add_id, q_sub_id, q_mul_id, q_w_eq, q_rem_n, q_div_n, ↓reduceIte, leT, leF, ltT, ltF, eqT, eqF, true_or, or_true, false_or, or_false, true_and, and_true, false_and, and_false, or_self, and_self, Option.bind_some, t0, t1]
theorem k_nextWord {sh : Int × (Int → Nat × Int)} {h : Int → Int → Int} {b : Int → Int} {L g e V : Int} (hs : Sh sh) (t : TX h b L) (g0 : 0 ≤ g) (h4 : h 452 4 = g) (h5 : h 452 5 = g) (r : Rn (pLt b L) L g e) (w : WD b L g e V) : q_Cc 84 [(19, 452)] (sh, h) = some ((9, 0), (sh, q_up (q_up (q_up h 452 4 e) 452 7 V) 452 6 (if V < 0 then 4 else 1))) := by
  have r' := r
  obtain ⟨ge, eL, rl, rn⟩ := r'
  have e0 : q_up h 452 4 g = h := by
    funext x y
    by_cases e : x = 452 ∧ y = 4
    · rw [e.1, e.2, q_up_self, h4]
    · rw [q_up_ne (by omega)]
  have kl : ∀ i k, 0 ≤ k → k < L → q_Cc 87 [(19, 452), (0, k)] (sh, q_up h 452 4 i) = some ((0, if pLt b L k = true then 1 else 0), (sh, q_up h 452 4 i)) := fun i k k0 k1 => k_isLetter hs (t.fn (FN.up (by decide) (by decide))) k0 k1
  have kw : q_Cc 86 [(19, 452), (0, g), (0, e)] (sh, q_up h 452 4 e) = some ((0, V), (sh, q_up h 452 4 e)) := k_word hs (t.fn (FN.up (by decide) (by decide))) g0 r w
  obtain ⟨t0, t1, l0, l1, tb⟩ := t
  have tail : q_L 84 35 [(19, 452)] [] (sh, q_up h 452 4 e) = some ((9, 0), (sh, q_up (q_up (q_up h 452 4 e) 452 7 V) 452 6 (if V < 0 then 4 else 1))) := by
    by_cases z : V < 0 <;> simp (disch := omega) only [q_470, q_up_far, q_row_row, q_row_self, q_row_ne, q_up_ne, q_up_eq, q_rowup, ud_eq, ud_ne, q_add_id, q_sub_id, q_mul_id, q_w_eq, q_rem_n, q_div_n, ↓reduceIte, leT, leF, ltT, ltF, eqT, eqF, true_or, or_true, false_or, or_false, true_and, and_true, false_and, and_false, or_self, and_self, Option.bind_some, h5, kw, e_X9_nextWord_35, e_X9_nextWord_48, e_X9_nextWord_64]
  rw [← tail, c_X9_nextWord]
  have := lp (fun i (_ : Unit) => q_L 84 0 [(19, 452)] [] (sh, q_up h 452 4 i)) (fun i _ => g ≤ i) (fun z => z = q_L 84 35 [(19, 452)] [] (sh, q_up h 452 4 e)) e ?_ ?_ g () g0 ge (Int.le_refl _)
  · have this : q_L 84 0 [(19, 452)] [] (sh, q_up h 452 4 g) = _ := this
    rw [e0] at this
    exact this
  · intro i _ i0 i1 gi
    have k := kl i i i0 (by omega)
    rw [if_pos (rl i gi i1)] at k
    left
    refine ⟨(), ?_, by omega⟩
    rw [e_X9_nextWord_0]
    simp (disch := omega) only [q_470, q_up_far, q_row_row, q_row_self, q_row_ne, q_up_ne, q_up_eq, q_rowup, ud_eq, ud_ne, q_add_id, q_sub_id, q_mul_id, q_w_eq, q_rem_n, q_div_n, ↓reduceIte, leT, leF, ltT, ltF, eqT, eqF, true_or, or_true, false_or, or_false, true_and, and_true, false_and, and_false, or_self, and_self, Option.bind_some, t1, k, q_up_up, e_X9_nextWord_19]
  · intro _ _
    show q_L 84 0 [(19, 452)] [] (sh, q_up h 452 4 e) = _
    rw [e_X9_nextWord_0]
    by_cases z : e < L
    · have k := kl e e (by omega) z
      rw [rn, if_neg (by decide)] at k
      simp (disch := omega) only [q_470, q_up_far, q_row_row, q_row_self, q_row_ne, q_up_ne, q_up_eq, q_rowup, ud_eq, ud_ne, q_add_id, q_sub_id, q_mul_id, q_w_eq, q_rem_n, q_div_n, ↓reduceIte, leT, leF, ltT, ltF, eqT, eqF, true_or, or_true, false_or, or_false, true_and, and_true, false_and, and_false, or_self, and_self, Option.bind_some, t1, k, e_X9_nextWord_19]
    · simp (disch := omega) only [q_470, q_up_far, q_row_row, q_row_self, q_row_ne, q_up_ne, q_up_eq, q_rowup, ud_eq, ud_ne, q_add_id, q_sub_id, q_mul_id, q_w_eq, q_rem_n, q_div_n, ↓reduceIte, leT, leF, ltT, ltF, eqT, eqF, true_or, or_true, false_or, or_false, true_and, and_true, false_and, and_false, or_self, and_self, Option.bind_some, t1]
theorem k_nextNumber {sh : Int × (Int → Nat × Int)} {h : Int → Int → Int} {b : Int → Int} {L g e : Int} (hs : Sh sh) (t : TX h b L) (g0 : 0 ≤ g) (h4 : h 452 4 = g) (h5 : h 452 5 = g) (r : Rn (pDg b L) L g e) : ∃ v, q_Cc 85 [(19, 452)] (sh, h) = some ((9, 0), (sh, q_up (q_up (q_up h 452 7 v) 452 4 e) 452 6 (if 4 < e - g then 4 else 2))) ∧ (e - g ≤ 4 → v = nmN b g (e - g).toNat) := by
  have r' := r
  obtain ⟨ge, eL, rl, rn⟩ := r'
  have kl : ∀ v i k, 0 ≤ k → k < L → q_Cc 88 [(19, 452), (0, k)] (sh, q_up (q_up h 452 7 v) 452 4 i) = some ((0, if pDg b L k = true then 1 else 0), (sh, q_up (q_up h 452 7 v) 452 4 i)) := fun v i k k0 k1 => k_isDigit hs (t.fn ((FN.up (by decide) (by decide)).trans (FN.up (by decide) (by decide)))) k0 k1
  obtain ⟨t0, t1, l0, l1, tb⟩ := t
  have up2 : ∀ v i w j, q_up (q_up (q_up (q_up h 452 7 v) 452 4 i) 452 7 w) 452 4 j = q_up (q_up h 452 7 w) 452 4 j := by
    intro v i w j
    funext x y
    unfold q_up
    by_cases e1 : x = 452 ∧ y = 4
    · rw [if_pos e1, if_pos e1]
    · rw [if_neg e1, if_neg e1]
      by_cases e2 : x = 452 ∧ y = 7
      · rw [if_pos e2, if_pos e2, if_neg e1]
      · rw [if_neg e2, if_neg e2, if_neg e1, if_neg e2]
  have e0 : q_up (q_up h 452 7 0) 452 4 g = q_up h 452 7 0 := by
    funext x y
    by_cases e : x = 452 ∧ y = 4
    · rw [e.1, e.2, q_up_self, q_up_ne (by omega), h4]
    · rw [q_up_ne (by omega)]
  have := lp (fun i (v : Int) => q_L 85 5 [(19, 452)] [] (sh, q_up (q_up h 452 7 v) 452 4 i)) (fun i v => g ≤ i ∧ 0 ≤ v ∧ v ≤ 99999 ∧ (i - g ≤ 4 → v = nmN b g (i - g).toNat)) (fun z => ∃ v, z = some ((9, 0), (sh, q_up (q_up (q_up h 452 7 v) 452 4 e) 452 6 (if 4 < e - g then 4 else 2))) ∧ (e - g ≤ 4 → v = nmN b g (e - g).toNat)) e ?_ ?_ g 0 g0 ge ⟨Int.le_refl _, by decide, by decide, fun _ => by rw [Int.sub_self]; rfl⟩
  · obtain ⟨v, q1, q2⟩ := this
    refine ⟨v, ?_, q2⟩
    have q1 : q_L 85 5 [(19, 452)] [] (sh, q_up (q_up h 452 7 0) 452 4 g) = _ := q1
    rw [e0] at q1
    rw [c_X9_nextNumber, e_X9_nextNumber_0]
    exact q1
  · intro i v i0 i1 hI
    obtain ⟨gi, v0, v1, hv⟩ := hI
    have k := kl v i i i0 (by omega)
    rw [if_pos (rl i gi i1)] at k
    have bi := (tb i i0 (by omega)).1
    have bd := (pDg_i (b := b) (L := L) (k := i) (by omega)).mp (rl i gi i1)
    left
    refine ⟨if 99999 < v * 10 + b i - 48 then 99999 else v * 10 + b i - 48, ?_, by omega, ?_, ?_, ?_⟩
    · rw [e_X9_nextNumber_5]
      simp (disch := omega) only [q_470, q_up_far, q_row_row, q_row_self, q_row_ne, q_up_ne, q_up_eq, q_rowup, ud_eq, ud_ne, q_add_id, q_sub_id, q_mul_id, q_w_eq, q_rem_n, q_div_n, ↓reduceIte, leT, leF, ltT, ltF, eqT, eqF, true_or, or_true, false_or, or_false, true_and, and_true, false_and, and_false, or_self, and_self, Option.bind_some, t0, t1, k, bi, up2, hs.k453, e_X9_nextNumber_24]
    · split <;> omega
    · split <;> omega
    · intro h4
      have e1 := hv (by omega)
      have nb := nmN_b r (i - g).toNat (by omega) (by omega)
      have ns := nmN_succ (b := b) (g := g) (k := i - g) (by omega)
      have e2 : i - g + 1 = i + 1 - g := by omega
      have e3 : g + (i - g) = i := by omega
      rw [e2, e3] at ns
      rw [ns, ← e1, if_neg (by rw [← e1] at nb; omega)]
      omega
  · intro v hI
    obtain ⟨gi, v0, v1, hv⟩ := hI
    refine ⟨v, ?_, hv⟩
    show q_L 85 5 [(19, 452)] [] (sh, q_up (q_up h 452 7 v) 452 4 e) = _
    have tail : q_L 85 69 [(19, 452)] [] (sh, q_up (q_up h 452 7 v) 452 4 e) = some ((9, 0), (sh, q_up (q_up (q_up h 452 7 v) 452 4 e) 452 6 (if 4 < e - g then 4 else 2))) := by
      by_cases z : 4 < e - g <;> simp (disch := omega) only [q_470, q_up_far, q_row_row, q_row_self, q_row_ne, q_up_ne, q_up_eq, q_rowup, ud_eq, ud_ne, q_add_id, q_sub_id, q_mul_id, q_w_eq, q_rem_n, q_div_n, ↓reduceIte, leT, leF, ltT, ltF, eqT, eqF, true_or, or_true, false_or, or_false, true_and, and_true, false_and, and_false, or_self, and_self, Option.bind_some, h5, e_X9_nextNumber_69, e_X9_nextNumber_88]
    rw [← tail, e_X9_nextNumber_5]
    by_cases z : e < L
    · have k := kl v e e (by omega) z
      rw [rn, if_neg (by decide)] at k
      simp (disch := omega) only [q_470, q_up_far, q_row_row, q_row_self, q_row_ne, q_up_ne, q_up_eq, q_rowup, ud_eq, ud_ne, q_add_id, q_sub_id, q_mul_id, q_w_eq, q_rem_n, q_div_n, ↓reduceIte, leT, leF, ltT, ltF, eqT, eqF, true_or, or_true, false_or, or_false, true_and, and_true, false_and, and_false, or_self, and_self, Option.bind_some, t1, k, e_X9_nextNumber_24]
    · simp (disch := omega) only [q_470, q_up_far, q_row_row, q_row_self, q_row_ne, q_up_ne, q_up_eq, q_rowup, ud_eq, ud_ne, q_add_id, q_sub_id, q_mul_id, q_w_eq, q_rem_n, q_div_n, ↓reduceIte, leT, leF, ltT, ltF, eqT, eqF, true_or, or_true, false_or, or_false, true_and, and_true, false_and, and_false, or_self, and_self, Option.bind_some, t1]
/-- what the class bears of a piece -/
def CK (h : Int → Int → Int) (e g s v : Int) : Prop := h 452 4 = e ∧ h 452 5 = g ∧ h 452 6 = s ∧ ((s = 1 ∨ s = 2) → h 452 7 = v)
theorem k_next {sh : Int × (Int → Nat × Int)} {h : Int → Int → Int} {b : Int → Int} {L a e g s v : Int} (hs : Sh sh) (t : TX h b L) (a0 : 0 ≤ a) (ha : h 452 4 = a) (n : NX b L a e g s v) : ∃ h', q_Cc 83 [(19, 452)] (sh, h) = some ((9, 0), (sh, h')) ∧ FN h h' ∧ CK h' e g s v := by
  obtain ⟨r, cs⟩ := n
  have sk := k_skip hs t a0 ha r
  have ag := r.1
  obtain ⟨m, em⟩ : ∃ m, q_up (q_up h 452 4 g) 452 5 g = m := ⟨_, rfl⟩
  have f1 : FN h m := by rw [← em]; exact (FN.up (by decide) (by decide)).trans (FN.up (by decide) (by decide))
  have tm := t.fn f1
  have m4 : m 452 4 = g := by rw [← em, q_up_ne (by decide), q_up_self]
  have m5 : m 452 5 = g := by rw [← em, q_up_self]
  have m1 : m 452 1 = L := tm.2.1
  have hd : q_Cc 83 [(19, 452)] (sh, h) = if g < L then ((q_Cc 87 [(19, 452), (0, g)] (sh, m)).bind (fun r => q_L 83 73 [(19, 452)] [r.1] r.2)) else (q_L 83 134 [(19, 452)] [] (sh, q_up m 452 6 0)) := by
    rw [c_X9_next, sk, e_X9_next_38]
    have e1 : (q_up h 452 4 g) 452 4 = g := q_up_self _ _ _ _
    rw [e1, em, m4, m1]
  rcases cs with ⟨gL, eL, s0, v0⟩ | ⟨gL, cs⟩
  · refine ⟨q_up m 452 6 0, ?_, f1.trans (FN.up (by decide) (by decide)), ?_⟩
    · rw [hd, if_neg (by omega), e_X9_next_134]
    · refine ⟨?_, ?_, ?_, fun h => by omega⟩
      · rw [q_up_ne (by decide), m4]; omega
      · rw [q_up_ne (by decide), m5]
      · rw [q_up_self, s0]
  · have kl := k_isLetter (sh := sh) hs tm (k := g) (by omega) gL
    rcases cs with ⟨z1, rl, wd, sv⟩ | ⟨z1, z2, rd, nv, sv⟩ | ⟨z1, z2, ee, vv, sv⟩
    · rw [if_pos z1] at kl
      have kw := k_nextWord hs tm (by omega) m4 m5 rl wd
      obtain ⟨h', eh⟩ : ∃ h', q_up (q_up (q_up m 452 4 e) 452 7 v) 452 6 (if v < 0 then 4 else 1) = h' := ⟨_, rfl⟩
      rw [eh] at kw
      refine ⟨h', ?_, ?_, ?_⟩
      · rw [hd, if_pos gL, kl]
        simp (disch := omega) only [q_470, q_up_far, q_row_row, q_row_self, q_row_ne, q_up_ne, q_up_eq, q_rowup, ud_eq, ud_ne, q_add_id, q_sub_id, q_mul_id, q_w_eq, q_rem_n, q_div_n, ↓reduceIte, leT, leF, ltT, ltF, eqT, eqF, true_or, or_true, false_or, or_false, true_and, and_true, false_and, and_false, or_self, and_self, Option.bind_some, kw, e_X9_next_73, e_X9_next_80, e_X9_next_134]
      · rw [← eh]
        exact f1.trans (((FN.up (by decide) (by decide)).trans (FN.up (by decide) (by decide))).trans (FN.up (by decide) (by decide)))
      · rw [← eh]
        refine ⟨?_, ?_, ?_, fun _ => ?_⟩
        · rw [q_up_ne (by decide), q_up_ne (by decide), q_up_self]
        · rw [q_up_ne (by decide), q_up_ne (by decide), q_up_ne (by decide), m5]
        · rw [q_up_self, sv]
        · rw [q_up_ne (by decide), q_up_self]
    · rw [z1, if_neg (by decide)] at kl
      have kd := k_isDigit (sh := sh) hs tm (k := g) (by omega) gL
      rw [if_pos z2] at kd
      obtain ⟨x, kw, hx⟩ := k_nextNumber (sh := sh) hs tm (by omega) m4 m5 rd
      obtain ⟨h', eh⟩ : ∃ h', q_up (q_up (q_up m 452 7 x) 452 4 e) 452 6 (if 4 < e - g then 4 else 2) = h' := ⟨_, rfl⟩
      rw [eh] at kw
      refine ⟨h', ?_, ?_, ?_⟩
      · rw [hd, if_pos gL, kl]
        simp (disch := omega) only [q_470, q_up_far, q_row_row, q_row_self, q_row_ne, q_up_ne, q_up_eq, q_rowup, ud_eq, ud_ne, q_add_id, q_sub_id, q_mul_id, q_w_eq, q_rem_n, q_div_n, ↓reduceIte, leT, leF, ltT, ltF, eqT, eqF, true_or, or_true, false_or, or_false, true_and, and_true, false_and, and_false, or_self, and_self, Option.bind_some, m4, kd, kw, e_X9_next_73, e_X9_next_91, e_X9_next_98, e_X9_next_134]
      · rw [← eh]
        exact f1.trans (((FN.up (by decide) (by decide)).trans (FN.up (by decide) (by decide))).trans (FN.up (by decide) (by decide)))
      · rw [← eh]
        refine ⟨?_, ?_, ?_, fun hh => ?_⟩
        · rw [q_up_ne (by decide), q_up_self]
        · rw [q_up_ne (by decide), q_up_ne (by decide), q_up_ne (by decide), m5]
        · rw [q_up_self, sv]
        · rw [q_up_ne (by decide), q_up_ne (by decide), q_up_self, nv]
          apply hx
          by_cases z : 4 < e - g
          · rw [if_pos z] at sv; omega
          · omega
    · rw [z1, if_neg (by decide)] at kl
      have kd := k_isDigit (sh := sh) hs tm (k := g) (by omega) gL
      rw [z2, if_neg (by decide)] at kd
      have m0 := tm.1
      have bg := (tm.2.2.2.2 g (by omega) gL).1
      have l1 := tm.2.2.2.1
      refine ⟨q_up (q_up m 452 6 s) 452 4 e, ?_, f1.trans ((FN.up (by decide) (by decide)).trans (FN.up (by decide) (by decide))), ?_⟩
      · rw [hd, if_pos gL, kl, sv, ee]
        by_cases z : b g = 59 <;> simp (disch := omega) only [q_470, q_up_far, q_row_row, q_row_self, q_row_ne, q_up_ne, q_up_eq, q_rowup, ud_eq, ud_ne, q_add_id, q_sub_id, q_mul_id, q_w_eq, q_rem_n, q_div_n, ↓reduceIte, leT, leF, ltT, ltF, eqT, eqF, true_or, or_true, false_or, or_false, true_and, and_true, false_and, and_false, or_self, and_self, Option.bind_some, z, m0, m4, kd, bg, hs.k453, e_X9_next_73, e_X9_next_91, e_X9_next_121, e_X9_next_134]
      · refine ⟨q_up_self _ _ _ _, ?_, ?_, fun hh => ?_⟩
        · rw [q_up_ne (by decide), q_up_ne (by decide), m5]
        · rw [q_up_ne (by decide), q_up_self]
        · by_cases z : b g = 59
          · rw [if_pos z] at sv; omega
          · rw [if_neg z] at sv; omega
