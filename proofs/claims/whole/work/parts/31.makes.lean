/-- the block sent longest ago, among the first n -/
def oF (S : Int → Int) : Nat → Int
  | 0 => -1
  | n + 1 => if 0 ≤ S n ∧ (oF S n < 0 ∨ S n < S (oF S n)) then n else oF S n
theorem oF_b (S : Int → Int) : ∀ n : Nat, (oF S n = -1 ∧ ∀ i : Int, 0 ≤ i → i < n → S i < 0) ∨ (0 ≤ oF S n ∧ oF S n < n ∧ 0 ≤ S (oF S n)) := by
  intro n
  induction n with
  | zero => left; exact ⟨rfl, fun i h0 h1 => by omega⟩
  | succ n ih =>
    unfold oF
    split
    · right
      rename_i e
      exact ⟨by omega, by omega, e.1⟩
    · rename_i e
      rcases ih with ⟨h1, h2⟩ | ⟨h1, h2, h3⟩
      · left
        refine ⟨h1, ?_⟩
        intro i i0 i1
        by_cases ei : i = n
        · subst ei
          rcases Int.lt_or_le (S n) 0 with z | z
          · exact z
          · exact (e ⟨z, Or.inl (by omega)⟩).elim
        · exact h2 i i0 (by omega)
      · right
        exact ⟨h1, by omega, h3⟩
theorem oF_succ {S : Int → Int} {i : Int} (i0 : 0 ≤ i) : oF S (i + 1).toNat = if 0 ≤ S i ∧ (oF S i.toNat < 0 ∨ S i < S (oF S i.toNat)) then i else oF S i.toNat := by
  have ei : (i.toNat : Int) = i := Int.toNat_of_nonneg i0
  have es : (i + 1).toNat = i.toNat + 1 := by omega
  rw [es]
  show (if 0 ≤ S (i.toNat : Int) ∧ (oF S i.toNat < 0 ∨ S (i.toNat : Int) < S (oF S i.toNat)) then (i.toNat : Int) else oF S i.toNat) = _
  rw [ei]
theorem oF_congr {S T : Int → Int} : ∀ n : Nat, (∀ i : Int, 0 ≤ i → i < n → S i = T i) → oF S n = oF T n := by
  intro n
  induction n with
  | zero => intro _; rfl
  | succ n ih =>
    intro hst
    have e := ih (fun i a b => hst i a (by omega))
    have b := oF_b T n
    unfold oF
    rw [e, hst n (by omega) (by omega)]
    rcases b with ⟨b1, _⟩ | ⟨b1, b2, _⟩
    · by_cases z : 0 ≤ T n
      · rw [if_pos ⟨z, Or.inl (by omega)⟩, if_pos ⟨z, Or.inl (by omega)⟩]
      · rw [if_neg (fun h => z h.1), if_neg (fun h => z h.1)]
    · rw [hst _ b1 (by omega)]
theorem k_longest {sh : Int × (Int → Nat × Int)} {h : Int → Int → Int} {b n : Int} (b0 : 0 ≤ b) (p7 : h b 7 = b + 2) (l7 : (sh.2 (b + 2)).2 = 12) (en : h b 1 = n) (n0 : 0 ≤ n) (n1 : n ≤ 12) : q_Cc 14 [(11, b)] (sh, h) = some ((0, oF (h (b + 2)) n.toNat), (sh, h)) := by
  rw [c_X1_longestSent, e_X1_longestSent_0]
  refine lp (fun i (y : Int) => q_L 14 4 [(11, b), (0, y), (0, i)] [] (sh, h)) (fun i y => y = oF (h (b + 2)) i.toNat) (fun r => r = some ((0, oF (h (b + 2)) n.toNat), (sh, h))) n ?_ ?_ 0 (-1) (by omega) (by omega) rfl
  · intro i y i0 i1 hy
    subst hy
    have bb := oF_b (h (b + 2)) i.toNat
    refine Or.inl ⟨oF (h (b + 2)) (i + 1).toNat, ?_, rfl⟩
    rw [oF_succ i0, e_X1_longestSent_4]
    by_cases c1 : h (b + 2) i < 0
    · simp (disch := omega) only [q_470, q_up_far, q_row_row, q_row_self, q_row_ne, q_up_ne, q_up_eq, q_rowup, ud_eq, ud_ne, q_add_id, q_sub_id, q_mul_id, q_w_eq, q_rem_n, q_div_n, ↓reduceIte, leT, leF, ltT, ltF, eqT, eqF, true_or, or_true, false_or, or_false, true_and, and_true, false_and, and_false, or_self, and_self, Option.bind_some, p7, l7, en, e_X1_longestSent_40, e_X1_longestSent_42]
    · by_cases c2 : oF (h (b + 2)) i.toNat < 0
      · simp (disch := omega) only [q_470, q_up_far, q_row_row, q_row_self, q_row_ne, q_up_ne, q_up_eq, q_rowup, ud_eq, ud_ne, q_add_id, q_sub_id, q_mul_id, q_w_eq, q_rem_n, q_div_n, ↓reduceIte, leT, leF, ltT, ltF, eqT, eqF, true_or, or_true, false_or, or_false, true_and, and_true, false_and, and_false, or_self, and_self, Option.bind_some, p7, l7, en, e_X1_longestSent_40, e_X1_longestSent_42]
      · by_cases c3 : h (b + 2) i < h (b + 2) (oF (h (b + 2)) i.toNat) <;> simp (disch := omega) only [q_470, q_up_far, q_row_row, q_row_self, q_row_ne, q_up_ne, q_up_eq, q_rowup, ud_eq, ud_ne, q_add_id, q_sub_id, q_mul_id, q_w_eq, q_rem_n, q_div_n, ↓reduceIte, leT, leF, ltT, ltF, eqT, eqF, true_or, or_true, false_or, or_false, true_and, and_true, false_and, and_false, or_self, and_self, Option.bind_some, p7, l7, en, e_X1_longestSent_40, e_X1_longestSent_42]
  · intro y hy
    subst hy
    show q_L 14 4 _ _ _ = _
    rw [e_X1_longestSent_4]
    simp (disch := omega) only [q_470, q_up_far, q_row_row, q_row_self, q_row_ne, q_up_ne, q_up_eq, q_rowup, ud_eq, ud_ne, q_add_id, q_sub_id, q_mul_id, q_w_eq, q_rem_n, q_div_n, ↓reduceIte, leT, leF, ltT, ltF, eqT, eqF, true_or, or_true, false_or, or_false, true_and, and_true, false_and, and_false, or_self, and_self, Option.bind_some, en]
def oldG (G : Int → Int) (c : Int) : Int := oF (fun k => G (300 + 12 * c + k)) (G (108 + c)).toNat
theorem k_longest2 {sh : Int × (Int → Nat × Int)} {h : Int → Int → Int} {w c : Int} {G : Int → Int} (hs : Sh sh) (hp : Ptr h) (iw : isW w) (hr : RelW h w G) (wr : WFR G) (c0 : 0 ≤ c) (c1 : c < G 2) : q_Cc 14 [(11, w + 13 + 15 * c + 3)] (sh, h) = some ((0, oldG G c), (sh, h)) := by
  have u2 := wr.nc
  have w0 := iw.b
  have r1 := wr.blocks (d := c) (by omega) (by omega)
  have e5 : w + 13 + 15 * c + 3 + 2 = w + 13 + 15 * c + 5 := by omega
  rw [k_longest (n := G (108 + c)) (by omega) (by rw [hp.bsent iw c (by omega) (by omega)]; omega) (by rw [e5]; exact hs.c5 iw c (by omega) (by omega)) (hr.blocks wr c c0 c1) r1.1 r1.2]
  unfold oldG
  rw [e5, oF_congr (T := fun k => G (300 + 12 * c + k)) _ (fun k k0 k1 => hr.bsent wr c k c0 c1 k0 (by omega))]
theorem r_oldL {sh : Int × (Int → Nat × Int)} {h : Int → Int → Int} {c : Int} {G : Int → Int} (e0 : h 469 0 = 470) (l : (sh.2 470).2 = 1354) (hG : h 470 = G) (wr : WFR G) (c0 : 0 ≤ c) (c1 : c < 8) (Q : q_R → Prop) (hQ : ∀ x4, Q (q_L 225 25 [(22, 469), (0, c), (0, oldG G c), (0, G (108 + c)), x4] [] (sh, h))) : Q (q_L 225 25 [(22, 469), (0, c), (0, -1), (0, 0), (9, 0)] [] (sh, h)) := by
  have r1 := wr.blocks (d := c) (by omega) (by omega)
  refine lp (fun i (y : Int × q_V) => q_L 225 25 [(22, 469), (0, c), (0, y.1), (0, i), y.2] [] (sh, h)) (fun i y => y.1 = oF (fun k => G (300 + 12 * c + k)) i.toNat) Q (G (108 + c)) ?_ ?_ 0 (-1, (9, 0)) (by omega) (by omega) rfl
  · intro i y i0 i1 hy
    obtain ⟨y1, y2⟩ := y
    have hy : y1 = oF (fun k => G (300 + 12 * c + k)) i.toNat := hy
    have bb := oF_b (fun k => G (300 + 12 * c + k)) i.toNat
    have sc := oF_succ (S := fun k => G (300 + 12 * c + k)) i0
    rw [← hy] at bb sc
    refine Or.inl ⟨(oF (fun k => G (300 + 12 * c + k)) (i + 1).toNat, (0, 300 + 12 * c)), ?_, rfl⟩
    show q_L 225 25 [(22, 469), (0, c), (0, y1), (0, i), y2] [] (sh, h) = q_L 225 25 [(22, 469), (0, c), (0, oF (fun k => G (300 + 12 * c + k)) (i + 1).toNat), (0, i + 1), (0, 300 + 12 * c)] [] (sh, h)
    rw [sc, e_X12_makes_25]
    by_cases z1 : G (300 + 12 * c + i) < 0
    · simp (disch := omega) only [q_470, q_up_far, q_row_row, q_row_self, q_row_ne, q_up_ne, q_up_eq, q_rowup, ud_eq, ud_ne, q_add_id, q_sub_id, q_mul_id, q_w_eq, q_rem_n, q_div_n, ↓reduceIte, leT, leF, ltT, ltF, eqT, eqF, true_or, or_true, false_or, or_false, true_and, and_true, false_and, and_false, or_self, and_self, Option.bind_some, e0, l, hG, e_X12_makes_85, e_X12_makes_89, e_X12_makes_90]
    · by_cases z2 : y1 < 0
      · simp (disch := omega) only [q_470, q_up_far, q_row_row, q_row_self, q_row_ne, q_up_ne, q_up_eq, q_rowup, ud_eq, ud_ne, q_add_id, q_sub_id, q_mul_id, q_w_eq, q_rem_n, q_div_n, ↓reduceIte, leT, leF, ltT, ltF, eqT, eqF, true_or, or_true, false_or, or_false, true_and, and_true, false_and, and_false, or_self, and_self, Option.bind_some, e0, l, hG, e_X12_makes_85, e_X12_makes_89, e_X12_makes_90]
      · by_cases z3 : G (300 + 12 * c + i) < G (300 + 12 * c + y1) <;> simp (disch := omega) only [q_470, q_up_far, q_row_row, q_row_self, q_row_ne, q_up_ne, q_up_eq, q_rowup, ud_eq, ud_ne, q_add_id, q_sub_id, q_mul_id, q_w_eq, q_rem_n, q_div_n, ↓reduceIte, leT, leF, ltT, ltF, eqT, eqF, true_or, or_true, false_or, or_false, true_and, and_true, false_and, and_false, or_self, and_self, Option.bind_some, e0, l, hG, e_X12_makes_85, e_X12_makes_89, e_X12_makes_90]
  · intro y hy
    obtain ⟨y1, y2⟩ := y
    have hy : y1 = oldG G c := hy
    rw [hy]
    exact hQ y2
/-- room is made in craft c -/
def roomG (G : Int → Int) (c : Int) : Int → Int := if oldG G c < 0 then takeG (ud G (140 + c) (q_add (G (140 + c)) 1)) c 0 else takeG (ud G (132 + c) (q_add (G (132 + c)) 1)) c (oldG G c)
/-- a block is put behind the others -/
def putG (G : Int → Int) (c : Int) : Int → Int := ud (ud (ud (ud G (204 + 12 * c + G (108 + c)) (G (116 + c))) (300 + 12 * c + G (108 + c)) (-1)) (108 + c) (G (108 + c) + 1)) (116 + c) (q_add (G (116 + c)) 1)
/-- a block is made in craft c -/
def makeG (G : Int → Int) (c : Int) : Int → Int := if G (108 + c) = G (92 + c) then putG (roomG G c) c else putG G c
theorem oldG_b {G : Int → Int} (wr : WFR G) {c : Int} (c0 : 0 ≤ c) (c1 : c < 8) : (oldG G c = -1 ∧ ∀ i : Int, 0 ≤ i → i < G (108 + c) → G (300 + 12 * c + i) < 0) ∨ (0 ≤ oldG G c ∧ oldG G c < G (108 + c) ∧ 0 ≤ G (300 + 12 * c + oldG G c)) := by
  have r1 := wr.blocks (d := c) (by omega) (by omega)
  have := oF_b (fun k => G (300 + 12 * c + k)) (G (108 + c)).toNat
  rw [Int.toNat_of_nonneg r1.1] at this
  exact this
theorem WFR.room2 {G : Int → Int} (wr : WFR G) {c : Int} (c0 : 0 ≤ c) (c1 : c < 8) (n0 : 0 < G (108 + c)) : WFR (roomG G c) := by
  unfold roomG
  split
  · exact (wr.free (by omega)).take c0 c1 (by omega) (by rw [ud_ne (by omega)]; omega)
  · have := oldG_b wr c0 c1
    exact (wr.free (by omega)).take c0 c1 (by omega) (by rw [ud_ne (by omega)]; omega)
theorem roomG_n {G : Int → Int} {c : Int} (c0 : 0 ≤ c) (c1 : c < 8) : roomG G c (108 + c) = G (108 + c) - 1 := by
  unfold roomG
  split
  · rw [takeG_n, ud_ne (by omega)]
  · rw [takeG_n, ud_ne (by omega)]
theorem roomG_f {G : Int → Int} {c y : Int} (wr : WFR G) (c0 : 0 ≤ c) (c1 : c < 8) (h1 : y ≠ 108 + c) (h2 : y ≠ 132 + c) (h3 : y ≠ 140 + c) (h4 : y < 204 + 12 * c ∨ 216 + 12 * c ≤ y) (h5 : y < 300 + 12 * c ∨ 312 + 12 * c ≤ y) : roomG G c y = G y := by
  have r1 := wr.blocks (d := c) (by omega) (by omega)
  unfold roomG
  split
  · rw [takeG_out h1 (by rw [ud_ne (by omega)]; omega), ud_ne h3]
  · have := oldG_b wr c0 c1
    rw [takeG_out h1 (by rw [ud_ne (by omega)]; omega), ud_ne h2]
theorem k_makeRoom {sh : Int × (Int → Nat × Int)} {h : Int → Int → Int} {w c : Int} {G : Int → Int} (hs : Sh sh) (hp : Ptr h) (iw : isW w) (hr : RelW h w G) (wr : WFR G) (c0 : 0 ≤ c) (c1 : c < G 2) (n0 : 0 < G (108 + c)) : ∃ h', q_Cc 13 [(11, w + 13 + 15 * c + 3)] (sh, h) = some ((9, 0), (sh, h')) ∧ RelW h' w (roomG G c) ∧ Ptr h' ∧ ∀ a, a ≠ w + 13 + 15 * c + 3 → a ≠ w + 13 + 15 * c + 4 → a ≠ w + 13 + 15 * c + 5 → h' a = h a := by
  have u2 := wr.nc
  have w0 := iw.b
  have kl := k_longest2 hs hp iw hr wr c0 c1
  have ob := oldG_b wr c0 (by omega)
  by_cases e : oldG G c < 0
  · have hr1 := hr.set wr (v := q_add (G (140 + c)) 1) (lo_lost c0 (by omega)) (a := w + 13 + 15 * c + 3) (by omega) (by omega)
    have hp1 := hp.up (k := w + 13 + 15 * c + 3) (j := 5) (v := q_add (G (140 + c)) 1) (VP_cr iw c0 (by omega) (by omega) (by omega) (by omega))
    obtain ⟨h', t1, t2, t3, t4⟩ := k_takeOut (i := 0) hs hp1 iw hr1 (wr.free (by omega)) c0 (by rw [ud_ne (by omega)]; exact c1) (by omega) (by rw [ud_ne (by omega)]; omega)
    refine ⟨h', ?_, ?_, t3, ?_⟩
    · simp (disch := omega) only [q_470, q_up_far, q_row_row, q_row_self, q_row_ne, q_up_ne, q_up_eq, q_rowup, ud_eq, ud_ne, q_add_id, q_sub_id, q_mul_id, q_w_eq, q_rem_n, q_div_n, ↓reduceIte, leT, leF, ltT, ltF, eqT, eqF, true_or, or_true, false_or, or_false, true_and, and_true, false_and, and_false, or_self, and_self, Option.bind_some, kl, hr.lost wr, t1, c_X1_makeRoom, e_X1_makeRoom_0, e_X1_makeRoom_4, e_X1_makeRoom_24, e_X1_makeRoom_42]
    · unfold roomG
      rw [if_pos e]; exact t2
    · intro a a1 a2 a3
      rw [t4 a a1 a2 a3, q_up_far a1]
  · have hr1 := hr.set wr (v := q_add (G (132 + c)) 1) (lo_dropped c0 (by omega)) (a := w + 13 + 15 * c + 3) (by omega) (by omega)
    have hp1 := hp.up (k := w + 13 + 15 * c + 3) (j := 4) (v := q_add (G (132 + c)) 1) (VP_cr iw c0 (by omega) (by omega) (by omega) (by omega))
    obtain ⟨h', t1, t2, t3, t4⟩ := k_takeOut (i := oldG G c) hs hp1 iw hr1 (wr.free (by omega)) c0 (by rw [ud_ne (by omega)]; exact c1) (by omega) (by rw [ud_ne (by omega)]; omega)
    refine ⟨h', ?_, ?_, t3, ?_⟩
    · simp (disch := omega) only [q_470, q_up_far, q_row_row, q_row_self, q_row_ne, q_up_ne, q_up_eq, q_rowup, ud_eq, ud_ne, q_add_id, q_sub_id, q_mul_id, q_w_eq, q_rem_n, q_div_n, ↓reduceIte, leT, leF, ltT, ltF, eqT, eqF, true_or, or_true, false_or, or_false, true_and, and_true, false_and, and_false, or_self, and_self, Option.bind_some, kl, hr.dropped wr, t1, c_X1_makeRoom, e_X1_makeRoom_0, e_X1_makeRoom_4, e_X1_makeRoom_24, e_X1_makeRoom_42]
    · unfold roomG
      rw [if_neg e]; exact t2
    · intro a a1 a2 a3
      rw [t4 a a1 a2 a3, q_up_far a1]
theorem WFR.put {G : Int → Int} (wr : WFR G) {c : Int} (c0 : 0 ≤ c) (c1 : c < 8) (n1 : G (108 + c) < 12) : WFR (putG G c) := by
  have r1 := wr.blocks (d := c) (by omega) (by omega)
  unfold putG
  exact (((wr.free (by omega)).set (300, 396, -1, 3000) (by decide) (by show (300 : Int) ≤ _; omega) (by show _ < (396 : Int); omega) (by decide) (by decide)).set (108, 116, 0, 12) (by decide) (by show (108 : Int) ≤ _; omega) (by show _ < (116 : Int); omega) (by show (0 : Int) ≤ _; omega) (by show _ ≤ (12 : Int); omega)).free (by omega)
/-- the class puts a block behind the others -/
theorem k_put {sh : Int × (Int → Nat × Int)} {h : Int → Int → Int} {w c : Int} {G : Int → Int} (hs : Sh sh) (hp : Ptr h) (iw : isW w) (hr : RelW h w G) (wr : WFR G) (c0 : 0 ≤ c) (c1 : c < G 2) (n1 : G (108 + c) < 12) : ∃ h', q_L 12 15 [(11, w + 13 + 15 * c + 3)] [] (sh, h) = some ((9, 0), (sh, h')) ∧ RelW h' w (putG G c) ∧ Ptr h' ∧ ∀ a, a ≠ w + 13 + 15 * c + 3 → a ≠ w + 13 + 15 * c + 4 → a ≠ w + 13 + 15 * c + 5 → h' a = h a := by
  have u2 := wr.nc
  have w0 := iw.b
  have r1 := wr.blocks (d := c) (by omega) (by omega)
  have wp := wr.put c0 (by omega) n1
  obtain ⟨n, en⟩ : ∃ n, G (108 + c) = n := ⟨_, rfl⟩
  rw [en] at r1 n1
  obtain ⟨m, em⟩ : ∃ m, G (116 + c) = m := ⟨_, rfl⟩
  obtain ⟨G', eG⟩ : ∃ G', putG G c = G' := ⟨_, rfl⟩
  rw [eG] at wp ⊢
  obtain ⟨h', eh⟩ : ∃ h', q_up (q_up (q_up (q_up h (w + 13 + 15 * c + 4) n m) (w + 13 + 15 * c + 5) n (-1)) (w + 13 + 15 * c + 3) 1 (n + 1)) (w + 13 + 15 * c + 3) 2 (q_add m 1) = h' := ⟨_, rfl⟩
  have far : ∀ a, a ≠ w + 13 + 15 * c + 3 → a ≠ w + 13 + 15 * c + 4 → a ≠ w + 13 + 15 * c + 5 → h' a = h a := fun a a1 a2 a3 => by rw [← eh, q_up_far a1, q_up_far a1, q_up_far a3, q_up_far a2]
  have gn : G' (108 + c) = n + 1 := by rw [← eG]; unfold putG; simp (disch := omega) only [q_470, q_up_far, q_row_row, q_row_self, q_row_ne, q_up_ne, q_up_eq, q_rowup, ud_eq, ud_ne, q_add_id, q_sub_id, q_mul_id, q_w_eq, q_rem_n, q_div_n, ↓reduceIte, leT, leF, ltT, ltF, eqT, eqF, true_or, or_true, false_or, or_false, true_and, and_true, false_and, and_false, or_self, and_self, Option.bind_some, en]
  have gm : G' (116 + c) = q_add m 1 := by rw [← eG]; unfold putG; simp (disch := omega) only [q_470, q_up_far, q_row_row, q_row_self, q_row_ne, q_up_ne, q_up_eq, q_rowup, ud_eq, ud_ne, q_add_id, q_sub_id, q_mul_id, q_w_eq, q_rem_n, q_div_n, ↓reduceIte, leT, leF, ltT, ltF, eqT, eqF, true_or, or_true, false_or, or_false, true_and, and_true, false_and, and_false, or_self, and_self, Option.bind_some, em]
  have gf : ∀ y, y ≠ 108 + c → y ≠ 116 + c → y ≠ 204 + 12 * c + n → y ≠ 300 + 12 * c + n → G' y = G y := fun y a1 a2 a3 a4 => by rw [← eG]; unfold putG; rw [en]; simp (disch := omega) only [q_470, q_up_far, q_row_row, q_row_self, q_row_ne, q_up_ne, q_up_eq, q_rowup, ud_eq, ud_ne, q_add_id, q_sub_id, q_mul_id, q_w_eq, q_rem_n, q_div_n, ↓reduceIte, leT, leF, ltT, ltF, eqT, eqF, true_or, or_true, false_or, or_false, true_and, and_true, false_and, and_false, or_self, and_self, Option.bind_some, ]
  have g4 : G' (204 + 12 * c + n) = m := by rw [← eG]; unfold putG; rw [en, em]; simp (disch := omega) only [q_470, q_up_far, q_row_row, q_row_self, q_row_ne, q_up_ne, q_up_eq, q_rowup, ud_eq, ud_ne, q_add_id, q_sub_id, q_mul_id, q_w_eq, q_rem_n, q_div_n, ↓reduceIte, leT, leF, ltT, ltF, eqT, eqF, true_or, or_true, false_or, or_false, true_and, and_true, false_and, and_false, or_self, and_self, Option.bind_some, ]
  have g5 : G' (300 + 12 * c + n) = -1 := by rw [← eG]; unfold putG; rw [en]; simp (disch := omega) only [q_470, q_up_far, q_row_row, q_row_self, q_row_ne, q_up_ne, q_up_eq, q_rowup, ud_eq, ud_ne, q_add_id, q_sub_id, q_mul_id, q_w_eq, q_rem_n, q_div_n, ↓reduceIte, leT, leF, ltT, ltF, eqT, eqF, true_or, or_true, false_or, or_false, true_and, and_true, false_and, and_false, or_self, and_self, Option.bind_some, ]
  refine ⟨h', ?_, ?_, ?_, far⟩
  · rw [← eh, e_X1_makeOne_15]
    simp (disch := omega) only [q_470, q_up_far, q_row_row, q_row_self, q_row_ne, q_up_ne, q_up_eq, q_rowup, ud_eq, ud_ne, q_add_id, q_sub_id, q_mul_id, q_w_eq, q_rem_n, q_div_n, ↓reduceIte, leT, leF, ltT, ltF, eqT, eqF, true_or, or_true, false_or, or_false, true_and, and_true, false_and, and_false, or_self, and_self, Option.bind_some, en, em, hr.blocks wr, hr.made wr, hp.bnum iw, hp.bsent iw, hs.c4 iw, hs.c5 iw]
  · refine hr.blocksOf wr wp c0 c1 far ?_ ?_ ?_ ?_ ?_ ?_ ?_ ?_ ?_
    · intro y y1 y2 y3 y4 y5 y6 y7 y8
      exact gf y y2 y3 (by omega) (by omega)
    · rw [gf _ (by omega) (by omega) (by omega) (by omega), ← eh]; simp (disch := omega) only [q_up_ne, q_up_eq]; exact hr.room wr c c0 c1
    · rw [gn, ← eh]; simp (disch := omega) only [q_up_ne, q_up_eq]
    · rw [gm, ← eh]; simp (disch := omega) only [q_up_ne, q_up_eq]
    · rw [gf _ (by omega) (by omega) (by omega) (by omega), ← eh]; simp (disch := omega) only [q_up_ne, q_up_eq]; exact hr.had wr c c0 c1
    · rw [gf _ (by omega) (by omega) (by omega) (by omega), ← eh]; simp (disch := omega) only [q_up_ne, q_up_eq]; exact hr.dropped wr c c0 c1
    · rw [gf _ (by omega) (by omega) (by omega) (by omega), ← eh]; simp (disch := omega) only [q_up_ne, q_up_eq]; exact hr.lost wr c c0 c1
    · intro k k0 k1
      rw [gn] at k1
      by_cases z : k = n
      · rw [z, g4, ← eh]; simp (disch := omega) only [q_up_ne, q_up_eq]
      · rw [gf _ (by omega) (by omega) (by omega) (by omega), ← eh]; simp (disch := omega) only [q_up_ne, q_up_eq]; exact hr.bnum wr c k c0 c1 k0 (by omega)
    · intro k k0 k1
      rw [gn] at k1
      by_cases z : k = n
      · rw [z, g5, ← eh]; simp (disch := omega) only [q_up_ne, q_up_eq]
      · rw [gf _ (by omega) (by omega) (by omega) (by omega), ← eh]; simp (disch := omega) only [q_up_ne, q_up_eq]; exact hr.bsent wr c k c0 c1 k0 (by omega)
  · rw [← eh]
    exact (((hp.up (VP_cr iw c0 (by omega) (by omega) (by omega) (by omega))).up (VP_cr iw c0 (by omega) (by omega) (by omega) (by omega))).up (VP_cr iw c0 (by omega) (by omega) (by omega) (by omega))).up (VP_cr iw c0 (by omega) (by omega) (by omega) (by omega))
theorem k_makeOne {sh : Int × (Int → Nat × Int)} {h : Int → Int → Int} {w c : Int} {G : Int → Int} (hs : Sh sh) (hp : Ptr h) (iw : isW w) (hr : RelW h w G) (wr : WFR G) (wk : WFk G) (c0 : 0 ≤ c) (c1 : c < G 2) : ∃ h', q_Cc 12 [(11, w + 13 + 15 * c + 3)] (sh, h) = some ((9, 0), (sh, h')) ∧ RelW h' w (makeG G c) ∧ Ptr h' ∧ ∀ a, a ≠ w + 13 + 15 * c + 3 → a ≠ w + 13 + 15 * c + 4 → a ≠ w + 13 + 15 * c + 5 → h' a = h a := by
  have u2 := wr.nc
  have r1 := wr.room (d := c) (by omega) (by omega)
  have k1 := wk c c0 c1
  unfold makeG
  by_cases e : G (108 + c) = G (92 + c)
  · obtain ⟨h1, t1, t2, t3, t4⟩ := k_makeRoom hs hp iw hr wr c0 c1 (by omega)
    have g2 : roomG G c 2 = G 2 := roomG_f wr c0 (by omega) (by omega) (by omega) (by omega) (by omega) (by omega)
    obtain ⟨h', p1, p2, p3, p4⟩ := k_put hs t3 iw t2 (wr.room2 c0 (by omega) (by omega)) c0 (by rw [g2]; exact c1) (by rw [roomG_n c0 (by omega)]; omega)
    refine ⟨h', ?_, ?_, p3, ?_⟩
    · simp (disch := omega) only [q_470, q_up_far, q_row_row, q_row_self, q_row_ne, q_up_ne, q_up_eq, q_rowup, ud_eq, ud_ne, q_add_id, q_sub_id, q_mul_id, q_w_eq, q_rem_n, q_div_n, ↓reduceIte, leT, leF, ltT, ltF, eqT, eqF, true_or, or_true, false_or, or_false, true_and, and_true, false_and, and_false, or_self, and_self, Option.bind_some, hr.blocks wr, hr.room wr, t1, p1, c_X1_makeOne, e_X1_makeOne_0]
    · rw [if_pos e]; exact p2
    · intro a a1 a2 a3
      rw [p4 a a1 a2 a3, t4 a a1 a2 a3]
  · obtain ⟨h', p1, p2, p3, p4⟩ := k_put hs hp iw hr wr c0 c1 (by omega)
    refine ⟨h', ?_, ?_, p3, p4⟩
    · simp (disch := omega) only [q_470, q_up_far, q_row_row, q_row_self, q_row_ne, q_up_ne, q_up_eq, q_rowup, ud_eq, ud_ne, q_add_id, q_sub_id, q_mul_id, q_w_eq, q_rem_n, q_div_n, ↓reduceIte, leT, leF, ltT, ltF, eqT, eqF, true_or, or_true, false_or, or_false, true_and, and_true, false_and, and_false, or_self, and_self, Option.bind_some, hr.blocks wr, hr.room wr, p1, c_X1_makeOne, e_X1_makeOne_0]
    · rw [if_neg e]; exact p2
theorem r_putL {sh : Int × (Int → Nat × Int)} {h : Int → Int → Int} {c : Int} {G : Int → Int} {x2 x3 x4 : q_V} (e0 : h 469 0 = 470) (l : (sh.2 470).2 = 1354) (wr : WFR G) (c0 : 0 ≤ c) (c1 : c < 8) (n1 : G (108 + c) < 12) : q_L 225 135 [(22, 469), (0, c), x2, x3, x4] [] (sh, q_row h 470 G) = some ((9, 0), (sh, q_row h 470 (putG G c))) := by
  have r1 := wr.blocks (d := c) (by omega) (by omega)
  unfold putG
  rw [e_X12_makes_135]
  simp (disch := omega) only [q_470, q_up_far, q_row_row, q_row_self, q_row_ne, q_up_ne, q_up_eq, q_rowup, ud_eq, ud_ne, q_add_id, q_sub_id, q_mul_id, q_w_eq, q_rem_n, q_div_n, ↓reduceIte, leT, leF, ltT, ltF, eqT, eqF, true_or, or_true, false_or, or_false, true_and, and_true, false_and, and_false, or_self, and_self, Option.bind_some, e0, l, Int.add_assoc]
theorem r_makes {sh : Int × (Int → Nat × Int)} {h : Int → Int → Int} {c : Int} {G : Int → Int} (e0 : h 469 0 = 470) (l : (sh.2 470).2 = 1354) (wr : WFR G) (wk : WFk G) (c0 : 0 ≤ c) (c1 : c < G 2) : q_Cc 225 [(22, 469), (0, c)] (sh, q_row h 470 G) = some ((9, 0), (sh, q_row h 470 (makeG G c))) := by
  have u2 := wr.nc
  have r1 := wr.room (d := c) (by omega) (by omega)
  have k1 := wk c c0 c1
  have ob := oldG_b wr c0 (by omega)
  have eq0 : q_row h 470 G 469 0 = 470 := by rw [q_row_ne (by decide)]; exact e0
  unfold makeG
  by_cases e : G (108 + c) = G (92 + c)
  · rw [if_pos e]
    have := r_oldL (sh := sh) (h := q_row h 470 G) (c := c) (G := G) eq0 l (q_row_self _ _ _) wr c0 (by omega) (fun r => r = some ((9, 0), (sh, q_row h 470 (putG (roomG G c) c)))) ?_
    · simp (disch := omega) only [q_470, q_up_far, q_row_row, q_row_self, q_row_ne, q_up_ne, q_up_eq, q_rowup, ud_eq, ud_ne, q_add_id, q_sub_id, q_mul_id, q_w_eq, q_rem_n, q_div_n, ↓reduceIte, leT, leF, ltT, ltF, eqT, eqF, true_or, or_true, false_or, or_false, true_and, and_true, false_and, and_false, or_self, and_self, Option.bind_some, e0, l, e, c_X12_makes, e_X12_makes_0, this]
    · intro x4
      have wr2 := wr.room2 c0 (by omega) (by omega : 0 < G (108 + c))
      have pl := fun x2 x3 x4 => r_putL (sh := sh) (h := h) (G := roomG G c) (x2 := x2) (x3 := x3) (x4 := x4) e0 l wr2 c0 (by omega) (by rw [roomG_n c0 (by omega)]; omega)
      rw [e_X12_makes_25]
      by_cases z : oldG G c < 0
      · have tk := r_takesOut (sh := sh) (h := h) (c := c) (i := 0) (G := ud G (140 + c) (q_add (G (140 + c)) 1)) e0 l (wr.free (by omega)) c0 (by omega) (by omega) (by rw [ud_ne (by omega)]; omega)
        have er : takeG (ud G (140 + c) (q_add (G (140 + c)) 1)) c 0 = roomG G c := by unfold roomG; rw [if_pos z]
        rw [er] at tk
        simp (disch := omega) only [q_470, q_up_far, q_row_row, q_row_self, q_row_ne, q_up_ne, q_up_eq, q_rowup, ud_eq, ud_ne, q_add_id, q_sub_id, q_mul_id, q_w_eq, q_rem_n, q_div_n, ↓reduceIte, leT, leF, ltT, ltF, eqT, eqF, true_or, or_true, false_or, or_false, true_and, and_true, false_and, and_false, or_self, and_self, Option.bind_some, e0, l, e_X12_makes_114, e_X12_makes_132, tk, pl]
      · have tk := r_takesOut (sh := sh) (h := h) (c := c) (i := oldG G c) (G := ud G (132 + c) (q_add (G (132 + c)) 1)) e0 l (wr.free (by omega)) c0 (by omega) (by omega) (by rw [ud_ne (by omega)]; omega)
        have er : takeG (ud G (132 + c) (q_add (G (132 + c)) 1)) c (oldG G c) = roomG G c := by unfold roomG; rw [if_neg z]
        rw [er] at tk
        simp (disch := omega) only [q_470, q_up_far, q_row_row, q_row_self, q_row_ne, q_up_ne, q_up_eq, q_rowup, ud_eq, ud_ne, q_add_id, q_sub_id, q_mul_id, q_w_eq, q_rem_n, q_div_n, ↓reduceIte, leT, leF, ltT, ltF, eqT, eqF, true_or, or_true, false_or, or_false, true_and, and_true, false_and, and_false, or_self, and_self, Option.bind_some, e0, l, e_X12_makes_114, e_X12_makes_132, tk, pl]
  · rw [if_neg e]
    have pl := r_putL (sh := sh) (h := h) (G := G) (c := c) (x2 := (9, 0)) (x3 := (9, 0)) (x4 := (9, 0)) e0 l wr c0 (by omega) (by omega)
    simp (disch := omega) only [q_470, q_up_far, q_row_row, q_row_self, q_row_ne, q_up_ne, q_up_eq, q_rowup, ud_eq, ud_ne, q_add_id, q_sub_id, q_mul_id, q_w_eq, q_rem_n, q_div_n, ↓reduceIte, leT, leF, ltT, ltF, eqT, eqF, true_or, or_true, false_or, or_false, true_and, and_true, false_and, and_false, or_self, and_self, Option.bind_some, e0, l, c_X12_makes, e_X12_makes_0, pl]
