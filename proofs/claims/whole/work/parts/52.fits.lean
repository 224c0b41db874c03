/-! where an asking can stand -/
def FE (G E : Int → Int) (d : Int) : Int := if E d < 0 then G 0 else if G 0 < E d + G (64 + d) then E d + G (64 + d) else G 0
def ftH (G F : Int → Int) (a d : Int) : Int := if F d < G (438 + a) then G (438 + a) else F d
def ftT (G F : Int → Int) (a d : Int) : Int := firstF G (G (410 + a)) (G (52 + d)) (ftH G F a d) (G (424 + a))
def ft (G F : Int → Int) (a d : Int) : Int := if G (70 + d) = 1 then -1 else if ftT G F a d < 0 then -1 else if G (452 + a) < ftT G F a d + G (424 + a) then -1 else ftT G F a d
theorem firstF_mono {G : Int → Int} {c p s t n : Int} (wr : WFR G) (c0 : 0 ≤ c) (c1 : c < 8) (p0 : 0 ≤ p) (p1 : p < 3) (s0 : 0 ≤ s) (st : s ≤ t) (hf : 0 ≤ firstF G c p t n) : 0 ≤ firstF G c p s n ∧ firstF G c p s n ≤ firstF G c p t n := by
  have r1 := wr.upat c0 c1 p0 p1
  have r2 := wr.upfor c0 c1 p0 p1
  unfold firstF sinceF at *
  generalize G (156 + 3 * c + p) = x at *
  generalize G (180 + 3 * c + p) = y at *
  by_cases e1 : y = 24
  · simp only [e1, if_true] at *; omega
  · rw [if_neg e1] at hf ⊢
    rw [if_neg e1]
    by_cases e2 : y < n
    · rw [if_pos e2] at hf; omega
    · rw [if_neg e2] at hf ⊢
      rw [if_neg e2]
      clear hf
      by_cases e3 : (s + 24 - x) % 24 + n ≤ y <;> by_cases e4 : (t + 24 - x) % 24 + n ≤ y
      · rw [if_pos e3, if_pos e4]; omega
      · rw [if_pos e3, if_neg e4]; omega
      · rw [if_neg e3, if_pos e4]; omega
      · rw [if_neg e3, if_neg e4]; omega
theorem ft_mono {G F0 F : Int → Int} {a d : Int} (wr : WFR G) (a0 : 0 ≤ a) (a1 : a < 14) (d0 : 0 ≤ d) (d1 : d < 6) (f0 : 0 ≤ F0 d) (hF : F0 d ≤ F d) (hf : 0 ≤ ft G F a d) : 0 ≤ ft G F0 a d := by
  have r1 := wr.acraft (d := a) a0 a1
  have r2 := wr.place (d := d) d0 d1
  have r3 := wr.afrom (d := a) a0 a1
  unfold ft at *
  by_cases e1 : G (70 + d) = 1
  · rw [if_pos e1] at hf; omega
  · rw [if_neg e1] at hf ⊢
    by_cases e2 : ftT G F a d < 0
    · rw [if_pos e2] at hf; omega
    · rw [if_neg e2] at hf
      by_cases e3 : G (452 + a) < ftT G F a d + G (424 + a)
      · rw [if_pos e3] at hf; omega
      · have hh : ftH G F0 a d ≤ ftH G F a d := by
          unfold ftH
          split <;> split <;> omega
        have h0 : 0 ≤ ftH G F0 a d := by unfold ftH; split <;> omega
        have m := firstF_mono (n := G (424 + a)) wr r1.1 (by omega) r2.1 (by omega) h0 hh (by show 0 ≤ ftT G F a d; omega)
        have m : 0 ≤ ftT G F0 a d ∧ ftT G F0 a d ≤ ftT G F a d := m
        rw [if_neg (by omega), if_neg (by omega)]
        exact m.1
theorem ft_b {G F : Int → Int} {a d : Int} (wr : WFR G) (f0 : 0 ≤ F d) : ft G F a d = -1 ∨ (F d ≤ ft G F a d ∧ ft G F a d + G (424 + a) ≤ G (452 + a)) := by
  have hh : F d ≤ ftH G F a d := by
    unfold ftH
    split <;> omega
  have b := firstF_b (c := G (410 + a)) (p := G (52 + d)) (n := G (424 + a)) wr (show 0 ≤ ftH G F a d by omega)
  have b : ftT G F a d = -1 ∨ (ftH G F a d ≤ ftT G F a d ∧ ftT G F a d ≤ ftH G F a d + 24) := b
  unfold ft
  repeat' split
  all_goals omega
theorem ft_eq {G F F' : Int → Int} {a d : Int} (e : F d = F' d) : ft G F a d = ft G F' a d := by
  unfold ft ftT ftH
  rw [e]
theorem k_startOn {sh : Int × (Int → Nat × Int)} {h : Int → Int → Int} {w i a d : Int} {G E : Int → Int} (hs : Sh sh) (hp : Ptr h) (iw : isW w) (hr : RelW h w G) (wf : WF G) (i0 : 0 ≤ i) (i1 : i < 5) (hA : h 443 i = a) (a0 : 0 ≤ a) (a1 : a < G 3) (d0 : 0 ≤ d) (d1 : d < G 1) (hE : h 451 d = E d) (E1 : E d ≤ 20000) : q_Cc 48 [(15, 442), (20, w), (0, i), (0, d)] (sh, h) = some ((0, ft G (FE G E) a d), (sh, h)) := by
  have wr := wf.1
  have u0 := wr.hour; have u1 := wr.nd; have u2 := wr.nc; have u3 := wr.na
  have w0 := iw.b
  have wa := wf.2.2.1 a a0 a1
  have r1 := wr.acraft (d := a) (by omega) (by omega)
  have r2 := wr.an (d := a) (by omega) (by omega)
  have r3 := wr.afrom (d := a) (by omega) (by omega)
  have r4 := wr.ato (d := a) (by omega) (by omega)
  have r5 := wr.turn (d := d) (by omega) (by omega)
  have r6 := wr.broken (d := d) (by omega) (by omega)
  have r7 := wr.place (d := d) (by omega) (by omega)
  by_cases e1 : G (70 + d) = 1
  · unfold ft
    simp (disch := omega) only [q_470, q_up_far, q_row_row, q_row_self, q_row_ne, q_up_ne, q_up_eq, q_rowup, ud_eq, ud_ne, q_add_id, q_sub_id, q_mul_id, q_w_eq, q_rem_n, q_div_n, ↓reduceIte, leT, leF, ltT, ltF, eqT, eqF, true_or, or_true, false_or, or_false, true_and, and_true, false_and, and_false, or_self, and_self, Option.bind_some, e1, hr.broken wr, hp.w5 iw, hp.dish iw, hs.dishes iw, c_X5_startOn, e_X5_startOn_0, e_X5_startOn_73, e_X5_startOn_98, e_X5_startOn_126, e_X5_startOn_127]
  · have f0 : 0 ≤ FE G E d ∧ FE G E d ≤ 20003 := by unfold FE; split <;> (try split) <;> omega
    have h0 : 0 ≤ ftH G (FE G E) a d ∧ ftH G (FE G E) a d ≤ 20003 := by unfold ftH; split <;> omega
    have b := firstF_b (c := G (410 + a)) (p := G (52 + d)) (n := G (424 + a)) wr h0.1
    have b : ftT G (FE G E) a d = -1 ∨ (ftH G (FE G E) a d ≤ ftT G (FE G E) a d ∧ ftT G (FE G E) a d ≤ ftH G (FE G E) a d + 24) := b
    have k := k_firstUp (t := ftH G (FE G E) a d) (n := G (424 + a)) hs hp iw hr wr (c := G (410 + a)) (p := G (52 + d)) (by omega) (by omega) (by omega) (by omega) (by omega) (by omega) (by omega) (by omega)
    have k : q_Cc 24 [(12, w + 13 + 15 * G (410 + a)), (0, G (52 + d)), (0, ftH G (FE G E) a d), (0, G (424 + a))] (sh, h) = some ((0, ftT G (FE G E) a d), (sh, h)) := k
    have tail : q_L 48 73 [(15, 442), (20, w), (0, i), (0, d), (13, w + 7 + d), (10, w + 133 + a), (0, ftH G (FE G E) a d), (9, 0)] [] (sh, h) = some ((0, ft G (FE G E) a d), (sh, h)) := by
      unfold ft
      by_cases e2 : ftT G (FE G E) a d < 0
      · simp (disch := omega) only [q_470, q_up_far, q_row_row, q_row_self, q_row_ne, q_up_ne, q_up_eq, q_rowup, ud_eq, ud_ne, q_add_id, q_sub_id, q_mul_id, q_w_eq, q_rem_n, q_div_n, ↓reduceIte, leT, leF, ltT, ltF, eqT, eqF, true_or, or_true, false_or, or_false, true_and, and_true, false_and, and_false, or_self, and_self, Option.bind_some, k, hr.acraft wr, hr.an wr, hr.ato wr, hr.place wr, hp.w6 iw, hp.craft iw, hs.crafts iw, e_X5_startOn_73, e_X5_startOn_98, e_X5_startOn_126, e_X5_startOn_127]
      · by_cases e3 : G (452 + a) < ftT G (FE G E) a d + G (424 + a) <;> simp (disch := omega) only [q_470, q_up_far, q_row_row, q_row_self, q_row_ne, q_up_ne, q_up_eq, q_rowup, ud_eq, ud_ne, q_add_id, q_sub_id, q_mul_id, q_w_eq, q_rem_n, q_div_n, ↓reduceIte, leT, leF, ltT, ltF, eqT, eqF, true_or, or_true, false_or, or_false, true_and, and_true, false_and, and_false, or_self, and_self, Option.bind_some, k, hr.acraft wr, hr.an wr, hr.ato wr, hr.place wr, hp.w6 iw, hp.craft iw, hs.crafts iw, e_X5_startOn_73, e_X5_startOn_98, e_X5_startOn_126, e_X5_startOn_127]
    rw [← tail]
    have hbr : G (70 + d) = 0 := by omega
    have eh : ftH G (FE G E) a d = if E d < 0 then (if G (438 + a) < G 0 then G 0 else G (438 + a)) else if (if G (438 + a) < G 0 then G 0 else G (438 + a)) < E d + G (64 + d) then E d + G (64 + d) else (if G (438 + a) < G 0 then G 0 else G (438 + a)) := by
      unfold ftH FE
      repeat' split
      all_goals omega
    rw [eh]
    by_cases e4 : E d < 0
    · rw [if_pos e4]
      simp (disch := omega) only [q_470, q_up_far, q_row_row, q_row_self, q_row_ne, q_up_ne, q_up_eq, q_rowup, ud_eq, ud_ne, q_add_id, q_sub_id, q_mul_id, q_w_eq, q_rem_n, q_div_n, ↓reduceIte, leT, leF, ltT, ltF, eqT, eqF, true_or, or_true, false_or, or_false, true_and, and_true, false_and, and_false, or_self, and_self, Option.bind_some, e4, hbr, hE, hA, hr.hour wr, hr.afrom wr, hr.turn wr, hr.broken wr, hp.w5 iw, hp.w7 iw, hp.dish iw, hp.ask iw, hp.pl3, hp.pl11, hs.k443, hs.k451, hs.dishes iw, hs.asks iw, c_X5_startOn, e_X5_startOn_0]
    · rw [if_neg e4]
      simp (disch := omega) only [q_470, q_up_far, q_row_row, q_row_self, q_row_ne, q_up_ne, q_up_eq, q_rowup, ud_eq, ud_ne, q_add_id, q_sub_id, q_mul_id, q_w_eq, q_rem_n, q_div_n, ↓reduceIte, leT, leF, ltT, ltF, eqT, eqF, true_or, or_true, false_or, or_false, true_and, and_true, false_and, and_false, or_self, and_self, Option.bind_some, e4, hbr, hE, hA, hr.hour wr, hr.afrom wr, hr.turn wr, hr.broken wr, hp.w5 iw, hp.w7 iw, hp.dish iw, hp.ask iw, hp.pl3, hp.pl11, hs.k443, hs.k451, hs.dishes iw, hs.asks iw, c_X5_startOn, e_X5_startOn_0]
theorem r_fits {sh : Int × (Int → Nat × Int)} {h : Int → Int → Int} {a d : Int} {G F : Int → Int} (e0 : h 469 0 = 470) (e26 : h 469 26 = 486) (l : (sh.2 470).2 = 1354) (l26 : (sh.2 486).2 = 6) (hG : h 470 = G) (wr : WFR G) (a0 : 0 ≤ a) (a1 : a < 14) (d0 : 0 ≤ d) (d1 : d < 6) (hF : h 486 d = F d) (F0 : 0 ≤ F d) (F1 : F d ≤ 20003) : q_Cc 205 [(22, 469), (0, a), (0, d)] (sh, h) = some ((0, ft G F a d), (sh, h)) := by
  have r1 := wr.acraft (d := a) (by omega) (by omega)
  have r2 := wr.an (d := a) (by omega) (by omega)
  have r3 := wr.afrom (d := a) (by omega) (by omega)
  have r4 := wr.ato (d := a) (by omega) (by omega)
  have r7 := wr.place (d := d) (by omega) (by omega)
  by_cases e1 : G (70 + d) = 1
  · unfold ft
    simp (disch := omega) only [q_470, q_up_far, q_row_row, q_row_self, q_row_ne, q_up_ne, q_up_eq, q_rowup, ud_eq, ud_ne, q_add_id, q_sub_id, q_mul_id, q_w_eq, q_rem_n, q_div_n, ↓reduceIte, leT, leF, ltT, ltF, eqT, eqF, true_or, or_true, false_or, or_false, true_and, and_true, false_and, and_false, or_self, and_self, Option.bind_some, e1, e0, e26, l, l26, hG, c_X12_fits, e_X12_fits_0, e_X12_fits_53, e_X12_fits_88, e_X12_fits_126, e_X12_fits_127]
  · have h0 : 0 ≤ ftH G F a d ∧ ftH G F a d ≤ 20003 := by unfold ftH; split <;> omega
    have b := firstF_b (c := G (410 + a)) (p := G (52 + d)) (n := G (424 + a)) wr h0.1
    have b : ftT G F a d = -1 ∨ (ftH G F a d ≤ ftT G F a d ∧ ftT G F a d ≤ ftH G F a d + 24) := b
    have k := r_risesAt (sh := sh) (h := h) (t := ftH G F a d) (n := G (424 + a)) e0 l hG wr (c := G (410 + a)) (p := G (52 + d)) (by omega) (by omega) (by omega) (by omega) (by omega) (by omega) (by omega) (by omega)
    have k : q_Cc 180 [(22, 469), (0, G (410 + a)), (0, G (52 + d)), (0, ftH G F a d), (0, G (424 + a))] (sh, h) = some ((0, ftT G F a d), (sh, h)) := k
    have tail : q_L 205 53 [(22, 469), (0, a), (0, d), (9, 0), (9, 0)] [(0, ftH G F a d)] (sh, h) = some ((0, ft G F a d), (sh, h)) := by
      unfold ft
      by_cases e2 : ftT G F a d < 0
      · simp (disch := omega) only [q_470, q_up_far, q_row_row, q_row_self, q_row_ne, q_up_ne, q_up_eq, q_rowup, ud_eq, ud_ne, q_add_id, q_sub_id, q_mul_id, q_w_eq, q_rem_n, q_div_n, ↓reduceIte, leT, leF, ltT, ltF, eqT, eqF, true_or, or_true, false_or, or_false, true_and, and_true, false_and, and_false, or_self, and_self, Option.bind_some, k, e0, e26, l, l26, hG, e_X12_fits_53, e_X12_fits_88, e_X12_fits_126, e_X12_fits_127]
      · by_cases e3 : G (452 + a) < ftT G F a d + G (424 + a) <;> simp (disch := omega) only [q_470, q_up_far, q_row_row, q_row_self, q_row_ne, q_up_ne, q_up_eq, q_rowup, ud_eq, ud_ne, q_add_id, q_sub_id, q_mul_id, q_w_eq, q_rem_n, q_div_n, ↓reduceIte, leT, leF, ltT, ltF, eqT, eqF, true_or, or_true, false_or, or_false, true_and, and_true, false_and, and_false, or_self, and_self, Option.bind_some, k, e0, e26, l, l26, hG, e_X12_fits_53, e_X12_fits_88, e_X12_fits_126, e_X12_fits_127]
    rw [← tail]
    unfold ftH
    by_cases e2 : F d < G (438 + a) <;> simp (disch := omega) only [q_470, q_up_far, q_row_row, q_row_self, q_row_ne, q_up_ne, q_up_eq, q_rowup, ud_eq, ud_ne, q_add_id, q_sub_id, q_mul_id, q_w_eq, q_rem_n, q_div_n, ↓reduceIte, leT, leF, ltT, ltF, eqT, eqF, true_or, or_true, false_or, or_false, true_and, and_true, false_and, and_false, or_self, and_self, Option.bind_some, e0, e26, l, l26, hG, hF, c_X12_fits, e_X12_fits_0]
/-! the ends of tracks on each dish -/
def enN (G : Int → Int) : Nat → Int → Int
  | 0, _ => -1
  | n + 1, d => if (G (480 + n) = 1 ∨ G (480 + n) = 2) ∧ G (494 + n) = d then (if enN G n d < G (508 + n) + G (424 + n) then G (508 + n) + G (424 + n) else enN G n d) else enN G n d
theorem enN_succ {G : Int → Int} {a : Int} (a0 : 0 ≤ a) (d : Int) : enN G (a + 1).toNat d = if (G (480 + a) = 1 ∨ G (480 + a) = 2) ∧ G (494 + a) = d then (if enN G a.toNat d < G (508 + a) + G (424 + a) then G (508 + a) + G (424 + a) else enN G a.toNat d) else enN G a.toNat d := by
  have ei : (a.toNat : Int) = a := Int.toNat_of_nonneg a0
  have es : (a + 1).toNat = a.toNat + 1 := by omega
  rw [es]
  show (if (G (480 + (a.toNat : Int)) = 1 ∨ G (480 + (a.toNat : Int)) = 2) ∧ G (494 + (a.toNat : Int)) = d then (if enN G a.toNat d < G (508 + (a.toNat : Int)) + G (424 + (a.toNat : Int)) then G (508 + (a.toNat : Int)) + G (424 + (a.toNat : Int)) else enN G a.toNat d) else enN G a.toNat d) = _
  rw [ei]
theorem enN_b {G : Int → Int} (wf : WF G) : ∀ n : Nat, (n : Int) ≤ G 3 → ∀ d, -1 ≤ enN G n d ∧ enN G n d ≤ 20000 := by
  intro n
  induction n with
  | zero => intro _ d; exact ⟨Int.le_refl _, by show (-1 : Int) ≤ 20000; decide⟩
  | succ n ih =>
    intro hn d
    have u3 := wf.1.na
    have i := ih (by omega) d
    have r1 := wf.1.abegin (d := n) (by omega) (by omega)
    have r2 := wf.1.an (d := n) (by omega) (by omega)
    unfold enN
    repeat' split
    all_goals omega
/-- an end is no earlier than that of any track there -/
theorem enN_ge {G : Int → Int} : ∀ (n : Nat) (a : Int), 0 ≤ a → a < n → (G (480 + a) = 1 ∨ G (480 + a) = 2) → G (508 + a) + G (424 + a) ≤ enN G n (G (494 + a)) := by
  intro n
  induction n with
  | zero => intro a a0 a1; omega
  | succ n ih =>
    intro a a0 a1 hs
    unfold enN
    by_cases e : a = n
    · subst e
      rw [if_pos ⟨hs, rfl⟩]
      split <;> omega
    · have i := ih a a0 (by omega) hs
      repeat' split
      all_goals omega
