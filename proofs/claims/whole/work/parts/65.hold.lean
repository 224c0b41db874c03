/-! the plan is held -/
def hdN (G A on fr : Int → Int) : Nat → Int → Int
  | 0 => G
  | n + 1 => if on n < 0 then hdN G A on fr n else ud (ud (ud (hdN G A on fr n) (480 + A n) 1) (494 + A n) (on n)) (508 + A n) (fr n)
theorem hdN_succ {G A on fr : Int → Int} {k : Int} (k0 : 0 ≤ k) : hdN G A on fr (k + 1).toNat = if on k < 0 then hdN G A on fr k.toNat else ud (ud (ud (hdN G A on fr k.toNat) (480 + A k) 1) (494 + A k) (on k)) (508 + A k) (fr k) := by
  have ei : (k.toNat : Int) = k := Int.toNat_of_nonneg k0
  have es : (k + 1).toNat = k.toNat + 1 := by omega
  rw [es]
  show (if on (k.toNat : Int) < 0 then hdN G A on fr k.toNat else ud (ud (ud (hdN G A on fr k.toNat) (480 + A (k.toNat : Int)) 1) (494 + A (k.toNat : Int)) (on (k.toNat : Int))) (508 + A (k.toNat : Int)) (fr (k.toNat : Int))) = _
  rw [ei]
theorem hdN_out {G A on fr : Int → Int} {m : Int} (hA : ∀ i, 0 ≤ i → i < m → 0 ≤ A i ∧ A i < 14) {y : Int} (hy : y < 480 ∨ 522 ≤ y) : ∀ n : Nat, (n : Int) ≤ m → hdN G A on fr n y = G y := by
  intro n
  induction n with
  | zero => intro _; rfl
  | succ n ih =>
    intro hn
    have a := hA n (by omega) (by omega)
    have i := ih (by omega)
    unfold hdN
    split
    · exact i
    · rw [ud_ne (by omega), ud_ne (by omega), ud_ne (by omega)]; exact i
theorem hdN_wr {G A on fr : Int → Int} {m : Int} (wr : WFR G) (hA : ∀ i, 0 ≤ i → i < m → 0 ≤ A i ∧ A i < 14) (ho : ∀ i, 0 ≤ i → i < m → 0 ≤ on i → on i ≤ 5 ∧ -1 ≤ fr i ∧ fr i ≤ 9999) : ∀ n : Nat, (n : Int) ≤ m → WFR (hdN G A on fr n) := by
  intro n
  induction n with
  | zero => intro _; exact wr
  | succ n ih =>
    intro hn
    have a := hA n (by omega) (by omega)
    have i := ih (by omega)
    have o := ho n (by omega) (by omega)
    unfold hdN
    split
    · exact i
    · rename_i z
      have o := o (by omega)
      exact ((i.set (480, 494, 0, 4) (by decide) (by show (480 : Int) ≤ _; omega) (by show _ < (494 : Int); omega) (by show (0 : Int) ≤ _; omega) (by show _ ≤ (4 : Int); omega)).set (494, 508, -1, 5) (by decide) (by show (494 : Int) ≤ _; omega) (by show _ < (508 : Int); omega) (by show (-1 : Int) ≤ _; omega) (by show _ ≤ (5 : Int); omega)).set (508, 522, -1, 9999) (by decide) (by show (508 : Int) ≤ _; omega) (by show _ < (522 : Int); omega) (by show (-1 : Int) ≤ _; omega) (by show _ ≤ (9999 : Int); omega)
/-- asking a after n of the row: newly planned, or as it was -/
theorem hdN_get {G A on fr : Int → Int} {m a : Int} (hA : ∀ i, 0 ≤ i → i < m → 0 ≤ A i ∧ A i < 14) (hu : ∀ i j, 0 ≤ i → i < j → j < m → A i < A j) (a0 : 0 ≤ a) (a1 : a < 14) : ∀ n : Nat, (n : Int) ≤ m → (∃ i, 0 ≤ i ∧ i < (n : Int) ∧ A i = a ∧ 0 ≤ on i ∧ hdN G A on fr n (480 + a) = 1 ∧ hdN G A on fr n (494 + a) = on i ∧ hdN G A on fr n (508 + a) = fr i) ∨ (hdN G A on fr n (480 + a) = G (480 + a) ∧ hdN G A on fr n (494 + a) = G (494 + a) ∧ hdN G A on fr n (508 + a) = G (508 + a)) := by
  intro n
  induction n with
  | zero => intro _; exact Or.inr ⟨rfl, rfl, rfl⟩
  | succ n ih =>
    intro hn
    have an := hA n (by omega) (by omega)
    have i := ih (by omega)
    unfold hdN
    by_cases z : on (n : Int) < 0
    · rw [if_pos z]
      rcases i with ⟨i, i0, i1, i2⟩ | i
      · exact Or.inl ⟨i, i0, by omega, i2⟩
      · exact Or.inr i
    · rw [if_neg z]
      by_cases e : A n = a
      · refine Or.inl ⟨n, by omega, by omega, e, by omega, ?_, ?_, ?_⟩
        · rw [ud_ne (by omega), ud_ne (by omega), ud_eq (by omega)]
        · rw [ud_ne (by omega), ud_eq (by omega)]
        · rw [ud_eq (by omega)]
      · have e1 : ∀ y, (y = 480 + a ∨ y = 494 + a ∨ y = 508 + a) → ud (ud (ud (hdN G A on fr n) (480 + A n) 1) (494 + A n) (on n)) (508 + A n) (fr n) y = hdN G A on fr n y := fun y hy => by rw [ud_ne (by omega), ud_ne (by omega), ud_ne (by omega)]
        rw [e1 _ (Or.inl rfl), e1 _ (Or.inr (Or.inl rfl)), e1 _ (Or.inr (Or.inr rfl))]
        rcases i with ⟨i, i0, i1, i2⟩ | i
        · exact Or.inl ⟨i, i0, by omega, i2⟩
        · exact Or.inr i
theorem frE_ge {G : Int → Int} (wf : WF G) {a d : Int} (a0 : 0 ≤ a) (a1 : a < G 3) (hs : G (480 + a) = 1 ∨ G (480 + a) = 2) (hd : G (494 + a) = d) : G (508 + a) + G (424 + a) ≤ frE G d := by
  have wr := wf.1
  have u0 := wr.hour; have u1 := wr.nd; have u3 := wr.na
  have wa := wf.2.2.1 a a0 a1
  have r1 := wr.adish (d := a) a0 (by omega)
  have g := enN_ge (G := G) (G 3).toNat a a0 (by omega) hs
  rw [hd] at g
  have hdish : 0 ≤ d ∧ d < 6 ∧ 0 ≤ G (508 + a) := by
    rcases hs with z | z
    · have := wa.2.2.2.1 z; omega
    · have := wa.2.2.2.2 z; omega
  have t := wr.turn (d := d) hdish.1 hdish.2.1
  have n := wr.an (d := a) a0 (by omega)
  unfold frE FE
  rw [if_neg (by omega)]
  split <;> omega
theorem WF.held {G A : Int → Int} {m : Int} {B : Int × Int × (Int → Int) × (Int → Int)} (wf : WF G) (lk : LK G m A) (g : gd G A m B) : WF (hdN G A B.2.2.1 B.2.2.2 m.toNat) := by
  have wr := wf.1
  have u0 := wr.hour; have u1 := wr.nd; have u2 := wr.nc; have u3 := wr.na
  obtain ⟨m0, m5, la, lu⟩ := lk
  obtain ⟨g1, g2, -⟩ := g
  have hA : ∀ i, 0 ≤ i → i < m → 0 ≤ A i ∧ A i < 14 := fun i i0 i1 => ⟨(la i i0 i1).1, by have := (la i i0 i1).2.1; omega⟩
  have em : (m.toNat : Int) = m := Int.toNat_of_nonneg m0
  obtain ⟨on, eon⟩ : ∃ on, B.2.2.1 = on := ⟨_, rfl⟩
  obtain ⟨fr, efr⟩ : ∃ fr, B.2.2.2 = fr := ⟨_, rfl⟩
  rw [eon, efr] at g1 g2 ⊢
  have info : ∀ i, 0 ≤ i → i < m → 0 ≤ on i → on i < G 1 ∧ frE G (on i) ≤ fr i ∧ G 0 ≤ fr i ∧ fr i + G (424 + A i) ≤ G (452 + A i) := by
    intro i i0 i1 o0
    rcases g1 i i0 i1 with ⟨a, -⟩ | ⟨a, b, c, d⟩
    · omega
    · have := frE_b wf a (by omega)
      exact ⟨b, c, by omega, d⟩
  have out : ∀ y, (y < 480 ∨ 522 ≤ y) → hdN G A on fr m.toNat y = G y := fun y hy => hdN_out hA hy m.toNat (by omega)
  have get : ∀ a, 0 ≤ a → a < 14 → (∃ i, 0 ≤ i ∧ i < m ∧ A i = a ∧ 0 ≤ on i ∧ hdN G A on fr m.toNat (480 + a) = 1 ∧ hdN G A on fr m.toNat (494 + a) = on i ∧ hdN G A on fr m.toNat (508 + a) = fr i) ∨ (hdN G A on fr m.toNat (480 + a) = G (480 + a) ∧ hdN G A on fr m.toNat (494 + a) = G (494 + a) ∧ hdN G A on fr m.toNat (508 + a) = G (508 + a)) := by
    intro a a0 a1
    have := hdN_get (G := G) (on := on) (fr := fr) hA lu a0 a1 m.toNat (by omega)
    rw [em] at this
    exact this
  have wr' : WFR (hdN G A on fr m.toNat) := hdN_wr wr hA (fun i i0 i1 o0 => by
    have z := info i i0 i1 o0
    have t := wr.ato (d := A i) (hA i i0 i1).1 (hA i i0 i1).2
    have n := wr.an (d := A i) (hA i i0 i1).1 (hA i i0 i1).2
    exact ⟨by omega, by omega, by omega⟩) m.toNat (by omega)
  obtain ⟨H, eH⟩ : ∃ H, hdN G A on fr m.toNat = H := ⟨_, rfl⟩
  rw [eH] at out get wr' ⊢
  clear eH
  refine ⟨wr', wf.2.1.fr wr (fun x hx => out x (by omega)), ?_, ?_, wf.2.2.2.2.fr wr (out 2 (by omega)) (fun x hx => out x (by omega))⟩
  · intro a a0 a1
    rw [out 3 (by omega)] at a1
    rw [out 0 (by omega), out 1 (by omega), out 2 (by omega), out (410 + a) (by omega), out (424 + a) (by omega)]
    have wa := wf.2.2.1 a a0 a1
    rcases get a a0 (by omega) with ⟨i, i0, i1, ea, o0, s1, s2, s3⟩ | ⟨s1, s2, s3⟩
    · have z := info i i0 i1 o0
      rw [s1, s2, s3]
      exact ⟨wa.1, wa.2.1, z.1, fun _ => ⟨o0, z.2.2.1⟩, fun h => by omega⟩
    · rw [s1, s2, s3]
      exact wa
  · intro a b a0 ab b1 sa sb ed
    rw [out 3 (by omega)] at b1
    rw [out (424 + a) (by omega), out (424 + b) (by omega)]
    rcases get a a0 (by omega) with ⟨i, i0, i1, ea, o0, s1, s2, s3⟩ | ⟨s1, s2, s3⟩
    · rcases get b (by omega) (by omega) with ⟨j, j0, j1, eb, p0, t1, t2, t3⟩ | ⟨t1, t2, t3⟩
      · rw [s3, t3]
        rw [s2, t2] at ed
        rcases Int.lt_trichotomy i j with q | q | q
        · have := g2 i j i0 q j1 o0 ed
          rw [ea] at this
          exact Or.inl this
        · subst q; omega
        · have := lu j i j0 q i1; omega
      · rw [s3, t3]
        rw [s2, t2] at ed
        rw [t1] at sb
        have z := info i i0 i1 o0
        have q := frE_ge wf (show 0 ≤ b by omega) b1 sb ed.symm
        exact Or.inr (by omega)
    · rcases get b (by omega) (by omega) with ⟨j, j0, j1, eb, p0, t1, t2, t3⟩ | ⟨t1, t2, t3⟩
      · rw [s3, t3]
        rw [s2, t2] at ed
        rw [s1] at sa
        have z := info j j0 j1 p0
        have q := frE_ge wf a0 (by omega) sa ed
        exact Or.inl (by omega)
      · rw [s3, t3]
        rw [s2, t2] at ed
        rw [s1] at sa
        rw [t1] at sb
        exact wf.2.2.2.1 a b a0 ab b1 sa sb ed
theorem k_holdIn {sh : Int × (Int → Nat × Int)} {h : Int → Int → Int} {w m : Int} {G A W : Int → Int} {B : Int × Int × (Int → Int) × (Int → Int)} (hs : Sh sh) (iw : isW w) (wf : WF G) (lk : LK G m A) (g : gd G A m B) (hp : Ptr h) (hr : RelW h w G) (lc : LC h m A W) (bc : BC h m B) : ∃ h', q_Cc 53 [(15, 442), (20, w)] (sh, h) = some ((0, B.2.1), (sh, h')) ∧ Ptr h' ∧ RelW h' w (hdN G A B.2.2.1 B.2.2.2 m.toNat) ∧ ∀ k, (k < w + 133 ∨ w + 147 ≤ k) → h' k = h k := by
  have wr := wf.1
  have u0 := wr.hour; have u1 := wr.nd; have u3 := wr.na
  have w0 := iw.b
  obtain ⟨m0, m5, la, lu⟩ := lk
  obtain ⟨g1, g2, -⟩ := g
  have hA : ∀ i, 0 ≤ i → i < m → 0 ≤ A i ∧ A i < 14 := fun i i0 i1 => ⟨(la i i0 i1).1, by have := (la i i0 i1).2.1; omega⟩
  have info : ∀ i, 0 ≤ i → i < m → 0 ≤ B.2.2.1 i → B.2.2.1 i ≤ 5 ∧ -1 ≤ B.2.2.2 i ∧ B.2.2.2 i ≤ 9999 := by
    intro i i0 i1 o0
    have t := wr.ato (d := A i) (hA i i0 i1).1 (hA i i0 i1).2
    have n := wr.an (d := A i) (hA i i0 i1).1 (hA i i0 i1).2
    rcases g1 i i0 i1 with ⟨a, -⟩ | ⟨a, b, c, d⟩
    · omega
    · have := frE_b wf a (by omega)
      exact ⟨by omega, by omega, by omega⟩
  rw [c_X5_holdIn, e_X5_holdIn_0]
  refine lp (fun i (y : Int → Int → Int) => q_L 53 2 [(15, 442), (20, w), (0, i)] [] (sh, y)) (fun i y => Ptr y ∧ RelW y w (hdN G A B.2.2.1 B.2.2.2 i.toNat) ∧ ∀ k, (k < w + 133 ∨ w + 147 ≤ k) → y k = h k) (fun r => ∃ h', r = some ((0, B.2.1), (sh, h')) ∧ Ptr h' ∧ RelW h' w (hdN G A B.2.2.1 B.2.2.2 m.toNat) ∧ ∀ k, (k < w + 133 ∨ w + 147 ≤ k) → h' k = h k) m ?_ ?_ 0 h (by omega) m0 ⟨hp, hr, fun k _ => rfl⟩
  · intro i y i0 i1 hI
    obtain ⟨hpy, hry, fy⟩ := hI
    have a := la i i0 i1
    have y0 : y 442 0 = m := by rw [fy 442 (by omega)]; exact lc.1
    have y3 : y 443 i = A i := by rw [fy 443 (by omega)]; exact (lc.2 i i0 i1).1
    have y7 : y 447 i = B.2.2.1 i := by rw [fy 447 (by omega)]; exact (bc.2.2 i i0 i1).1
    have y8 : y 448 i = B.2.2.2 i := by rw [fy 448 (by omega)]; exact (bc.2.2 i i0 i1).2
    have ss := hdN_succ (G := G) (A := A) (on := B.2.2.1) (fr := B.2.2.2) i0
    left
    by_cases z : B.2.2.1 i < 0
    · rw [if_pos z] at ss
      refine ⟨y, ?_, hpy, by rw [ss]; exact hry, fy⟩
      rw [e_X5_holdIn_2]
      simp (disch := omega) only [q_470, q_up_far, q_row_row, q_row_self, q_row_ne, q_up_ne, q_up_eq, q_rowup, ud_eq, ud_ne, q_add_id, q_sub_id, q_mul_id, q_w_eq, q_rem_n, q_div_n, ↓reduceIte, leT, leF, ltT, ltF, eqT, eqF, true_or, or_true, false_or, or_false, true_and, and_true, false_and, and_false, or_self, and_self, Option.bind_some, y0, y7, hpy.pl7, hs.k447, e_X5_holdIn_45]
    · rw [if_neg z] at ss
      have wi := hdN_wr wr hA info i.toNat (by omega)
      have inf := info i i0 i1 (by omega)
      have w1 := wi.set (i := 480 + A i) (v := 1) (480, 494, 0, 4) (by decide) (by show (480 : Int) ≤ _; omega) (by show _ < (494 : Int); omega) (by show (0 : Int) ≤ _; omega) (by show _ ≤ (4 : Int); omega)
      have w2 := w1.set (i := 494 + A i) (v := B.2.2.1 i) (494, 508, -1, 5) (by decide) (by show (494 : Int) ≤ _; omega) (by show _ < (508 : Int); omega) (by show (-1 : Int) ≤ _; omega) (by show _ ≤ (5 : Int); omega)
      refine ⟨q_up (q_up (q_up y (w + 133 + A i) 6 1) (w + 133 + A i) 7 (B.2.2.1 i)) (w + 133 + A i) 8 (B.2.2.2 i), ?_, ?_, ?_, ?_⟩
      · rw [e_X5_holdIn_2]
        simp (disch := omega) only [q_470, q_up_far, q_row_row, q_row_self, q_row_ne, q_up_ne, q_up_eq, q_rowup, ud_eq, ud_ne, q_add_id, q_sub_id, q_mul_id, q_w_eq, q_rem_n, q_div_n, ↓reduceIte, leT, leF, ltT, ltF, eqT, eqF, true_or, or_true, false_or, or_false, true_and, and_true, false_and, and_false, or_self, and_self, Option.bind_some, y0, y3, y7, y8, hpy.pl3, hpy.pl7, hpy.pl8, hs.k443, hs.k447, hs.k448, hpy.w7 iw, hpy.ask iw, hs.asks iw, e_X5_holdIn_45, c_X0_planOn, e_X0_planOn_0]
      · exact ((hpy.up (pn_ask iw a.1 (by omega))).up (pn_ask iw a.1 (by omega))).up (pn_ask iw a.1 (by omega))
      · rw [ss]
        exact ((hry.set wi (lo_astate a.1 (by omega)) (by omega) (by omega)).set w1 (lo_adish a.1 (by omega)) (by omega) (by omega)).set w2 (lo_abegin a.1 (by omega)) (by omega) (by omega)
      · intro k hk
        rw [q_up_far (by omega), q_up_far (by omega), q_up_far (by omega)]
        exact fy k hk
  · intro y hI
    obtain ⟨hpy, hry, fy⟩ := hI
    have y0 : y 442 0 = m := by rw [fy 442 (by omega)]; exact lc.1
    have y2 : y 442 2 = B.2.1 := by rw [fy 442 (by omega)]; exact bc.2.1
    refine ⟨y, ?_, hpy, hry, fy⟩
    show q_L 53 2 [(15, 442), (20, w), (0, m)] [] (sh, y) = _
    rw [e_X5_holdIn_2]
    simp (disch := omega) only [q_470, q_up_far, q_row_row, q_row_self, q_row_ne, q_up_ne, q_up_eq, q_rowup, ud_eq, ud_ne, q_add_id, q_sub_id, q_mul_id, q_w_eq, q_rem_n, q_div_n, ↓reduceIte, leT, leF, ltT, ltF, eqT, eqF, true_or, or_true, false_or, or_false, true_and, and_true, false_and, and_false, or_self, and_self, Option.bind_some, y0, y2]
theorem r_holds {sh : Int × (Int → Nat × Int)} {g : Int → Int → Int} {m : Int} {G A : Int → Int} {B : Int × Int × (Int → Int) × (Int → Int)} (hs : Sh sh) (wf : WF G) (lk : LK G m A) (pr : PR g G m A) (br : BR g m B) : q_L 219 6 [(22, 469), (0, 0)] [] (sh, g) = some ((0, B.2.1), (sh, q_row g 470 (hdN G A B.2.2.1 B.2.2.2 m.toNat))) := by
  have u3 := wf.1.na
  obtain ⟨m0, m5, la, lu⟩ := lk
  obtain ⟨hp, hG, hm, ha⟩ := pr
  have := lp (fun i (F : Int → Int) => q_L 219 6 [(22, 469), (0, i)] [] (sh, q_row g 470 F)) (fun i F => F = hdN G A B.2.2.1 B.2.2.2 i.toNat) (fun r => r = some ((0, B.2.1), (sh, q_row g 470 (hdN G A B.2.2.1 B.2.2.2 m.toNat)))) m ?_ ?_ 0 G (by omega) m0 rfl
  · have this : q_L 219 6 [(22, 469), (0, 0)] [] (sh, q_row g 470 G) = some ((0, B.2.1), (sh, q_row g 470 (hdN G A B.2.2.1 B.2.2.2 m.toNat))) := this
    rw [← q_row_in hG] at this
    exact this
  · intro i F i0 i1 hF
    have a := la i i0 i1
    have b1 := (br.2.2 i i0 i1).1
    have b2 := (br.2.2 i i0 i1).2
    have ai := ha i i0 i1
    have ss := hdN_succ (G := G) (A := A) (on := B.2.2.1) (fr := B.2.2.2) i0
    rw [← hF] at ss
    left
    refine ⟨_, ?_, rfl⟩
    rw [ss, e_X12_hold_6]
    by_cases z : B.2.2.1 i < 0
    · rw [if_pos z]
      simp (disch := omega) only [q_470, q_up_far, q_row_row, q_row_self, q_row_ne, q_up_ne, q_up_eq, q_rowup, ud_eq, ud_ne, q_add_id, q_sub_id, q_mul_id, q_w_eq, q_rem_n, q_div_n, ↓reduceIte, leT, leF, ltT, ltF, eqT, eqF, true_or, or_true, false_or, or_false, true_and, and_true, false_and, and_false, or_self, and_self, Option.bind_some, hm, b1, hp.m22, hs.k484, e_X12_hold_81]
    · rw [if_neg z]
      simp (disch := omega) only [q_470, q_up_far, q_row_row, q_row_self, q_row_ne, q_up_ne, q_up_eq, q_rowup, ud_eq, ud_ne, q_add_id, q_sub_id, q_mul_id, q_w_eq, q_rem_n, q_div_n, ↓reduceIte, leT, leF, ltT, ltF, eqT, eqF, true_or, or_true, false_or, or_false, true_and, and_true, false_and, and_false, or_self, and_self, Option.bind_some, hm, b1, b2, ai, hp.m0, hp.m19, hp.m22, hp.m23, hs.k470, hs.k481, hs.k484, hs.k485, e_X12_hold_81]
  · intro F hF
    show q_L 219 6 [(22, 469), (0, m)] [] (sh, q_row g 470 F) = _
    have b := br.2.1
    rw [e_X12_hold_6, hF]
    simp (disch := omega) only [q_470, q_up_far, q_row_row, q_row_self, q_row_ne, q_up_ne, q_up_eq, q_rowup, ud_eq, ud_ne, q_add_id, q_sub_id, q_mul_id, q_w_eq, q_rem_n, q_div_n, ↓reduceIte, leT, leF, ltT, ltF, eqT, eqF, true_or, or_true, false_or, or_false, true_and, and_true, false_and, and_false, or_self, and_self, Option.bind_some, hm, b]
theorem st_hold : Step 129 219 [] := by
  intro sh h hs ho hi
  obtain ⟨w, G, hw1, iw, ew, hG, hp, hr, wf, hh⟩ := hi.opn
  have wr := wf.1
  have u0 := wr.hour; have u1 := wr.nd; have u2 := wr.nc; have u3 := wr.na
  obtain ⟨h1, c1, f1, l1, b1⟩ := k_plan (sh := sh) (but := -1) hs iw wf hp hr
  have hp1 := f1.ptr hp
  have hr1 := f1.rel iw wr hr
  have lk := lk_ok wr (-1)
  have gdB := plB_ok (W := wtW G (lkA G (-1))) wf lk
  obtain ⟨B, eB⟩ : ∃ B, plB G (lkm G (-1)) (lkA G (-1)) (wtW G (lkA G (-1))) = B := ⟨_, rfl⟩
  rw [eB] at b1 gdB
  obtain ⟨h2, c2, hp2, hr2, f2⟩ := k_holdIn (sh := sh) hs iw wf lk gdB hp1 hr1 l1 b1
  have wf2 := wf.held lk gdB
  have u0' : hdN G (lkA G (-1)) B.2.2.1 B.2.2.2 (lkm G (-1)).toNat 0 = G 0 := by
    refine hdN_out (m := lkm G (-1)) (fun i i0 i1 => ?_) (by omega) _ (by have := lk.1; omega)
    have := lk.2.2.1 i i0 i1
    exact ⟨this.1, by omega⟩
  have hG2 : h2 470 = G := by rw [f2 470 (by have := iw.b; omega), ← hG]; funext y; exact f1 470 y (by omega)
  obtain ⟨g, r1, k1, p1, q1⟩ := r_plan (sh := sh) hs wf hp2 hG2
  rw [eB] at q1
  have rh := r_holds (sh := sh) hs wf lk p1 q1
  subst hw1
  have hpr : Ptr (q_row g 470 (hdN G (lkA G (-1)) B.2.2.1 B.2.2.2 (lkm G (-1)).toNat)) := p1.1.row (fun j => VP_ref (by decide))
  refine ⟨B.2.1, h2, q_row g 470 (hdN G (lkA G (-1)) B.2.2.1 B.2.2.2 (lkm G (-1)).toNat), ?_, ?_, hi.world hpr ?_ ?_ ?_ ?_, ?_⟩
  · have t3 := hp.t3; have t31 := hp1.t3
    have ew1 : h1 0 0 = 1 := by rw [f1 0 0 (by omega)]; exact ew
    simp (disch := omega) only [q_470, q_up_far, q_row_row, q_row_self, q_row_ne, q_up_ne, q_up_eq, q_rowup, ud_eq, ud_ne, q_add_id, q_sub_id, q_mul_id, q_w_eq, q_rem_n, q_div_n, ↓reduceIte, leT, leF, ltT, ltF, eqT, eqF, true_or, or_true, false_or, or_false, true_and, and_true, false_and, and_false, or_self, and_self, Option.bind_some, ew, ew1, t3, t31, c1, c2, c_X11_hold, e_X11_hold_0, e_X11_hold_12, e_X11_hold_23]
  · rw [c_X12_hold, e_X12_hold_0, r1, Option.bind_some]
    show q_L 219 4 [(22, 469), (9, 0)] [] (sh, g) = _
    rw [e_X12_hold_4]
    exact rh
  · intro k j hk h4 hn
    rw [q_row_ne h4, k1 k j (by unfold Scr at hn; omega), f2 k (by omega), f1 k j (by unfold Scr at hn; omega)]
  · rw [q_row_self]
    exact hr2.frame wf2.1 (fun k k0 k1' => by rw [q_row_ne (by omega)]; funext y; exact k1 k y (by omega))
  · rw [q_row_self]; exact wf2
  · rw [q_row_self, u0']; exact hh
  · intro k hk
    refine ⟨?_, by funext y; rw [f2 k (by omega), f1 k y (by omega)]⟩
    rw [q_row_ne (by omega)]
    funext y
    rw [k1 k y (by omega), f2 k (by omega), f1 k y (by omega)]
