/-! the reference's search -/
theorem VP_rl {x y : Int} (hx : 470 ≤ x ∨ (x = 469 ∧ (y = 18 ∨ y = 24 ∨ y = 25))) : VP0 x y = none := by
  rcases hx with hx | ⟨e, e2⟩
  · exact VP_ref hx
  · subst e
    rcases e2 with e2 | e2 | e2 <;> (subst e2; rfl)
/-- nothing but what the reference's search writes is changed -/
def FR (h h' : Int → Int → Int) : Prop := ∀ x y, ¬ ((482 ≤ x ∧ x ≤ 486) ∨ (x = 469 ∧ (y = 24 ∨ y = 25))) → h' x y = h x y
theorem FR.refl (h : Int → Int → Int) : FR h h := fun _ _ _ => rfl
theorem FR.trans {h h' h'' : Int → Int → Int} (a : FR h h') (b : FR h' h'') : FR h h'' := fun x y hn => (b x y hn).trans (a x y hn)
theorem FR.ptr {h h' : Int → Int → Int} (a : FR h h') (hp : Ptr h) : Ptr h' := by
  intro x y v hv
  by_cases e : (482 ≤ x ∧ x ≤ 486) ∨ (x = 469 ∧ (y = 24 ∨ y = 25))
  · rw [VP_rl (by omega)] at hv; cases hv
  · rw [a x y e]; exact hp x y v hv
def PR (h : Int → Int → Int) (G : Int → Int) (m : Int) (A : Int → Int) : Prop := Ptr h ∧ h 470 = G ∧ h 469 18 = m ∧ ∀ i, 0 ≤ i → i < m → h 481 i = A i
theorem PR.fr {h h' : Int → Int → Int} {G : Int → Int} {m : Int} {A : Int → Int} (c : PR h G m A) (a : FR h h') : PR h' G m A :=
  ⟨a.ptr c.1, by rw [← c.2.1]; funext y; exact a 470 y (by omega), by rw [a 469 18 (by omega)]; exact c.2.2.1, fun i i0 i1 => by rw [a 481 i (by omega)]; exact c.2.2.2 i i0 i1⟩
def SR (h : Int → Int → Int) (G : Int → Int) (m k : Int) (F on fr : Int → Int) (B : Int × Int × (Int → Int) × (Int → Int)) : Prop := (∀ i, 0 ≤ i → i < k → h 482 i = on i ∧ h 483 i = fr i) ∧ (∀ d, 0 ≤ d → d < G 1 → h 486 d = F d) ∧ h 469 24 = B.1 ∧ h 469 25 = B.2.1 ∧ (0 ≤ B.1 → ∀ i, 0 ≤ i → i < m → h 484 i = B.2.2.1 i ∧ h 485 i = B.2.2.2 i)
theorem r_keepRow {sh : Int × (Int → Nat × Int)} {h : Int → Int → Int} {k m wt us : Int} (J : Nat) (hJ : J ≤ 6) (hs : Sh sh) (hp : Ptr h) (m0 : 0 ≤ m) (m5 : m ≤ 5) (hm : h 469 18 = m) : ∃ h', q_L (310 + J) 32 [(22, 469), (0, k), (0, wt), (0, us), (9, 0), (9, 0), (9, 0), (9, 0)] [] (sh, h) = some ((9, 0), (sh, h')) ∧ FR h h' ∧ h' 469 24 = wt ∧ h' 469 25 = us ∧ (∀ i, 0 ≤ i → i < m → h' 484 i = h 482 i ∧ h' 485 i = h 483 i) ∧ h' 482 = h 482 ∧ h' 483 = h 483 ∧ h' 486 = h 486 := by
  rw [e_X12_tries_32 J hJ]
  refine lp (fun i (y : Int → Int → Int) => q_L (310 + J) 45 [(22, 469), (0, k), (0, wt), (0, us), (0, i), (9, 0), (9, 0), (9, 0)] [] (sh, y)) (fun i y => FR h y ∧ y 469 24 = wt ∧ y 469 25 = us ∧ (∀ x, 0 ≤ x → x < i → y 484 x = h 482 x ∧ y 485 x = h 483 x) ∧ y 482 = h 482 ∧ y 483 = h 483 ∧ y 486 = h 486) (fun r => ∃ h', r = some ((9, 0), (sh, h')) ∧ FR h h' ∧ h' 469 24 = wt ∧ h' 469 25 = us ∧ (∀ i, 0 ≤ i → i < m → h' 484 i = h 482 i ∧ h' 485 i = h 483 i) ∧ h' 482 = h 482 ∧ h' 483 = h 483 ∧ h' 486 = h 486) m ?_ ?_ 0 (q_up (q_up h 469 24 wt) 469 25 us) (by omega) m0 ⟨?_, ?_, ?_, fun x a b => by omega, ?_, ?_, ?_⟩
  · intro i y i0 i1 hI
    obtain ⟨f, b1, b2, b3, b4, b5, b6⟩ := hI
    have hpy := f.ptr hp
    have hmy : y 469 18 = m := by rw [f 469 18 (by omega)]; exact hm
    left
    refine ⟨q_up (q_up y 484 i (h 482 i)) 485 i (h 483 i), ?_, ?_, ?_, ?_, ?_, ?_, ?_, ?_⟩
    · rw [e_X12_tries_45 J hJ]
      simp (disch := omega) only [q_470, q_up_far, q_row_row, q_row_self, q_row_ne, q_up_ne, q_up_eq, q_rowup, ud_eq, ud_ne, q_add_id, q_sub_id, q_mul_id, q_w_eq, q_rem_n, q_div_n, ↓reduceIte, leT, leF, ltT, ltF, eqT, eqF, true_or, or_true, false_or, or_false, true_and, and_true, false_and, and_false, or_self, and_self, Option.bind_some, hmy, b4, b5, hpy.m20, hpy.m21, hpy.m22, hpy.m23, hs.k482, hs.k483, hs.k484, hs.k485]
    · intro x z hn
      rw [q_up_ne (by omega), q_up_ne (by omega)]; exact f x z hn
    · rw [q_up_ne (by omega), q_up_ne (by omega)]; exact b1
    · rw [q_up_ne (by omega), q_up_ne (by omega)]; exact b2
    · intro x x0 x1
      by_cases e : x = i
      · rw [e, q_up_ne (by omega), q_up_self, q_up_self]; exact ⟨rfl, rfl⟩
      · rw [q_up_ne (by omega), q_up_ne (by omega), q_up_ne (by omega), q_up_ne (by omega)]; exact b3 x x0 (by omega)
    · rw [q_up_far (by decide), q_up_far (by decide)]; exact b4
    · rw [q_up_far (by decide), q_up_far (by decide)]; exact b5
    · rw [q_up_far (by decide), q_up_far (by decide)]; exact b6
  · intro y hI
    obtain ⟨f, b1, b2, b3, b4, b5, b6⟩ := hI
    have hmy : y 469 18 = m := by rw [f 469 18 (by omega)]; exact hm
    refine ⟨y, ?_, f, b1, b2, b3, b4, b5, b6⟩
    show q_L (310 + J) 45 [(22, 469), (0, k), (0, wt), (0, us), (0, m), (9, 0), (9, 0), (9, 0)] [] (sh, y) = _
    rw [e_X12_tries_45 J hJ]
    simp (disch := omega) only [q_470, q_up_far, q_row_row, q_row_self, q_row_ne, q_up_ne, q_up_eq, q_rowup, ud_eq, ud_ne, q_add_id, q_sub_id, q_mul_id, q_w_eq, q_rem_n, q_div_n, ↓reduceIte, leT, leF, ltT, ltF, eqT, eqF, true_or, or_true, false_or, or_false, true_and, and_true, false_and, and_false, or_self, and_self, Option.bind_some, hmy, e_X12_tries_88 J hJ]
  · intro x y hn
    rw [q_up_ne (by omega), q_up_ne (by omega)]
  · rw [q_up_ne (by omega), q_up_self]
  · rw [q_up_self]
  · rw [q_up_far (by decide), q_up_far (by decide)]
  · rw [q_up_far (by decide), q_up_far (by decide)]
  · rw [q_up_far (by decide), q_up_far (by decide)]
theorem r_try {sh : Int × (Int → Nat × Int)} {m : Int} {G A W : Int → Int} (hs : Sh sh) (wf : WF G) (lk : LK G m A) (hW : ∀ i, 0 ≤ i → i < m → W i = weightF G (A i) (G (466 + A i))) :
    ∀ (j J : Nat) (k wt us : Int) (F on fr : Int → Int) (B : Int × Int × (Int → Int) × (Int → Int)) (h : Int → Int → Int), J ≤ 6 → j < J → 0 ≤ k → k + j = m → PR h G m A → 0 ≤ wt → wt ≤ 3000 * k → 0 ≤ us → us ≤ k → (∀ d, 0 ≤ d → d < G 1 → G 0 ≤ F d ∧ F d ≤ 20003) → SR h G m k F on fr B → ∃ h', q_Cc (310 + J) [(22, 469), (0, k), (0, wt), (0, us)] (sh, h) = some ((9, 0), (sh, h')) ∧ FR h h' ∧ SR h' G m k F on fr (sr (G 1).toNat (ftP G A) (ntP G A) W j k wt us F on fr B) := by
  have wr := wf.1
  have u0 := wr.hour; have u1 := wr.nd; have u3 := wr.na
  obtain ⟨m0, m5, la, -⟩ := id lk
  intro j
  induction j with
  | zero =>
    intro J k wt us F on fr B h hJ jJ k0 km pc wt0 wt1 us0 us1 hF sc
    have ek : k = m := by omega
    have hp := pc.1
    have hm := pc.2.2.1
    obtain ⟨s1, s2, s3, s4, s5⟩ := id sc
    by_cases z : B.1 < wt ∨ (wt = B.1 ∧ us < B.2.1)
    · obtain ⟨h', q1, q2, q3, q4, q5, q6, q7, q8⟩ := r_keepRow (sh := sh) (k := k) (wt := wt) (us := us) J hJ hs hp m0 m5 hm
      refine ⟨h', ?_, q2, ?_⟩
      · rw [← q1, c_X12_tries J hJ, e_X12_tries_0 J hJ, hm, s3, s4, if_pos ek]
        by_cases z1 : B.1 < wt
        · rw [if_pos z1]
        · rw [if_neg z1, if_pos (by omega), if_pos (by omega)]
      · have es : sr (G 1).toNat (ftP G A) (ntP G A) W 0 k wt us F on fr B = (wt, us, on, fr) := by
          unfold sr
          rw [if_pos z]
        rw [es]
        unfold SR
        rw [q6, q7, q8]
        refine ⟨s1, s2, q3, q4, fun _ i i0 i1 => ?_⟩
        rw [(q5 i i0 i1).1, (q5 i i0 i1).2]
        exact s1 i i0 (by omega)
    · have es : sr (G 1).toNat (ftP G A) (ntP G A) W 0 k wt us F on fr B = B := by
        unfold sr
        rw [if_neg z]
      refine ⟨h, ?_, FR.refl h, ?_⟩
      · rw [c_X12_tries J hJ, e_X12_tries_0 J hJ, hm, s3, s4, if_pos ek, if_neg (by omega)]
        by_cases z1 : wt = B.1
        · rw [if_pos z1, if_neg (by omega), e_X12_tries_88 J hJ]
        · rw [if_neg z1, e_X12_tries_88 J hJ]
      · rw [es]; exact sc
  | succ j ih =>
    intro J k wt us F on fr B h hJ jJ k0 km pc wt0 wt1 us0 us1 hF sc
    have hp := pc.1
    have hm := pc.2.2.1
    obtain ⟨s1, s2, s3, s4, s5⟩ := id sc
    have ak := la k k0 (by omega)
    have nk := wr.an (d := A k) (by omega) (by omega)
    have tk := wr.ato (d := A k) (by omega) (by omega)
    have vk := wr.aworth (d := A k) (by omega) (by omega)
    have wk := weightF_b (a := A k) (v := G (466 + A k)) wr ak.1 (by omega) vk.1 vk.2
    rw [← hW k k0 (by omega)] at wk
    have hkA := pc.2.2.2 k k0 (by omega)
    obtain ⟨J', eJ⟩ : ∃ J', J = J' + 1 := ⟨J - 1, by omega⟩
    have e9 : 309 + J = 310 + J' := by omega
    have := lp (fun d (y : (Int → Int → Int) × q_V × q_V) => q_L (310 + J) 100 [(22, 469), (0, k), (0, wt), (0, us), (0, A k), (0, d), y.2.1, y.2.2] [] (sh, y.1)) (fun d y => FR h y.1 ∧ SR y.1 G m k F on fr (fldN (srd (G 1).toNat (ftP G A) (ntP G A) W j k wt us F on fr) d.toNat B)) (fun r => ∃ h', r = some ((9, 0), (sh, h')) ∧ FR h h' ∧ SR h' G m k F on fr (sr (G 1).toNat (ftP G A) (ntP G A) W (j + 1) k wt us F on fr B)) (G 1) ?_ ?_ 0 (h, (9, 0), (9, 0)) (by omega) u1.1 ⟨FR.refl h, sc⟩
    · obtain ⟨h', q1, q2⟩ := this
      refine ⟨h', ?_, q2⟩
      have q1 : q_L (310 + J) 100 [(22, 469), (0, k), (0, wt), (0, us), (0, A k), (0, 0), (9, 0), (9, 0)] [] (sh, h) = some ((9, 0), (sh, h')) := q1
      simp (disch := omega) only [q_470, q_up_far, q_row_row, q_row_self, q_row_ne, q_up_ne, q_up_eq, q_rowup, ud_eq, ud_ne, q_add_id, q_sub_id, q_mul_id, q_w_eq, q_rem_n, q_div_n, ↓reduceIte, leT, leF, ltT, ltF, eqT, eqF, true_or, or_true, false_or, or_false, true_and, and_true, false_and, and_false, or_self, and_self, Option.bind_some, q1, hm, hkA, hp.m19, hs.k481, c_X12_tries J hJ, e_X12_tries_0 J hJ]
    · intro d y d0 d1 hI
      obtain ⟨g, x6, x7⟩ := y
      obtain ⟨f1, sg⟩ := hI
      have f1 : FR h g := f1
      have pg := pc.fr f1
      obtain ⟨hpg, hG, hmg, hag⟩ := id pg
      have hag := hag k k0 (by omega)
      have sg : SR g G m k F on fr (fldN (srd (G 1).toNat (ftP G A) (ntP G A) W j k wt us F on fr) d.toNat B) := sg
      have fs := fldN_succ (srd (G 1).toNat (ftP G A) (ntP G A) W j k wt us F on fr) d0 B
      obtain ⟨Bd, eB⟩ : ∃ Bd, fldN (srd (G 1).toNat (ftP G A) (ntP G A) W j k wt us F on fr) d.toNat B = Bd := ⟨_, rfl⟩
      rw [eB] at sg fs
      obtain ⟨t1, t2, t3, t4, t5⟩ := id sg
      obtain ⟨fd1, fd2⟩ := hF d d0 d1
      have t2d := t2 d d0 d1
      have ks := r_fits (sh := sh) (F := F) hpg.m0 hpg.m26 hs.k470 hs.k486 hG wr ak.1 (by omega) d0 (by omega) t2d (by omega) fd2
      obtain ⟨s, es⟩ : ∃ s, ft G F (A k) d = s := ⟨_, rfl⟩
      rw [es] at ks
      have tu := wr.turn (d := d) d0 (by omega)
      have sb := ft_b (G := G) (F := F) (a := A k) (d := d) wr (by omega)
      rw [es] at sb
      left
      by_cases z : s < 0
      · refine ⟨(g, (0, s), x7), ?_, f1, ?_⟩
        · show q_L (310 + J) 100 [(22, 469), (0, k), (0, wt), (0, us), (0, A k), (0, d), x6, x7] [] (sh, g) = q_L (310 + J) 100 [(22, 469), (0, k), (0, wt), (0, us), (0, A k), (0, d + 1), (0, s), x7] [] (sh, g)
          rw [e_X12_tries_100 J hJ]
          simp (disch := omega) only [q_470, q_up_far, q_row_row, q_row_self, q_row_ne, q_up_ne, q_up_eq, q_rowup, ud_eq, ud_ne, q_add_id, q_sub_id, q_mul_id, q_w_eq, q_rem_n, q_div_n, ↓reduceIte, leT, leF, ltT, ltF, eqT, eqF, true_or, or_true, false_or, or_false, true_and, and_true, false_and, and_false, or_self, and_self, Option.bind_some, ks, hG, hpg.m0, hs.k470, e_X12_tries_119 J hJ, e_X12_tries_213 J hJ]
        · show SR g G m k F on fr (fldN (srd (G 1).toNat (ftP G A) (ntP G A) W j k wt us F on fr) (d + 1).toNat B)
          rw [fs]
          unfold srd
          have : ftP G A F k d < 0 := by show ft G F (A k) d < 0; rw [es]; exact z
          rw [if_pos this]
          exact sg
      · obtain ⟨g1, eg⟩ : ∃ g1, q_up (q_up (q_up g 482 k d) 483 k s) 486 d (s + G (424 + A k) + G (64 + d)) = g1 := ⟨_, rfl⟩
        have f2 : FR g g1 := fun x y hn => by rw [← eg, q_up_ne (by omega), q_up_ne (by omega), q_up_ne (by omega)]
        have pg1 := pg.fr f2
        have kw := r_weightOf (sh := sh) (h := g1) (a := A k) pg1.1.m0 hs.k470 pg1.2.1 wr ak.1 (by omega)
        rw [← hW k k0 (by omega)] at kw
        have sg1 : SR g1 G m (k + 1) (ud F d (s + G (424 + A k) + G (64 + d))) (ud on k d) (ud fr k s) Bd := by
          refine ⟨?_, ?_, ?_, ?_, ?_⟩
          · intro i i0 i1
            rw [← eg]
            by_cases e : i = k
            · subst e
              rw [ud_self, ud_self, q_up_ne (by omega), q_up_ne (by omega), q_up_self, q_up_ne (by omega), q_up_self]
              exact ⟨rfl, rfl⟩
            · rw [ud_ne e, ud_ne e, q_up_ne (by omega), q_up_ne (by omega), q_up_ne (by omega), q_up_ne (by omega), q_up_ne (by omega), q_up_ne (by omega)]
              exact t1 i i0 (by omega)
          · intro x x0 x1
            rw [← eg]
            by_cases e : x = d
            · rw [e, q_up_self, ud_self]
            · rw [ud_ne e, q_up_ne (by omega), q_up_ne (by omega), q_up_ne (by omega)]
              exact t2 x x0 x1
          · rw [← eg, q_up_ne (by omega), q_up_ne (by omega), q_up_ne (by omega)]; exact t3
          · rw [← eg, q_up_ne (by omega), q_up_ne (by omega), q_up_ne (by omega)]; exact t4
          · intro hb i i0 i1
            rw [← eg, q_up_ne (by omega), q_up_ne (by omega), q_up_ne (by omega), q_up_ne (by omega), q_up_ne (by omega), q_up_ne (by omega)]
            exact t5 hb i i0 i1
        obtain ⟨g2, c1, f3, sg2⟩ := ih J' (k + 1) (wt + W k) (us + 1) (ud F d (s + G (424 + A k) + G (64 + d))) (ud on k d) (ud fr k s) Bd g1 (by omega) (by omega) (by omega) (by omega) pg1 (by omega) (by omega) (by omega) (by omega) (by
          intro x x0 x1
          by_cases e : x = d
          · rw [e, ud_self]; omega
          · rw [ud_ne e]; exact hF x x0 x1) sg1
        have f4 : FR h g2 := (f1.trans f2).trans f3
        have pg2 := pc.fr f4
        have hpg2 := pg2.1
        have f5 : FR g2 (q_up g2 486 d (F d)) := fun x y hn => by rw [q_up_ne (by omega)]
        refine ⟨(q_up g2 486 d (F d), (0, s), (0, F d)), ?_, f4.trans f5, ?_⟩
        · show q_L (310 + J) 100 [(22, 469), (0, k), (0, wt), (0, us), (0, A k), (0, d), x6, x7] [] (sh, g) = q_L (310 + J) 100 [(22, 469), (0, k), (0, wt), (0, us), (0, A k), (0, d + 1), (0, s), (0, F d)] [] (sh, q_up g2 486 d (F d))
          clear ih sg1 sg2 f1 f2 f3 f4 f5 t1 t2 t3 t4 t5 sg pg pg1 pg2 pc s1 s2 s3 s4 s5 sc hF la hW
          rw [e_X12_tries_100 J hJ]
          simp (disch := omega) only [q_470, q_up_far, q_row_row, q_row_self, q_row_ne, q_up_ne, q_up_eq, q_rowup, ud_eq, ud_ne, q_add_id, q_sub_id, q_mul_id, q_w_eq, q_rem_n, q_div_n, ↓reduceIte, leT, leF, ltT, ltF, eqT, eqF, true_or, or_true, false_or, or_false, true_and, and_true, false_and, and_false, or_self, and_self, Option.bind_some, ks, hG, hpg.m0, hpg.m20, hpg.m21, hpg.m26, hs.k470, hs.k482, hs.k483, hs.k486, t2d, e_X12_tries_119 J hJ]
          rw [eg, kw]
          simp (disch := omega) only [q_470, q_up_far, q_row_row, q_row_self, q_row_ne, q_up_ne, q_up_eq, q_rowup, ud_eq, ud_ne, q_add_id, q_sub_id, q_mul_id, q_w_eq, q_rem_n, q_div_n, ↓reduceIte, leT, leF, ltT, ltF, eqT, eqF, true_or, or_true, false_or, or_false, true_and, and_true, false_and, and_false, or_self, and_self, Option.bind_some, e_X12_tries_197 J hJ]
          rw [e9, c1]
          simp (disch := omega) only [q_470, q_up_far, q_row_row, q_row_self, q_row_ne, q_up_ne, q_up_eq, q_rowup, ud_eq, ud_ne, q_add_id, q_sub_id, q_mul_id, q_w_eq, q_rem_n, q_div_n, ↓reduceIte, leT, leF, ltT, ltF, eqT, eqF, true_or, or_true, false_or, or_false, true_and, and_true, false_and, and_false, or_self, and_self, Option.bind_some, e_X12_tries_204 J hJ, e_X12_tries_213 J hJ, hpg2.m26, hs.k486]
        · show SR (q_up g2 486 d (F d)) G m k F on fr (fldN (srd (G 1).toNat (ftP G A) (ntP G A) W j k wt us F on fr) (d + 1).toNat B)
          have eq : fldN (srd (G 1).toNat (ftP G A) (ntP G A) W j k wt us F on fr) (d + 1).toNat B = sr (G 1).toNat (ftP G A) (ntP G A) W j (k + 1) (wt + W k) (us + 1) (ud F d (s + G (424 + A k) + G (64 + d))) (ud on k d) (ud fr k s) Bd := by
            rw [fs]
            unfold srd
            have e1 : ftP G A F k d = s := es
            have e2 : s + ntP G A k d = s + G (424 + A k) + G (64 + d) := by show s + (G (424 + A k) + G (64 + d)) = _; omega
            rw [e1, if_neg z, e2]
          rw [eq]
          obtain ⟨v1, v2, v3, v4, v5⟩ := sg2
          refine ⟨?_, ?_, ?_, ?_, ?_⟩
          · intro i i0 i1
            rw [q_up_ne (by omega), q_up_ne (by omega)]
            have := v1 i i0 (by omega)
            rw [ud_ne (by omega), ud_ne (by omega)] at this
            exact this
          · intro x x0 x1
            by_cases e : x = d
            · rw [e, q_up_self]
            · rw [q_up_ne (by omega)]
              have := v2 x x0 x1
              rw [ud_ne e] at this
              exact this
          · rw [q_up_ne (by omega)]; exact v3
          · rw [q_up_ne (by omega)]; exact v4
          · intro hb i i0 i1
            rw [q_up_ne (by omega), q_up_ne (by omega)]
            exact v5 hb i i0 i1
    · intro y hI
      obtain ⟨g, x6, x7⟩ := y
      obtain ⟨f1, sg⟩ := hI
      have f1 : FR h g := f1
      have pg := pc.fr f1
      obtain ⟨hpg, hG, hmg, -⟩ := id pg
      have sg : SR g G m k F on fr (fldN (srd (G 1).toNat (ftP G A) (ntP G A) W j k wt us F on fr) (G 1).toNat B) := sg
      obtain ⟨Bd, eB⟩ : ∃ Bd, fldN (srd (G 1).toNat (ftP G A) (ntP G A) W j k wt us F on fr) (G 1).toNat B = Bd := ⟨_, rfl⟩
      rw [eB] at sg
      obtain ⟨t1, t2, t3, t4, t5⟩ := id sg
      obtain ⟨g1, eg⟩ : ∃ g1, q_up (q_up g 482 k (-1)) 483 k (-1) = g1 := ⟨_, rfl⟩
      have f2 : FR g g1 := fun x y hn => by rw [← eg, q_up_ne (by omega), q_up_ne (by omega)]
      have pg1 := pg.fr f2
      have sg1 : SR g1 G m (k + 1) F (ud on k (-1)) (ud fr k (-1)) Bd := by
        refine ⟨?_, ?_, ?_, ?_, ?_⟩
        · intro i i0 i1
          rw [← eg]
          by_cases e : i = k
          · subst e
            rw [ud_self, ud_self, q_up_ne (by omega), q_up_self, q_up_self]
            exact ⟨rfl, rfl⟩
          · rw [ud_ne e, ud_ne e, q_up_ne (by omega), q_up_ne (by omega), q_up_ne (by omega), q_up_ne (by omega)]
            exact t1 i i0 (by omega)
        · intro x x0 x1
          rw [← eg, q_up_ne (by omega), q_up_ne (by omega)]
          exact t2 x x0 x1
        · rw [← eg, q_up_ne (by omega), q_up_ne (by omega)]; exact t3
        · rw [← eg, q_up_ne (by omega), q_up_ne (by omega)]; exact t4
        · intro hb i i0 i1
          rw [← eg, q_up_ne (by omega), q_up_ne (by omega), q_up_ne (by omega), q_up_ne (by omega)]
          exact t5 hb i i0 i1
      obtain ⟨g2, c1, f3, sg2⟩ := ih J' (k + 1) wt us F (ud on k (-1)) (ud fr k (-1)) Bd g1 (by omega) (by omega) (by omega) (by omega) pg1 (by omega) (by omega) (by omega) (by omega) hF sg1
      refine ⟨g2, ?_, (f1.trans f2).trans f3, ?_⟩
      · show q_L (310 + J) 100 [(22, 469), (0, k), (0, wt), (0, us), (0, A k), (0, G 1), x6, x7] [] (sh, g) = _
        clear ih sg1 sg2 f1 f2 f3 t1 t2 t3 t4 t5 sg pg pg1 pc s1 s2 s3 s4 s5 sc hF la hW
        rw [e_X12_tries_100 J hJ]
        simp (disch := omega) only [q_470, q_up_far, q_row_row, q_row_self, q_row_ne, q_up_ne, q_up_eq, q_rowup, ud_eq, ud_ne, q_add_id, q_sub_id, q_mul_id, q_w_eq, q_rem_n, q_div_n, ↓reduceIte, leT, leF, ltT, ltF, eqT, eqF, true_or, or_true, false_or, or_false, true_and, and_true, false_and, and_false, or_self, and_self, Option.bind_some, hG, hpg.m0, hpg.m20, hpg.m21, hs.k470, hs.k482, hs.k483]
        rw [eg, e9, c1]
        simp (disch := omega) only [q_470, q_up_far, q_row_row, q_row_self, q_row_ne, q_up_ne, q_up_eq, q_rowup, ud_eq, ud_ne, q_add_id, q_sub_id, q_mul_id, q_w_eq, q_rem_n, q_div_n, ↓reduceIte, leT, leF, ltT, ltF, eqT, eqF, true_or, or_true, false_or, or_false, true_and, and_true, false_and, and_false, or_self, and_self, Option.bind_some, e_X12_tries_242 J hJ]
      · rw [sr_succ, eB]
        obtain ⟨v1, v2, v3, v4, v5⟩ := sg2
        refine ⟨?_, v2, v3, v4, v5⟩
        intro i i0 i1
        have := v1 i i0 (by omega)
        rw [ud_ne (by omega), ud_ne (by omega)] at this
        exact this
