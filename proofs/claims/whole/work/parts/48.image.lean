/-! images -/
theorem WF.congr {G G' : Int → Int} (wf : WF G) (h : ∀ i, 0 ≤ i → i < 1354 → G' i = G i) : WF G' := by
  have u2 := wf.1.nc
  have key : ∀ r ∈ RT, 0 ≤ r.1 ∧ r.2.1 ≤ 1354 := by decide
  refine ⟨?_, wf.2.1.fr wf.1 (fun x hx => h x (by omega) (by omega)), wf.2.2.1.fr wf.1 (fun x hx => h x (by omega) (by omega)), wf.2.2.2.1.fr wf.1 (fun x hx => h x (by omega) (by omega)), wf.2.2.2.2.fr wf.1 (h 2 (by omega) (by omega)) (fun x hx => h x (by omega) (by omega))⟩
  intro r hr j j0 j1
  have := key r hr
  rw [h j (by omega) (by omega)]
  exact wf.1 r hr j j0 j1
theorem RelW.congr {h : Int → Int → Int} {w : Int} {G G' : Int → Int} (hr : RelW h w G) (wr : WFR G) (e : ∀ i, 0 ≤ i → i < 1354 → G' i = G i) : RelW h w G' := by
  have u2 := wr.nc
  refine ⟨?_, ?_, ?_⟩
  · intro i m l
    have hm : 0 ≤ i ∧ i < 1354 := by unfold Mp at m; omega
    rw [e i hm.1 hm.2]
    apply hr.1 i m
    unfold Live at l ⊢
    rw [e 1 (by omega) (by omega), e 2 (by omega) (by omega), e 3 (by omega) (by omega)] at l
    obtain ⟨a1, a2, a3, a4, a5, a6, a7, a8, a9⟩ := l
    refine ⟨a1, a2, a3, a4, ?_, ?_, a7, ?_, a9⟩
    · intro z1 z2; have := a5 z1 z2; clear a1 a2 a3 a4 a5 a6 a7 a8 a9; rw [e _ (by omega) (by omega)] at this; exact this
    · intro z1 z2; have := a6 z1 z2; clear a1 a2 a3 a4 a5 a6 a7 a8 a9; rw [e _ (by omega) (by omega)] at this; exact this
    · intro z1 z2; have := a8 z1 z2; clear a1 a2 a3 a4 a5 a6 a7 a8 a9; rw [e _ (by omega) (by omega)] at this; exact this
  · intro c s c0 c1 s0 s1
    rw [e 2 (by omega) (by omega)] at c1
    rw [e _ (by omega) (by omega)]
    exact hr.2.1 c s c0 c1 s0 s1
  · intro i i0 i1
    rw [e _ (by omega) (by omega)]
    exact hr.2.2 i i0 i1
theorem Inv.img {h h2 : Int → Int → Int} (hi : Inv h) (hp : Ptr h2) (hf : ∀ k j, ¬ Scr k j → (k < 148 ∨ 295 ≤ k) → k ≠ 471 → ¬ (k = 0 ∧ j = 7) → ¬ (k = 469 ∧ j = 3) → h2 k j = h k j) (hI : InvI h2) : Inv h2 := by
  obtain ⟨_, hr, hw, hh, _, iT, iF, iS, iL⟩ := hi
  have fr : ∀ k, ((0 < k ∧ k < 148) ∨ k = 453 ∨ (459 ≤ k ∧ k < 469) ∨ k = 470 ∨ (473 ≤ k ∧ k < 478) ∨ k = 480) → h2 k = h k := by
    intro k a1
    funext j
    exact hf k j (by unfold Scr; omega) (by omega) (by omega) (by omega) (by omega)
  have e5 : h2 469 5 = h 469 5 := hf 469 5 (by unfold Scr; omega) (by omega) (by omega) (by omega) (by omega)
  have e1 : h2 452 1 = h 452 1 := hf 452 1 (by unfold Scr; omega) (by omega) (by omega) (by omega) (by omega)
  refine ⟨hp, ?_, ?_, ?_, hI, ?_, ?_, ?_, ?_⟩
  · rw [fr 470 (by omega)]
    exact hr.frame hw.1 (fun k k0 k1 => fr k (by omega))
  · rw [fr 470 (by omega)]; exact hw
  · rw [fr 470 (by omega)]; exact hh
  · unfold InvT
    rw [e1, e5, fr 453 (by omega), fr 473 (by omega)]
    exact iT
  · intro j j0 j7
    rw [fr 468 (by omega), fr 474 (by omega)]
    exact iF j j0 j7
  · intro s s0 s1
    rw [fr (460 + 2 * s) (by omega), fr (461 + 2 * s) (by omega), fr 475 (by omega), fr 476 (by omega), fr 477 (by omega)]
    exact iS s s0 s1
  · intro j j0 j1
    rw [fr 480 (by omega)]
    exact iL j j0 j1
theorem st_image : Step 148 250 [] := by
  intro sh h hs ho hi
  obtain ⟨w, G, hw1, iw, ew, hG, hp, hr, wf, hh⟩ := hi.opn
  have wr := wf.1
  have u0 := wr.hour; have u1 := wr.nd; have u2 := wr.nc; have u3 := wr.na
  subst hw1
  have ww : W2 148 1 := ⟨Or.inr (Or.inl rfl), Or.inl rfl, by decide⟩
  obtain ⟨g, k1, be⟩ := k_become hs ww hp hr wf
  have rk := hr.become wr be
  have gp := be.2.1
  have fo := be.2.2
  obtain ⟨I, eI⟩ : ∃ I : Int → Int, (fun i => if 0 ≤ i ∧ i < 1354 then q_up g 0 7 1 470 i else q_up g 0 7 1 471 i) = I := ⟨_, rfl⟩
  have kk := r_keeps (sh := sh) (h := q_up g 0 7 1) (a := 471) (b := 470) (by decide) (by decide) hs.k471 hs.k470
  rw [eI] at kk
  have I1 : ∀ i, 0 ≤ i → i < 1354 → I i = G i := fun i i0 i1 => by
    rw [← eI]
    show (if 0 ≤ i ∧ i < 1354 then q_up g 0 7 1 470 i else q_up g 0 7 1 471 i) = G i
    rw [if_pos ⟨i0, i1⟩, q_up_far (by decide), fo 470 (by omega), hG]
  have m0 : g 469 0 = 470 := by rw [fo 469 (by omega)]; exact hp.m0
  have m1 : g 469 1 = 471 := by rw [fo 469 (by omega)]; exact hp.m1
  refine ⟨1, q_up g 0 7 1, q_up (q_row (q_up g 0 7 1) 471 I) 469 3 1, ?_, ?_, hi.img ?_ ?_ ?_, ?_⟩
  · have t1 := hp.t1
    simp (disch := omega) only [q_470, q_up_far, q_row_row, q_row_self, q_row_ne, q_up_ne, q_up_eq, q_rowup, ud_eq, ud_ne, q_add_id, q_sub_id, q_mul_id, q_w_eq, q_rem_n, q_div_n, ↓reduceIte, leT, leF, ltT, ltF, eqT, eqF, true_or, or_true, false_or, or_false, true_and, and_true, false_and, and_false, or_self, and_self, Option.bind_some, ew, t1, k1, c_X11_image, e_X11_image_0, e_X11_image_11]
  · simp (disch := omega) only [q_470, q_up_far, q_row_row, q_row_self, q_row_ne, q_up_ne, q_up_eq, q_rowup, ud_eq, ud_ne, q_add_id, q_sub_id, q_mul_id, q_w_eq, q_rem_n, q_div_n, ↓reduceIte, leT, leF, ltT, ltF, eqT, eqF, true_or, or_true, false_or, or_false, true_and, and_true, false_and, and_false, or_self, and_self, Option.bind_some, m0, m1, kk, c_X12_image, e_X12_image_0, e_X12_image_12]
  · exact ((gp.up (by rfl)).row (fun j => VP_ref (by decide))).up (VP_m (by omega))
  · intro k j hS h1 h2 h3 h4
    rw [q_up_ne (by omega), q_row_ne h2, q_up_ne (by omega), fo k (by omega)]
  · refine ⟨?_, Or.inr ⟨?_, ?_, ?_, ?_⟩⟩
    · rw [q_up_ne (by omega), q_row_ne (by decide), q_up_self, q_up_self]
    · rw [q_up_ne (by omega), q_row_ne (by decide), q_up_self]
    · rw [q_up_far (by decide), q_row_self]
      exact (rk.congr wr I1).frame (wf.congr I1).1 (fun k k0 k1 => by rw [q_up_far (by omega), q_row_ne (by omega), q_up_far (by omega)])
    · rw [q_up_far (by decide), q_row_self]; exact wf.congr I1
    · rw [q_up_far (by decide), q_row_self, I1 0 (by omega) (by omega)]; exact hh
  · intro k hk
    exact ⟨by rw [q_up_far (by omega), q_row_ne (by omega), q_up_far (by omega), fo k (by omega)], by rw [q_up_far (by omega), fo k (by omega)]⟩
theorem st_undo : Step 149 251 [] := by
  intro sh h hs ho hi
  obtain ⟨w, G, hw1, iw, ew, hG, hp, hr, wf, hh⟩ := hi.opn
  have wr := wf.1
  have u0 := wr.hour; have u1 := wr.nd; have u2 := wr.nc; have u3 := wr.na
  obtain ⟨i1, i2⟩ := hi.2.2.2.2.1
  rcases i2 with z | ⟨z, rk, wk, hk⟩
  · have z2 : h 469 3 = 0 := by rw [← i1]; exact z
    refine ⟨-1000004, (q_up h 468 3 (q_add (h 468 3) 1)), q_up (q_up h 468 3 (q_add (h 468 3) 1)) 474 3 (q_add (h 474 3) 1), ?_, ?_, hi.find 3 (by decide) (by decide), fun k hk => ⟨by rw [q_up_far (by omega), q_up_far (by omega)], by rw [q_up_far (by omega)]⟩⟩
    · simp (disch := omega) only [q_470, q_up_far, q_row_row, q_row_self, q_row_ne, q_up_ne, q_up_eq, q_rowup, ud_eq, ud_ne, q_add_id, q_sub_id, q_mul_id, q_w_eq, q_rem_n, q_div_n, ↓reduceIte, leT, leF, ltT, ltF, eqT, eqF, true_or, or_true, false_or, or_false, true_and, and_true, false_and, and_false, or_self, and_self, Option.bind_some, ew, hp.w4 iw, hp.w5 iw, hp.w6 iw, hp.w7 iw, hp.w8 iw, hp.dish iw, hp.craft iw, hp.ask iw, hp.t6, hs.rains iw, hs.dishes iw, hs.crafts iw, hs.asks iw, hs.k468, hr.hour wr, hr.nd wr, hr.nc wr, hr.na wr, k_X11_outside, k_f3 hp.t6 hs.k468, z, c_X11_undo, e_X11_undo_0, e_X11_undo_13, e_X11_undo_25]
    · simp (disch := omega) only [q_470, q_up_far, q_row_row, q_row_self, q_row_ne, q_up_ne, q_up_eq, q_rowup, ud_eq, ud_ne, q_add_id, q_sub_id, q_mul_id, q_w_eq, q_rem_n, q_div_n, ↓reduceIte, leT, leF, ltT, ltF, eqT, eqF, true_or, or_true, false_or, or_false, true_and, and_true, false_and, and_false, or_self, and_self, Option.bind_some, hp.m0, hp.m6, hs.k470, hs.k474, hG, k_X12_in, k_g3 (sh := sh) (h := (q_up h 468 3 (q_add (h 468 3) 1))) (by rw [q_up_far (by decide)]; exact hp.m6) hs.k474, z2, c_X12_undo, e_X12_undo_0, e_X12_undo_13, e_X12_undo_26]
  · subst hw1
    have z2 : h 469 3 = 1 := by rw [← i1]; exact z
    have ww : W2 1 148 := ⟨Or.inl rfl, Or.inr (Or.inl rfl), by decide⟩
    obtain ⟨g, k1, be⟩ := k_become hs ww hp rk wk
    have rn := rk.become wk.1 be
    have gp := be.2.1
    have fo := be.2.2
    have fh := rn.hour wk.1
    have g00 : g 0 0 = 1 := by rw [fo 0 (by omega)]; exact hp.t0
    obtain ⟨J, eJ⟩ : ∃ J : Int → Int, (fun i => if 0 ≤ i ∧ i < 1354 then g 471 i else g 470 i) = J := ⟨_, rfl⟩
    have kk := r_keeps (sh := sh) (h := g) (a := 470) (b := 471) (by decide) (by decide) hs.k470 hs.k471
    rw [eJ] at kk
    have J1 : ∀ i, 0 ≤ i → i < 1354 → J i = h 471 i := fun i i0 i1 => by
      rw [← eJ]
      show (if 0 ≤ i ∧ i < 1354 then g 471 i else g 470 i) = h 471 i
      rw [if_pos ⟨i0, i1⟩, fo 471 (by omega)]
    have J0 := J1 0 (by omega) (by omega)
    have m0 : g 469 0 = 470 := by rw [fo 469 (by omega)]; exact hp.m0
    have m1 : g 469 1 = 471 := by rw [fo 469 (by omega)]; exact hp.m1
    have m3 : g 469 3 = 1 := by rw [fo 469 (by omega)]; exact z2
    refine ⟨h 471 0, g, q_row g 470 J, ?_, ?_, hi.world2 rfl gp ?_ (rn.congr wk.1 J1) (wk.congr J1) (by rw [J0]; exact hk), ?_⟩
    · have t1 := hp.t1
      simp (disch := omega) only [q_470, q_up_far, q_row_row, q_row_self, q_row_ne, q_up_ne, q_up_eq, q_rowup, ud_eq, ud_ne, q_add_id, q_sub_id, q_mul_id, q_w_eq, q_rem_n, q_div_n, ↓reduceIte, leT, leF, ltT, ltF, eqT, eqF, true_or, or_true, false_or, or_false, true_and, and_true, false_and, and_false, or_self, and_self, Option.bind_some, ew, t1, z, k1, g00, fh, c_X11_undo, e_X11_undo_0, e_X11_undo_13, e_X11_undo_25]
    · simp (disch := omega) only [q_470, q_up_far, q_row_row, q_row_self, q_row_ne, q_up_ne, q_up_eq, q_rowup, ud_eq, ud_ne, q_add_id, q_sub_id, q_mul_id, q_w_eq, q_rem_n, q_div_n, ↓reduceIte, leT, leF, ltT, ltF, eqT, eqF, true_or, or_true, false_or, or_false, true_and, and_true, false_and, and_false, or_self, and_self, Option.bind_some, m0, m1, m3, kk, J0, hs.k470, c_X12_undo, e_X12_undo_0, e_X12_undo_13, e_X12_undo_26]
    · intro k j hk2 hS
      rw [fo k (by omega)]
    · intro k hk2
      exact ⟨by rw [q_row_ne (by omega), fo k (by omega)], fo k (by omega)⟩
