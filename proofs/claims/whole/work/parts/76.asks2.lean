theorem st_asks : Step 119 195 [] := by
  intro sh h hs ho hi
  obtain ⟨w, G, hw1, iw, ew, hG, hp, hr, wf, hh⟩ := hi.opn
  have wr := wf.1
  have u0 := wr.hour; have u1 := wr.nd; have u2 := wr.nc; have u3 := wr.na
  obtain ⟨t1, t2, t3, t4⟩ := hi.2.2.2.2.2.1
  have iL := hi.2.2.2.2.2.2.2.2
  obtain ⟨L, eL⟩ : ∃ L, h 452 1 = L := ⟨_, rfl⟩
  obtain ⟨b, eb⟩ : ∃ b, h 453 = b := ⟨_, rfl⟩
  rw [eL] at t1 t2 t3 t4
  rw [eb] at t4
  have tx : TX h b L := ⟨hp.tx0, eL, t2, t3, fun i i0 i1 => ⟨by rw [eb], (t4 i i0 i1).2⟩⟩
  have trg : ∀ H : Int → Int → Int, Ptr H → H 469 5 = h 469 5 → H 473 = h 473 → H 480 = h 480 → TR H b L := by
    intro H hpH e5 e73 e80
    refine ⟨hpH.m4, by rw [e5]; exact t1.symm, hpH.m17, t2, t3, fun i i0 i1 => ⟨by rw [e73]; exact (t4 i i0 i1).1.symm, (t4 i i0 i1).2⟩, fun i i0 i1 => by rw [e80]; exact iL i i0 i1⟩
  obtain ⟨gx, -, -, -, dis⟩ := r_readAll (sh := sh) hs hp hG wr (trg h hp rfl rfl rfl)
  obtain ⟨h1, c1, g1, k1⟩ := k_readAll (sh := sh) (nc := G 2) hs hp u2.1 u2.2 tx
  obtain ⟨f, ef⟩ : ∃ f, (rdAll b L (G 2) 4 0).1 = f := ⟨_, rfl⟩
  obtain ⟨m, em⟩ : ∃ m, (rdAll b L (G 2) 4 0).2 = m := ⟨_, rfl⟩
  have rra : ∀ H : Int → Int → Int, Ptr H → H 469 5 = h 469 5 → H 473 = h 473 → H 480 = h 480 → H 470 = G → ∃ g, q_Cc 194 [(22, 469)] (sh, H) = some ((0, m), (sh, g)) ∧ FH H g ∧ g 469 15 = f ∧ ((f = -1 ∧ RVs g b L (G 2) m) ∨ (0 ≤ f ∧ f ≤ L)) := by
    intro H hpH e5 e73 e80 e70
    have := r_readAll (sh := sh) hs hpH e70 wr (trg H hpH e5 e73 e80)
    rw [ef, em] at this
    exact this
  rw [ef] at c1
  rw [ef, em] at k1 dis
  have hp1 := g1.ptr hp
  have ew1 : h1 0 0 = w := by rw [g1 0 0 (by omega)]; exact ew
  have wb := iw.b
  have hr1 : RelW h1 w G := hr.frame wr (fun k k0 k1 => by funext y; exact g1 k y (by omega))
  have t4p := hp.t4; have t41 := hp1.t4
  have hd : q_Cc 119 [(21, 0)] (sh, h) = q_L 119 14 [(21, 0), (9, 0), (9, 0)] [(0, f)] (sh, h1) := by
    simp (disch := omega) only [q_470, q_up_far, q_row_row, q_row_self, q_row_ne, q_up_ne, q_up_eq, q_rowup, ud_eq, ud_ne, q_add_id, q_sub_id, q_mul_id, q_w_eq, q_rem_n, q_div_n, ↓reduceIte, leT, leF, ltT, ltF, eqT, eqF, true_or, or_true, false_or, or_false, true_and, and_true, false_and, and_false, or_self, and_self, Option.bind_some, ew, hp.w4 iw, hp.w5 iw, hp.w6 iw, hp.w7 iw, hp.w8 iw, hp.dish iw, hp.craft iw, hp.ask iw, hp.t6, hs.rains iw, hs.dishes iw, hs.crafts iw, hs.asks iw, hs.k468, hr.hour wr, hr.nd wr, hr.nc wr, hr.na wr, t4p, c1, c_X11_asks, e_X11_asks_0]
  have fh : ∀ x, x ≠ 452 → (x < 455 ∨ 458 < x) → h1 x = h x := fun x a c => by funext y; exact g1 x y (by omega)
  rcases dis with ⟨fe, -⟩ | ⟨f0, fL⟩
  · subst fe
    obtain ⟨m3, m1, m4, ao, cv⟩ := k1 rfl
    by_cases v1 : 14 < G 3 + m
    · obtain ⟨g, r1, g2, g3, -⟩ := rra (q_up h1 468 1 (q_add (h1 468 1) 1)) (hp1.up (by rfl)) (by rw [q_up_ne (by decide), fh 469 (by decide) (by decide)]) (by rw [q_up_far (by decide), fh 473 (by decide) (by decide)]) (by rw [q_up_far (by decide), fh 480 (by decide) (by decide)]) (by rw [q_up_far (by decide), fh 470 (by decide) (by decide)]; exact hG)
      have hpg : Ptr g := g2.ptr (hp1.up (by rfl))
      have hGg : g 470 = G := by
        rw [← hG]; funext y
        rw [g2 470 y (by omega), q_up_ne (by omega), g1 470 y (by omega)]
      refine ⟨-1000002, q_up h1 468 1 (q_add (h1 468 1) 1), q_up g 474 1 (q_add (g 474 1) 1), ?_, ?_, (hi.find 1 (by decide) (by decide)).scr (hpg.up (by rfl)) ?_, ?_⟩
      · rw [hd]
        have na := hr1.na wr
        have f1 := k_f1 (sh := sh) hp1.t6 hs.k468
        clear cv ao rra trg tx t4 iL k1 fh
        simp (disch := omega) only [q_470, q_up_far, q_row_row, q_row_self, q_row_ne, q_up_ne, q_up_eq, q_rowup, ud_eq, ud_ne, q_add_id, q_sub_id, q_mul_id, q_w_eq, q_rem_n, q_div_n, ↓reduceIte, leT, leF, ltT, ltF, eqT, eqF, true_or, or_true, false_or, or_false, true_and, and_true, false_and, and_false, or_self, and_self, Option.bind_some, t41, ew1, na, m3, f1, e_X11_asks_14, e_X11_asks_57]
      · have f1 := k_g1 (sh := sh) hpg.m6 hs.k474
        have gm0 := hpg.m0
        clear cv ao rra trg tx t4 iL k1 fh
        simp (disch := omega) only [q_470, q_up_far, q_row_row, q_row_self, q_row_ne, q_up_ne, q_up_eq, q_rowup, ud_eq, ud_ne, q_add_id, q_sub_id, q_mul_id, q_w_eq, q_rem_n, q_div_n, ↓reduceIte, leT, leF, ltT, ltF, eqT, eqF, true_or, or_true, false_or, or_false, true_and, and_true, false_and, and_false, or_self, and_self, Option.bind_some, r1, g3, gm0, hGg, hs.k470, f1, c_X12_asks, e_X12_asks_0, e_X12_asks_4, e_X12_asks_43]
      · intro x y hn
        have e4 : g 474 1 = h 474 1 := by rw [g2 474 1 (by omega), q_up_ne (by omega), g1 474 1 (by omega)]
        have e3 : h1 468 1 = h 468 1 := g1 468 1 (by omega)
        by_cases e : x = 474 ∧ y = 1
        · rw [e.1, e.2, q_up_self, q_up_self, e4]
        · rw [q_up_ne (by omega), q_up_ne (by omega), g2 x y (by unfold Scr at hn; omega)]
          by_cases e2 : x = 468 ∧ y = 1
          · rw [e2.1, e2.2, q_up_self, q_up_self, e3]
          · rw [q_up_ne (by omega), q_up_ne (by omega), g1 x y (by unfold Scr at hn; omega)]
      · intro x hx
        exact ⟨by funext y; rw [q_up_ne (by omega), g2 x y (by omega), q_up_ne (by omega), g1 x y (by omega)], by funext y; rw [q_up_ne (by omega), g1 x y (by omega)]⟩
    · obtain ⟨M, eM⟩ : ∃ M : Nat, m = (M : Int) := ⟨m.toNat, by omega⟩
      obtain ⟨V, eV⟩ : ∃ V : Nat → Int → Int, (fun x => (rd1 b L (G 2) (psN b L (G 2) x)).2.2.2) = V := ⟨_, rfl⟩
      have Vx : ∀ x, (rd1 b L (G 2) (psN b L (G 2) x)).2.2.2 = V x := fun x => by rw [← eV]
      have ok := adN_ok (V := V) (m := M) wf (by omega) (fun x hx => by
        obtain ⟨o1, o2, o3⟩ := ao x (by omega)
        rw [← Vx]
        exact rd1_rng t3 o2 o3 o1)
      obtain ⟨h2, c2, hp2, hr2, f2⟩ := k_adds (sh := sh) (w := w) (V := V) (m := M) (x1 := -1) hs hp1 iw ew1 (by omega) hr1 (by omega) (by rw [m3, eM]) (by omega) (fun n hn => ⟨(ok n hn).1, (ok n hn).2.1⟩) (fun x hx i i0 i1 => by rw [← Vx]; exact cv x (by omega) i i0 i1)
      have hp2' : Ptr (q_up h2 452 1 0) := hp2.up (VP_452 (by decide) (by decide))
      have fh2 : ∀ x, 459 ≤ x → (q_up h2 452 1 0) x = h x := fun x hx => by rw [q_up_far (by omega), f2 x (by omega), fh x (by omega) (by omega)]
      obtain ⟨g, r1, g2, g3, dd⟩ := rra (q_up h2 452 1 0) hp2' (by rw [fh2 469 (by decide)]) (fh2 473 (by decide)) (fh2 480 (by decide)) (by rw [fh2 470 (by decide)]; exact hG)
      have rvs : RVs g b L (G 2) m := by
        rcases dd with ⟨-, q⟩ | ⟨q, -⟩
        · exact q
        · omega
      have hpg := g2.ptr hp2'
      have hGg : g 470 = G := by
        rw [← hG]; funext y
        rw [g2 470 y (by omega), fh2 470 (by decide)]
      obtain ⟨k, ek⟩ : ∃ k, q_up g 469 5 0 = k := ⟨_, rfl⟩
      have hpk : Ptr k := by rw [← ek]; exact hpg.up (VP_m (by omega))
      have hGk : k 470 = G := by rw [← ek, q_up_far (by decide)]; exact hGg
      have rloop : q_L 195 51 [(22, 469), (0, m), (0, 0), (9, 0), (9, 0)] [] (sh, k) = some ((0, m), (sh, q_row k 470 (adN G V M))) := by
        have := lp (fun i (y : (Int → Int) × q_V × q_V) => q_L 195 51 [(22, 469), (0, m), (0, i), y.2.1, y.2.2] [] (sh, q_row k 470 y.1)) (fun i y => y.1 = adN G V i.toNat) (fun z => z = some ((0, m), (sh, q_row k 470 (adN G V M)))) m ?_ ?_ 0 (G, (9, 0), (9, 0)) (by omega) (by omega) rfl
        · have this : q_L 195 51 [(22, 469), (0, m), (0, 0), (9, 0), (9, 0)] [] (sh, q_row k 470 G) = some ((0, m), (sh, q_row k 470 (adN G V M))) := this
          rw [← q_row_in hGk] at this
          exact this
        · intro i y i0 i1 hI
          obtain ⟨F, x3, x4⟩ := y
          have hI : F = adN G V i.toNat := hI
          obtain ⟨wi, ci, -⟩ := ok i.toNat (by omega)
          rw [← hI] at wi ci
          have es : (i + 1).toNat = i.toNat + 1 := by omega
          have ei : (i.toNat : Int) = i := Int.toNat_of_nonneg i0
          left
          refine ⟨(adG F (V i.toNat), (0, F 3), (0, 6)), ?_, ?_⟩
          · exact r_adds1 hs hpk.m0 hpk.m16 i0 (by omega) i1 rfl wi.1.na.1 (by omega) (fun j j0 j1 => by
              have := rvs i.toNat (by omega) j j0 j1
              rw [ei] at this
              rw [← ek, q_up_far (by decide), this, Vx])
          · show adG F (V i.toNat) = adN G V (i + 1).toNat
            rw [es, hI]; rfl
        · intro y hI
          obtain ⟨F, x3, x4⟩ := y
          have hI : F = adN G V m.toNat := hI
          have eMn : m.toNat = M := by omega
          rw [eMn] at hI
          show q_L 195 51 [(22, 469), (0, m), (0, m), x3, x4] [] (sh, q_row k 470 F) = _
          rw [e_X12_asks_51, if_neg (by omega), hI]
      obtain ⟨wM, -, -, hM0⟩ := ok M (Nat.le_refl _)
      subst hw1
      have hA : Inv (q_up (q_up h 452 1 0) 469 5 0) := by
        refine hi.tape ((hp.up (VP_452 (by decide) (by decide))).up (VP_m (by omega))) (fun x y _ _ _ n1 n2 => by rw [q_up_ne (by omega), q_up_ne (by omega)]) ?_
        have z1 : (q_up (q_up h 452 1 0) 469 5 0) 452 1 = 0 := by rw [q_up_ne (by decide), q_up_self]
        unfold InvT
        rw [z1, q_up_self]
        exact ⟨rfl, by decide, by decide, fun i a c => by omega⟩
      refine ⟨m, q_up h2 452 1 0, q_row k 470 (adN G V M), ?_, ?_, hA.world (hpk.row (fun j => VP_ref (by decide))) ?_ ?_ ?_ ?_, ?_⟩
      · rw [hd]
        have na := hr1.na wr
        rw [← eM] at c2
        have c2' := c2
        clear cv ao rra trg tx t4 iL k1 fh ok Vx eV fh2 rvs dd f2 eM
        simp (disch := omega) only [q_470, q_up_far, q_row_row, q_row_self, q_row_ne, q_up_ne, q_up_eq, q_rowup, ud_eq, ud_ne, q_add_id, q_sub_id, q_mul_id, q_w_eq, q_rem_n, q_div_n, ↓reduceIte, leT, leF, ltT, ltF, eqT, eqF, true_or, or_true, false_or, or_false, true_and, and_true, false_and, and_false, or_self, and_self, Option.bind_some, t41, ew1, na, m3, c2', e_X11_asks_14]
      · have gm0 := hpg.m0
        clear cv ao rra trg tx t4 iL k1 fh ok Vx eV fh2 rvs dd f2 eM
        simp (disch := omega) only [q_up_ne, q_add_id, ↓reduceIte, leT, leF, ltT, ltF, eqT, eqF, true_or, or_true, false_or, or_false, true_and, and_true, false_and, and_false, or_self, and_self, Option.bind_some, r1, g3, gm0, hGg, hs.k470, ek, rloop, c_X12_asks, e_X12_asks_0, e_X12_asks_4]
      · intro x y hx h4 hn
        rw [q_row_ne h4, ← ek]
        by_cases e1 : x = 469 ∧ y = 5
        · rw [e1.1, e1.2, q_up_self, q_up_self]
        · rw [q_up_ne (by omega), q_up_ne (by omega), g2 x y (by unfold Scr at hn; omega)]
          by_cases e2 : x = 452 ∧ y = 1
          · rw [e2.1, e2.2, q_up_self, q_up_self]
          · rw [q_up_ne (by omega), q_up_ne (by omega), f2 x (by omega), g1 x y (by unfold Scr at hn; omega)]
      · rw [q_row_self]
        refine hr2.frame wM.1 (fun x x0 x1 => ?_)
        rw [q_row_ne (by omega), ← ek, q_up_far (by omega)]
        funext y
        rw [g2 x y (by omega), q_up_ne (by omega)]
      · rw [q_row_self]; exact wM
      · rw [q_row_self, hM0]; exact hh
      · intro x hx
        refine ⟨?_, by funext y; rw [q_up_ne (by omega), f2 x (by omega), g1 x y (by omega)]⟩
        rw [q_row_ne (by omega), ← ek, q_up_far (by omega)]
        funext y
        rw [g2 x y (by omega), q_up_ne (by omega), f2 x (by omega), g1 x y (by omega)]
  · have hpc : Ptr (q_up h1 452 1 0) := hp1.up (VP_452 (by decide) (by decide))
    have fh2 : ∀ x, 459 ≤ x → (q_up h1 452 1 0) x = h x := fun x hx => by rw [q_up_far (by omega), fh x (by omega) (by omega)]
    obtain ⟨g, r1, g2, g3, -⟩ := rra (q_up h1 452 1 0) hpc (by rw [fh2 469 (by decide)]) (fh2 473 (by decide)) (fh2 480 (by decide)) (by rw [fh2 470 (by decide)]; exact hG)
    have hpg := g2.ptr hpc
    refine ⟨-1 - f, q_up h1 452 1 0, q_up g 469 5 0, ?_, ?_, hi.tape (hpg.up (VP_m (by omega))) ?_ ?_, ?_⟩
    · rw [hd]
      clear rra trg tx t4 iL k1 fh fh2
      simp (disch := omega) only [q_470, q_up_far, q_row_row, q_row_self, q_row_ne, q_up_ne, q_up_eq, q_rowup, ud_eq, ud_ne, q_add_id, q_sub_id, q_mul_id, q_w_eq, q_rem_n, q_div_n, ↓reduceIte, leT, leF, ltT, ltF, eqT, eqF, true_or, or_true, false_or, or_false, true_and, and_true, false_and, and_false, or_self, and_self, Option.bind_some, t41, e_X11_asks_14, e_X11_asks_26, c_X9_clear, e_X9_clear_0]
    · clear rra trg tx t4 iL k1 fh fh2
      simp (disch := omega) only [q_470, q_up_far, q_row_row, q_row_self, q_row_ne, q_up_ne, q_up_eq, q_rowup, ud_eq, ud_ne, q_add_id, q_sub_id, q_mul_id, q_w_eq, q_rem_n, q_div_n, ↓reduceIte, leT, leF, ltT, ltF, eqT, eqF, true_or, or_true, false_or, or_false, true_and, and_true, false_and, and_false, or_self, and_self, Option.bind_some, r1, g3, c_X12_asks, e_X12_asks_0, e_X12_asks_4]
    · intro x y hn n1 n2 n3 n4
      rw [q_up_ne (by omega), g2 x y (by unfold Scr at hn; omega), q_up_ne (by omega), g1 x y (by unfold Scr at hn; omega)]
    · have z1 : (q_up g 469 5 0) 452 1 = 0 := by rw [q_up_ne (by decide), g2 452 1 (by omega), q_up_self]
      unfold InvT
      rw [z1, q_up_self]
      exact ⟨rfl, by decide, by decide, fun i a c => by omega⟩
    · intro x hx
      exact ⟨by funext y; rw [q_up_ne (by omega), g2 x y (by omega), q_up_ne (by omega), g1 x y (by omega)], by funext y; rw [q_up_ne (by omega), g1 x y (by omega)]⟩
