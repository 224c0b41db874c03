/-! a row of dishes is judged -/
def jdN (G A W N : Int → Int) : Nat → Int × (Int → Int)
  | 0 => (0, frE G)
  | n + 1 => if (jdN G A W N n).1 < 0 then jdN G A W N n else if N n < 0 then jdN G A W N n else if ft G (jdN G A W N n).2 (A n) (N n) < 0 then (-1, (jdN G A W N n).2) else ((jdN G A W N n).1 + W n, ud (jdN G A W N n).2 (N n) (ft G (jdN G A W N n).2 (A n) (N n) + G (424 + A n) + G (64 + N n)))
theorem jdN_succ {G A W N : Int → Int} {k : Int} (k0 : 0 ≤ k) : jdN G A W N (k + 1).toNat = if (jdN G A W N k.toNat).1 < 0 then jdN G A W N k.toNat else if N k < 0 then jdN G A W N k.toNat else if ft G (jdN G A W N k.toNat).2 (A k) (N k) < 0 then (-1, (jdN G A W N k.toNat).2) else ((jdN G A W N k.toNat).1 + W k, ud (jdN G A W N k.toNat).2 (N k) (ft G (jdN G A W N k.toNat).2 (A k) (N k) + G (424 + A k) + G (64 + N k))) := by
  have ei : (k.toNat : Int) = k := Int.toNat_of_nonneg k0
  have es : (k + 1).toNat = k.toNat + 1 := by omega
  rw [es]
  show (if (jdN G A W N k.toNat).1 < 0 then jdN G A W N k.toNat else if N (k.toNat : Int) < 0 then jdN G A W N k.toNat else if ft G (jdN G A W N k.toNat).2 (A (k.toNat : Int)) (N (k.toNat : Int)) < 0 then (-1, (jdN G A W N k.toNat).2) else ((jdN G A W N k.toNat).1 + W (k.toNat : Int), ud (jdN G A W N k.toNat).2 (N (k.toNat : Int)) (ft G (jdN G A W N k.toNat).2 (A (k.toNat : Int)) (N (k.toNat : Int)) + G (424 + A (k.toNat : Int)) + G (64 + N (k.toNat : Int))))) = _
  rw [ei]
theorem jdN_fail {G A W N : Int → Int} (n : Nat) (hf : (jdN G A W N n).1 < 0) : ∀ k : Nat, jdN G A W N (n + k) = jdN G A W N n := by
  intro k
  induction k with
  | zero => rfl
  | succ k ih =>
    show (if (jdN G A W N (n + k)).1 < 0 then jdN G A W N (n + k) else _) = _
    rw [ih, if_pos hf]
theorem jdN_end {G A W N : Int → Int} {k m : Int} (k0 : 0 ≤ k) (km : k ≤ m) (hf : (jdN G A W N k.toNat).1 = -1) : (jdN G A W N m.toNat).1 = -1 := by
  have e := jdN_fail k.toNat (by omega : (jdN G A W N k.toNat).1 < 0) (m.toNat - k.toNat)
  have e2 : k.toNat + (m.toNat - k.toNat) = m.toNat := by omega
  rw [e2] at e
  rw [e]; exact hf
theorem k_weightRow {sh : Int × (Int → Nat × Int)} {h : Int → Int → Int} {w m r : Int} {G A W N : Int → Int} (hs : Sh sh) (iw : isW w) (wf : WF G) (lk : LK G m A) (hW : ∀ i, 0 ≤ i → i < m → 0 ≤ W i ∧ W i ≤ 3000) (hp : Ptr h) (hr : RelW h w G) (lc : LC h m A W) (r0 : 452 ≤ r) (lr : (sh.2 r).2 = 24) (hN : ∀ i, 0 ≤ i → i < m → h r i = N i ∧ -1 ≤ N i ∧ N i < G 1) : ∃ h', q_Cc 49 [(15, 442), (20, w), (30, r)] (sh, h) = some ((0, (jdN G A W N m.toNat).1), (sh, h')) ∧ FP h h' := by
  have wr := wf.1
  have u0 := wr.hour; have u1 := wr.nd; have u3 := wr.na
  have w0 := iw.b
  obtain ⟨m0, m5, la, -⟩ := lk
  obtain ⟨X, q1, hX⟩ := k_findEnds (sh := sh) hs hp iw hr wf
  have f1 : FP h (q_row h 451 X) := fun x y hn => by rw [q_row_ne (by omega)]
  have eb : ∀ d, enN G (G 3).toNat d ≤ 20000 := fun d => (enN_b wf (G 3).toNat (by omega) d).2
  have := lp (fun k (y : (Int → Int → Int) × Int × q_V × q_V) => q_L 49 10 [(15, 442), (20, w), (30, r), (0, y.2.1), (0, k), y.2.2.1, y.2.2.2] [] (sh, y.1)) (fun k y => FP h y.1 ∧ (∀ x, x ≠ 451 → y.1 x = h x) ∧ 0 ≤ y.2.1 ∧ y.2.1 ≤ 3000 * k ∧ (jdN G A W N k.toNat).1 = y.2.1 ∧ ∃ E, (∀ d, 0 ≤ d → d < G 1 → y.1 451 d = E d ∧ E d ≤ 20000) ∧ FE G E = (jdN G A W N k.toNat).2) (fun z => ∃ h', z = some ((0, (jdN G A W N m.toNat).1), (sh, h')) ∧ FP h h') m ?_ ?_ 0 (q_row h 451 X, 0, (9, 0), (9, 0)) (by omega) m0 ⟨f1, fun x hx => q_row_ne hx, Int.le_refl _, by show (0 : Int) ≤ _; omega, rfl, enN G (G 3).toNat, fun d d0 d1 => ⟨by show q_row h 451 X 451 d = _; rw [q_row_self]; exact hX d d0 (by omega), eb d⟩, rfl⟩
  · obtain ⟨h', q2, f2⟩ := this
    refine ⟨h', ?_, f2⟩
    have q2 : q_L 49 10 [(15, 442), (20, w), (30, r), (0, 0), (0, 0), (9, 0), (9, 0)] [] (sh, q_row h 451 X) = some ((0, (jdN G A W N m.toNat).1), (sh, h')) := q2
    rw [c_X5_weightOfRow, e_X5_weightOfRow_0, q1, Option.bind_some]
    show q_L 49 5 [(15, 442), (20, w), (30, r), (9, 0), (9, 0), (9, 0), (9, 0)] [] (sh, q_row h 451 X) = _
    rw [e_X5_weightOfRow_5]
    exact q2
  · intro k y k0 k1 hI
    obtain ⟨g, x, x5, x6⟩ := y
    obtain ⟨f2, fo, x0, x1, ex, E, hE, eF⟩ := hI
    have f2 : FP h g := f2
    have fo : ∀ z, z ≠ 451 → g z = h z := fo
    have x0 : 0 ≤ x := x0
    have x1 : x ≤ 3000 * k := x1
    have ex : (jdN G A W N k.toNat).1 = x := ex
    have hE : ∀ d, 0 ≤ d → d < G 1 → g 451 d = E d ∧ E d ≤ 20000 := hE
    have hpg := f2.ptr hp
    have hrg := f2.rel iw wr hr
    have hm : g 442 0 = m := by rw [fo 442 (by decide)]; exact lc.1
    obtain ⟨n1, n2, n3⟩ := hN k k0 k1
    have n1 : g r k = N k := by rw [fo r (by omega)]; exact n1
    have js := jdN_succ (G := G) (A := A) (W := W) (N := N) k0
    rw [ex, if_neg (by omega)] at js
    by_cases zn : N k < 0
    · rw [if_pos zn] at js
      left
      refine ⟨(g, x, (0, N k), x6), ?_, f2, fo, x0, by show x ≤ 3000 * (k + 1); omega, by rw [js]; exact ex, E, hE, by rw [js]; exact eF⟩
      show q_L 49 10 [(15, 442), (20, w), (30, r), (0, x), (0, k), x5, x6] [] (sh, g) = q_L 49 10 [(15, 442), (20, w), (30, r), (0, x), (0, k + 1), (0, N k), x6] [] (sh, g)
      rw [e_X5_weightOfRow_10]
      simp (disch := omega) only [q_470, q_up_far, q_row_row, q_row_self, q_row_ne, q_up_ne, q_up_eq, q_rowup, ud_eq, ud_ne, q_add_id, q_sub_id, q_mul_id, q_w_eq, q_rem_n, q_div_n, ↓reduceIte, leT, leF, ltT, ltF, eqT, eqF, true_or, or_true, false_or, or_false, true_and, and_true, false_and, and_false, or_self, and_self, Option.bind_some, hm, n1, lr, e_X5_weightOfRow_99]
    · rw [if_neg zn] at js
      have ak := la k k0 k1
      have lck := lc.2 k k0 k1
      have gA : g 443 k = A k := by rw [fo 443 (by decide)]; exact lck.1
      have gW : g 444 k = W k := by rw [fo 444 (by decide)]; exact lck.2
      obtain ⟨ed1, ed2⟩ := hE (N k) (by omega) n3
      have ks := k_startOn (E := E) (sh := sh) hs hpg iw hrg wf k0 (by omega) gA ak.1 ak.2.1 (by omega) n3 ed1 ed2
      have nk := wr.an (d := A k) (by omega) (by omega)
      have tk := wr.ato (d := A k) (by omega) (by omega)
      have wk := hW k k0 k1
      have tu := wr.turn (d := N k) (by omega) (by omega)
      have fb := FE_b (E := E) wf (show 0 ≤ N k by omega) (by omega) ed2
      have sb := ft_b (G := G) (F := FE G E) (a := A k) (d := N k) wr (by omega)
      rw [← eF] at js
      obtain ⟨s, es⟩ : ∃ s, ft G (FE G E) (A k) (N k) = s := ⟨_, rfl⟩
      rw [es] at js ks sb
      by_cases zs : s < 0
      · rw [if_pos zs] at js
        right
        refine ⟨g, ?_, f2⟩
        have e1 : (jdN G A W N m.toNat).1 = -1 := jdN_end (k := k + 1) (by omega) (by omega) (by rw [js])
        rw [e1]
        show q_L 49 10 [(15, 442), (20, w), (30, r), (0, x), (0, k), x5, x6] [] (sh, g) = _
        rw [e_X5_weightOfRow_10]
        simp (disch := omega) only [q_470, q_up_far, q_row_row, q_row_self, q_row_ne, q_up_ne, q_up_eq, q_rowup, ud_eq, ud_ne, q_add_id, q_sub_id, q_mul_id, q_w_eq, q_rem_n, q_div_n, ↓reduceIte, leT, leF, ltT, ltF, eqT, eqF, true_or, or_true, false_or, or_false, true_and, and_true, false_and, and_false, or_self, and_self, Option.bind_some, hm, n1, lr, hrg.nd wr, ks, e_X5_weightOfRow_55]
      · rw [if_neg zs] at js
        left
        have eU := FE_ud (G := G) (E := E) (d := N k) (v := s + G (424 + A k)) (by omega) (by omega)
        refine ⟨(q_up g 451 (N k) (s + G (424 + A k)), x + W k, (0, N k), (0, s)), ?_, f2.trans (fun a b hn => by show q_up g 451 (N k) (s + G (424 + A k)) a b = g a b; rw [q_up_ne (by omega)]), fun z hz => by show q_up g 451 (N k) (s + G (424 + A k)) z = h z; rw [q_up_far hz]; exact fo z hz, by show 0 ≤ x + W k; omega, by show x + W k ≤ 3000 * (k + 1); omega, by rw [js], ud E (N k) (s + G (424 + A k)), ?_, ?_⟩
        · show q_L 49 10 [(15, 442), (20, w), (30, r), (0, x), (0, k), x5, x6] [] (sh, g) = q_L 49 10 [(15, 442), (20, w), (30, r), (0, x + W k), (0, k + 1), (0, N k), (0, s)] [] (sh, q_up g 451 (N k) (s + G (424 + A k)))
          have an := hrg.an wr (A k) ak.1 ak.2.1
          rw [e_X5_weightOfRow_10]
          simp (disch := omega) only [q_470, q_up_far, q_row_row, q_row_self, q_row_ne, q_up_ne, q_up_eq, q_rowup, ud_eq, ud_ne, q_add_id, q_sub_id, q_mul_id, q_w_eq, q_rem_n, q_div_n, ↓reduceIte, leT, leF, ltT, ltF, eqT, eqF, true_or, or_true, false_or, or_false, true_and, and_true, false_and, and_false, or_self, and_self, Option.bind_some, hm, n1, lr, hrg.nd wr, ks, gA, gW, an, hpg.pl3, hpg.pl4, hpg.pl11, hs.k443, hs.k444, hs.k451, hpg.w7 iw, hpg.ask iw, hs.asks iw, e_X5_weightOfRow_55, e_X5_weightOfRow_99]
        · intro d d0 d1
          show q_up g 451 (N k) (s + G (424 + A k)) 451 d = ud E (N k) (s + G (424 + A k)) d ∧ ud E (N k) (s + G (424 + A k)) d ≤ 20000
          by_cases e : d = N k
          · rw [e, q_up_self, ud_self]; exact ⟨rfl, by omega⟩
          · rw [q_up_ne (by omega), ud_ne e]; exact hE d d0 d1
        · rw [js, eU]
  · intro y hI
    obtain ⟨g, x, x5, x6⟩ := y
    obtain ⟨f2, fo, x0, x1, ex, -⟩ := hI
    have hm : g 442 0 = m := by
      have fo : ∀ z, z ≠ 451 → g z = h z := fo
      rw [fo 442 (by decide)]; exact lc.1
    refine ⟨g, ?_, f2⟩
    rw [ex]
    show q_L 49 10 [(15, 442), (20, w), (30, r), (0, x), (0, m), x5, x6] [] (sh, g) = _
    rw [e_X5_weightOfRow_10]
    simp (disch := omega) only [q_470, q_up_far, q_row_row, q_row_self, q_row_ne, q_up_ne, q_up_eq, q_rowup, ud_eq, ud_ne, q_add_id, q_sub_id, q_mul_id, q_w_eq, q_rem_n, q_div_n, ↓reduceIte, leT, leF, ltT, ltF, eqT, eqF, true_or, or_true, false_or, or_false, true_and, and_true, false_and, and_false, or_self, and_self, Option.bind_some, hm, e_X5_weightOfRow_105]
theorem r_weightRow {sh : Int × (Int → Nat × Int)} {h : Int → Int → Int} {m s : Int} {x4 x5 x6 : q_V} {G A N : Int → Int} (hs : Sh sh) (wf : WF G) (lk : LK G m A) (pr : PR h G m A) (s0 : 0 ≤ s) (s1 : s < 4) (hN : ∀ i, 0 ≤ i → i < m → h 477 (24 * s + i) = N i ∧ -1 ≤ N i ∧ N i < G 1) (hF : ∀ d, 0 ≤ d → d < G 1 → h 486 d = frE G d) : ∃ h', q_L 218 111 [(22, 469), (0, s), (0, 0), (0, 0), x4, x5, x6] [] (sh, h) = some ((0, (jdN G A (wtW G A) N m.toNat).1), (sh, h')) ∧ FR h h' := by
  have wr := wf.1
  have u0 := wr.hour; have u1 := wr.nd; have u3 := wr.na
  have hW := wtW_b wr lk
  obtain ⟨m0, m5, la, -⟩ := id lk
  refine lp (fun k (y : (Int → Int → Int) × Int × q_V × q_V × q_V) => q_L 218 111 [(22, 469), (0, s), (0, y.2.1), (0, k), y.2.2.1, y.2.2.2.1, y.2.2.2.2] [] (sh, y.1)) (fun k y => FR h y.1 ∧ 0 ≤ y.2.1 ∧ y.2.1 ≤ 3000 * k ∧ (jdN G A (wtW G A) N k.toNat).1 = y.2.1 ∧ (∀ d, 0 ≤ d → d < G 1 → y.1 486 d = (jdN G A (wtW G A) N k.toNat).2 d ∧ G 0 ≤ y.1 486 d ∧ y.1 486 d ≤ 20003)) (fun z => ∃ h', z = some ((0, (jdN G A (wtW G A) N m.toNat).1), (sh, h')) ∧ FR h h') m ?_ ?_ 0 (h, 0, x4, x5, x6) (by omega) m0 ⟨FR.refl h, Int.le_refl _, by show (0 : Int) ≤ _; omega, rfl, fun d d0 d1 => ?_⟩
  · intro k y k0 k1 hI
    obtain ⟨g, x, y4, y5, y6⟩ := y
    obtain ⟨f2, x0, x1, ex, hE⟩ := hI
    have f2 : FR h g := f2
    have x0 : 0 ≤ x := x0
    have x1 : x ≤ 3000 * k := x1
    have ex : (jdN G A (wtW G A) N k.toNat).1 = x := ex
    have hE : ∀ d, 0 ≤ d → d < G 1 → g 486 d = (jdN G A (wtW G A) N k.toNat).2 d ∧ G 0 ≤ g 486 d ∧ g 486 d ≤ 20003 := hE
    obtain ⟨F, eF⟩ : ∃ F, (jdN G A (wtW G A) N k.toNat).2 = F := ⟨_, rfl⟩
    rw [eF] at hE
    have pg := pr.fr f2
    obtain ⟨hpg, hG, hm, ha⟩ := pg
    have ha := ha k k0 k1
    obtain ⟨n1, n2, n3⟩ := hN k k0 k1
    have n1 : g 477 (24 * s + k) = N k := by rw [f2 477 _ (by omega)]; exact n1
    have js := jdN_succ (G := G) (A := A) (W := wtW G A) (N := N) k0
    rw [ex, eF, if_neg (by omega)] at js
    have ak := la k k0 k1
    by_cases zn : N k < 0
    · rw [if_pos zn] at js
      left
      refine ⟨(g, x, (0, N k), (0, A k), (0, 0)), ?_, f2, x0, by show x ≤ 3000 * (k + 1); omega, by rw [js]; exact ex, by rw [js, eF]; exact hE⟩
      show q_L 218 111 [(22, 469), (0, s), (0, x), (0, k), y4, y5, y6] [] (sh, g) = q_L 218 111 [(22, 469), (0, s), (0, x), (0, k + 1), (0, N k), (0, A k), (0, 0)] [] (sh, g)
      rw [e_X12_judge_111]
      simp (disch := omega) only [q_470, q_up_far, q_row_row, q_row_self, q_row_ne, q_up_ne, q_up_eq, q_rowup, ud_eq, ud_ne, q_add_id, q_sub_id, q_mul_id, q_w_eq, q_rem_n, q_div_n, ↓reduceIte, leT, leF, ltT, ltF, eqT, eqF, true_or, or_true, false_or, or_false, true_and, and_true, false_and, and_false, or_self, and_self, Option.bind_some, hm, n1, ha, hpg.m9, hpg.m19, hs.k477, hs.k481, e_X12_judge_157, e_X12_judge_212]
    · rw [if_neg zn] at js
      obtain ⟨ed1, ed2, ed3⟩ := hE (N k) (by omega) n3
      have ks := r_fits (F := F) (sh := sh) hpg.m0 hpg.m26 hs.k470 hs.k486 hG wr ak.1 (by omega) (show 0 ≤ N k by omega) (by omega) ed1 (by omega) (by omega)
      have nk := wr.an (d := A k) (by omega) (by omega)
      have tk := wr.ato (d := A k) (by omega) (by omega)
      have wk := hW k k0 k1
      have tu := wr.turn (d := N k) (by omega) (by omega)
      have sb := ft_b (G := G) (F := F) (a := A k) (d := N k) wr (by omega)
      obtain ⟨t, es⟩ : ∃ t, ft G F (A k) (N k) = t := ⟨_, rfl⟩
      rw [es] at js ks sb
      by_cases zs : t < 0
      · rw [if_pos zs] at js
        right
        refine ⟨g, ?_, f2⟩
        have e1 : (jdN G A (wtW G A) N m.toNat).1 = -1 := jdN_end (k := k + 1) (by omega) (by omega) (by rw [js])
        rw [e1]
        show q_L 218 111 [(22, 469), (0, s), (0, x), (0, k), y4, y5, y6] [] (sh, g) = _
        rw [e_X12_judge_111]
        simp (disch := omega) only [q_470, q_up_far, q_row_row, q_row_self, q_row_ne, q_up_ne, q_up_eq, q_rowup, ud_eq, ud_ne, q_add_id, q_sub_id, q_mul_id, q_w_eq, q_rem_n, q_div_n, ↓reduceIte, leT, leF, ltT, ltF, eqT, eqF, true_or, or_true, false_or, or_false, true_and, and_true, false_and, and_false, or_self, and_self, Option.bind_some, hm, n1, ha, ks, hpg.m9, hpg.m19, hs.k477, hs.k481, e_X12_judge_157]
      · rw [if_neg zs] at js
        left
        obtain ⟨g1, eg⟩ : ∃ g1, q_up g 486 (N k) (t + G (424 + A k) + G (64 + N k)) = g1 := ⟨_, rfl⟩
        have f3 : FR g g1 := fun a b hn => by rw [← eg, q_up_ne (by omega)]
        have pg1 := (pr.fr f2).fr f3
        have kw := r_weightOf (sh := sh) (h := g1) (a := A k) pg1.1.m0 hs.k470 pg1.2.1 wr ak.1 (by omega)
        have kw : q_Cc 198 [(22, 469), (0, A k)] (sh, g1) = some ((0, wtW G A k), (sh, g1)) := kw
        refine ⟨(g1, x + wtW G A k, (0, N k), (0, A k), (0, t)), ?_, f2.trans f3, by show 0 ≤ x + wtW G A k; omega, by show x + wtW G A k ≤ 3000 * (k + 1); omega, by rw [js], ?_⟩
        · show q_L 218 111 [(22, 469), (0, s), (0, x), (0, k), y4, y5, y6] [] (sh, g) = q_L 218 111 [(22, 469), (0, s), (0, x + wtW G A k), (0, k + 1), (0, N k), (0, A k), (0, t)] [] (sh, g1)
          rw [e_X12_judge_111]
          simp (disch := omega) only [q_470, q_up_far, q_row_row, q_row_self, q_row_ne, q_up_ne, q_up_eq, q_rowup, ud_eq, ud_ne, q_add_id, q_sub_id, q_mul_id, q_w_eq, q_rem_n, q_div_n, ↓reduceIte, leT, leF, ltT, ltF, eqT, eqF, true_or, or_true, false_or, or_false, true_and, and_true, false_and, and_false, or_self, and_self, Option.bind_some, hm, n1, ha, ks, hG, hpg.m0, hpg.m9, hpg.m19, hpg.m26, hs.k470, hs.k477, hs.k481, hs.k486, e_X12_judge_157]
          rw [eg, kw]
          simp (disch := omega) only [q_470, q_up_far, q_row_row, q_row_self, q_row_ne, q_up_ne, q_up_eq, q_rowup, ud_eq, ud_ne, q_add_id, q_sub_id, q_mul_id, q_w_eq, q_rem_n, q_div_n, ↓reduceIte, leT, leF, ltT, ltF, eqT, eqF, true_or, or_true, false_or, or_false, true_and, and_true, false_and, and_false, or_self, and_self, Option.bind_some, e_X12_judge_210, e_X12_judge_212]
        · intro d d0 d1
          rw [js]
          show g1 486 d = ud F (N k) (t + G (424 + A k) + G (64 + N k)) d ∧ G 0 ≤ g1 486 d ∧ g1 486 d ≤ 20003
          rw [← eg]
          by_cases e : d = N k
          · rw [e, q_up_self, ud_self]; exact ⟨rfl, by omega, by omega⟩
          · rw [q_up_ne (by omega), ud_ne e]; exact hE d d0 d1
  · intro y hI
    obtain ⟨g, x, y4, y5, y6⟩ := y
    obtain ⟨f2, x0, x1, ex, -⟩ := hI
    have hm := (pr.fr f2).2.2.1
    refine ⟨g, ?_, f2⟩
    rw [ex]
    show q_L 218 111 [(22, 469), (0, s), (0, x), (0, m), y4, y5, y6] [] (sh, g) = _
    have hm : g 469 18 = m := hm
    rw [e_X12_judge_111]
    simp (disch := omega) only [q_470, q_up_far, q_row_row, q_row_self, q_row_ne, q_up_ne, q_up_eq, q_rowup, ud_eq, ud_ne, q_add_id, q_sub_id, q_mul_id, q_w_eq, q_rem_n, q_div_n, ↓reduceIte, leT, leF, ltT, ltF, eqT, eqF, true_or, or_true, false_or, or_false, true_and, and_true, false_and, and_false, or_self, and_self, Option.bind_some, hm]
  · have fb := frE_b wf d0 (show d < 6 by omega)
    show h 486 d = frE G d ∧ G 0 ≤ h 486 d ∧ h 486 d ≤ 20003
    rw [hF d d0 d1]
    exact ⟨rfl, fb.1, fb.2⟩
