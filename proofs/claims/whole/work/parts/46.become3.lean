/-- a world's slots that bear numbers: n dishes, m crafts, k askings -/
def WC (n m k p q : Int) : Prop := (p = 0 ∧ 0 ≤ q ∧ q < 4) ∨ (p = 1 ∧ 0 ≤ q ∧ q < 42) ∨ ((7 ≤ p ∧ p < 7 + n) ∧ 0 ≤ q ∧ q < 4) ∨ (∃ c, 0 ≤ c ∧ c < m ∧ DC c p q) ∨ ((133 ≤ p ∧ p < 133 + k) ∧ 0 ≤ q ∧ q < 9)
theorem k_become {sh : Int × (Int → Nat × Int)} {h : Int → Int → Int} {w v : Int} {G : Int → Int} (hs : Sh sh) (ww : W2 w v) (hp : Ptr h) (hr : RelW h v G) (wf : WF G) : ∃ h', q_Cc 90 [(20, w), (20, v)] (sh, h) = some ((9, 0), (sh, h')) ∧ BE h h' w v (fun p q => WC (G 1) (G 2) (G 3) p q ∨ (p = 5 ∧ q = 1) ∨ (p = 6 ∧ 0 ≤ q ∧ q < 64)) := by
  have iw := ww.1
  have iv := ww.2.1
  have w0 := iw.b
  have v0 := iv.b
  have u1 := wf.1.nd
  have u2 := wf.1.nc
  have u3 := wf.1.na
  have d0 := ww.far (r := 0) (by decide) (by decide)
  have d1 : v + 147 ≤ w ∨ w + 147 ≤ v := by have := ww.far (r := 146) (by decide) (by decide); omega
  have be : BE h h w v (fun _ _ => False) := ⟨fun _ _ hf => hf.elim, hp, fun _ _ => rfl⟩
  obtain ⟨h1, e1⟩ : ∃ h1, q_cp (q_up (q_up (q_up (q_up h w 0 (h v 0)) w 1 (h v 1)) w 2 (h v 2)) w 3 (h v 3)) (v + 1) 0 (w + 1) 0 42 = h1 := ⟨_, rfl⟩
  have b1 : BE h h1 w v (WC 0 0 0) := by
    rw [← e1]
    refine (((((be.up 0 (by decide) (by decide) (by omega) (VP_w0 iw (by decide)) (by rw [Int.add_zero])).up 0 (by decide) (by decide) (by omega) (VP_w0 iw (by decide)) (by rw [Int.add_zero])).up 0 (by decide) (by decide) (by omega) (VP_w0 iw (by decide)) (by rw [Int.add_zero])).up 0 (by decide) (by decide) (by omega) (VP_w0 iw (by decide)) (by rw [Int.add_zero])).cp ww 1 42 (by decide) (by decide) (by omega) (by omega) (fun j => VP_r iw (by omega))).mono ?_
    intro p q hc
    unfold WC at hc
    rcases hc with ⟨e, q0, q1⟩ | z | z | ⟨c, c0, c1, _⟩ | z
    · have : q = 0 ∨ q = 1 ∨ q = 2 ∨ q = 3 := by omega
      rcases this with z | z | z | z
      · exact Or.inl (Or.inl (Or.inl (Or.inl (Or.inr ⟨e, z⟩))))
      · exact Or.inl (Or.inl (Or.inl (Or.inr ⟨e, z⟩)))
      · exact Or.inl (Or.inl (Or.inr ⟨e, z⟩))
      · exact Or.inl (Or.inr ⟨e, z⟩)
    · exact Or.inr z
    · omega
    · omega
    · omega
  have r1 : q_Cc 90 [(20, w), (20, v)] (sh, h) = q_L 90 52 [(20, w), (20, v), (0, 0)] [] (sh, h1) := by
    rw [← e1, c_X10_become, e_X10_become_0]
    have f : ∀ (g : Int → Int → Int) (j x : Int), q_up g w j x v = g v := fun g j x => q_up_far (by omega)
    simp only [f]
    have p4 : q_up (q_up (q_up (q_up h w 0 (h v 0)) w 1 (h v 1)) w 2 (h v 2)) w 3 (h v 3) w 4 = w + 1 := by simp (disch := omega) only [q_up_ne, q_up_eq]; exact hp.w4 iw
    simp only [hp.w4 iv, p4, hs.rains iw, hs.rains iv]
    simp (disch := omega) only [q_470, q_up_far, q_row_row, q_row_self, q_row_ne, q_up_ne, q_up_eq, q_rowup, ud_eq, ud_ne, q_add_id, q_sub_id, q_mul_id, q_w_eq, q_rem_n, q_div_n, ↓reduceIte, leT, leF, ltT, ltF, eqT, eqF, true_or, or_true, false_or, or_false, true_and, and_true, false_and, and_false, or_self, and_self, Option.bind_some, e_X10_become_50]
  -- what the counts are on the way
  have cnt : ∀ (g : Int → Int → Int) (a b c : Int), BE h g w v (WC a b c) → g w 1 = G 1 ∧ g w 2 = G 2 ∧ g w 3 = G 3 := by
    intro g a b c bg
    have k1 := bg.1 0 1 (Or.inl ⟨rfl, by decide, by decide⟩)
    have k2 := bg.1 0 2 (Or.inl ⟨rfl, by decide, by decide⟩)
    have k3 := bg.1 0 3 (Or.inl ⟨rfl, by decide, by decide⟩)
    rw [Int.add_zero, Int.add_zero] at k1 k2 k3
    exact ⟨by rw [k1]; exact hr.nd wf.1, by rw [k2]; exact hr.nc wf.1, by rw [k3]; exact hr.na wf.1⟩
  -- the askings, then the search
  have loopA : ∀ g, BE h g w v (WC (G 1) (G 2) 0) → ∃ h', q_L 90 114 [(20, w), (20, v), (0, 0)] [] (sh, g) = some ((9, 0), (sh, h')) ∧ BE h h' w v (fun p q => WC (G 1) (G 2) (G 3) p q ∨ (p = 5 ∧ q = 1) ∨ (p = 6 ∧ 0 ≤ q ∧ q < 64)) := by
    intro g bg
    refine lp (fun a (g : Int → Int → Int) => q_L 90 114 [(20, w), (20, v), (0, a)] [] (sh, g)) (fun a g => BE h g w v (WC (G 1) (G 2) a)) (fun r => ∃ h', r = some ((9, 0), (sh, h')) ∧ BE h h' w v (fun p q => WC (G 1) (G 2) (G 3) p q ∨ (p = 5 ∧ q = 1) ∨ (p = 6 ∧ 0 ≤ q ∧ q < 64))) (G 3) ?_ ?_ 0 g (by omega) u3.1 bg
    · intro a g a0 a1 hI
      obtain ⟨_, _, f3⟩ := cnt g _ _ _ hI
      have hq := hI.2.1
      have ka := k_asB (sh := sh) (h := g) (a := w + 133 + a) (b := v + 133 + a) (by omega)
      left
      refine ⟨asB g (w + 133 + a) (v + 133 + a), ?_, (hI.as ww (r := 133 + a) (by omega) (by omega) (by omega) (by omega) (fun j => pn_ask iw a0 (by omega))).mono ?_⟩
      · rw [e_X10_become_114]
        simp (disch := omega) only [q_470, q_up_far, q_row_row, q_row_self, q_row_ne, q_up_ne, q_up_eq, q_rowup, ud_eq, ud_ne, q_add_id, q_sub_id, q_mul_id, q_w_eq, q_rem_n, q_div_n, ↓reduceIte, leT, leF, ltT, ltF, eqT, eqF, true_or, or_true, false_or, or_false, true_and, and_true, false_and, and_false, or_self, and_self, Option.bind_some, f3, ka, hq.w7 iw, hq.w7 iv, hq.ask iw, hq.ask iv, hs.asks iw, hs.asks iv, e_X10_become_137]
      · intro p q hc
        unfold WC at hc ⊢
        rcases hc with z | z | z | z | z
        · exact Or.inl (Or.inl z)
        · exact Or.inl (Or.inr (Or.inl z))
        · exact Or.inl (Or.inr (Or.inr (Or.inl z)))
        · exact Or.inl (Or.inr (Or.inr (Or.inr (Or.inl z))))
        · by_cases e : p = 133 + a
          · exact Or.inr ⟨e, z.2⟩
          · exact Or.inl (Or.inr (Or.inr (Or.inr (Or.inr ⟨by omega, z.2⟩))))
    · intro g hI
      obtain ⟨_, _, f3⟩ := cnt g _ _ _ hI
      have hq := hI.2.1
      have a6 : ∀ z : Int, z + 5 + 1 = z + 6 := fun z => by omega
      have ks := k_seB (sh := sh) (h := g) (a := w + 5) (b := v + 5) (by omega) (by omega) (by omega) (by rw [a6]; exact hq.odds iw) (by rw [a6]; exact hq.odds iv) (by rw [a6]; exact hs.odds iw) (by rw [a6]; exact hs.odds iv)
      refine ⟨rwB g (w + 5) (v + 5) 64, ?_, ?_⟩
      · show q_L 90 114 _ _ _ = _
        rw [e_X10_become_114]
        simp (disch := omega) only [q_470, q_up_far, q_row_row, q_row_self, q_row_ne, q_up_ne, q_up_eq, q_rowup, ud_eq, ud_ne, q_add_id, q_sub_id, q_mul_id, q_w_eq, q_rem_n, q_div_n, ↓reduceIte, leT, leF, ltT, ltF, eqT, eqF, true_or, or_true, false_or, or_false, true_and, and_true, false_and, and_false, or_self, and_self, Option.bind_some, f3, ks, hq.w8 iw, hq.w8 iv, e_X10_become_154]
      · refine (hI.rw ww (n := 64) (r := 5) (a := w + 5) (b := v + 5) (by decide) (by decide) rfl rfl (VP_s1 iw) (fun j => by rw [a6]; exact VP_r iw (by omega))).mono ?_
        intro p q hc
        rcases hc with z | z | z
        · exact Or.inl z
        · exact Or.inr (Or.inl z)
        · exact Or.inr (Or.inr ⟨by omega, z.2⟩)
  have loopC : ∀ g, BE h g w v (WC (G 1) 0 0) → ∃ h', q_L 90 83 [(20, w), (20, v), (0, 0)] [] (sh, g) = some ((9, 0), (sh, h')) ∧ BE h h' w v (fun p q => WC (G 1) (G 2) (G 3) p q ∨ (p = 5 ∧ q = 1) ∨ (p = 6 ∧ 0 ≤ q ∧ q < 64)) := by
    intro g bg
    refine lp (fun a (g : Int → Int → Int) => q_L 90 83 [(20, w), (20, v), (0, a)] [] (sh, g)) (fun a g => BE h g w v (WC (G 1) a 0)) (fun r => ∃ h', r = some ((9, 0), (sh, h')) ∧ BE h h' w v (fun p q => WC (G 1) (G 2) (G 3) p q ∨ (p = 5 ∧ q = 1) ∨ (p = 6 ∧ 0 ≤ q ∧ q < 64))) (G 2) ?_ ?_ 0 g (by omega) u2.1 bg
    · intro a g a0 a1 hI
      obtain ⟨_, f2, _⟩ := cnt g _ _ _ hI
      have hq := hI.2.1
      obtain ⟨g', k1, k2⟩ := k_craftB (c := a) hs ww hI a0 (by omega)
      left
      refine ⟨g', ?_, k2.mono ?_⟩
      · rw [e_X10_become_83]
        simp (disch := omega) only [q_470, q_up_far, q_row_row, q_row_self, q_row_ne, q_up_ne, q_up_eq, q_rowup, ud_eq, ud_ne, q_add_id, q_sub_id, q_mul_id, q_w_eq, q_rem_n, q_div_n, ↓reduceIte, leT, leF, ltT, ltF, eqT, eqF, true_or, or_true, false_or, or_false, true_and, and_true, false_and, and_false, or_self, and_self, Option.bind_some, f2, k1, hq.w6 iw, hq.w6 iv, hq.craft iw, hq.craft iv, hs.crafts iw, hs.crafts iv, e_X10_become_106]
      · intro p q hc
        unfold WC at hc ⊢
        rcases hc with z | z | z | ⟨c, c0, c1, z⟩ | z
        · exact Or.inl (Or.inl z)
        · exact Or.inl (Or.inr (Or.inl z))
        · exact Or.inl (Or.inr (Or.inr (Or.inl z)))
        · by_cases e : c = a
          · rw [e] at z; exact Or.inr z
          · exact Or.inl (Or.inr (Or.inr (Or.inr (Or.inl ⟨c, c0, by omega, z⟩))))
        · exact Or.inl (Or.inr (Or.inr (Or.inr (Or.inr z))))
    · intro g hI
      obtain ⟨_, f2, _⟩ := cnt g _ _ _ hI
      obtain ⟨h', k1, k2⟩ := loopA g hI
      refine ⟨h', ?_, k2⟩
      show q_L 90 83 _ _ _ = _
      rw [e_X10_become_83, ← k1]
      simp (disch := omega) only [q_470, q_up_far, q_row_row, q_row_self, q_row_ne, q_up_ne, q_up_eq, q_rowup, ud_eq, ud_ne, q_add_id, q_sub_id, q_mul_id, q_w_eq, q_rem_n, q_div_n, ↓reduceIte, leT, leF, ltT, ltF, eqT, eqF, true_or, or_true, false_or, or_false, true_and, and_true, false_and, and_false, or_self, and_self, Option.bind_some, f2]
  have loopD := lp (fun a (g : Int → Int → Int) => q_L 90 52 [(20, w), (20, v), (0, a)] [] (sh, g)) (fun a g => BE h g w v (WC a 0 0)) (fun r => ∃ h', r = some ((9, 0), (sh, h')) ∧ BE h h' w v (fun p q => WC (G 1) (G 2) (G 3) p q ∨ (p = 5 ∧ q = 1) ∨ (p = 6 ∧ 0 ≤ q ∧ q < 64))) (G 1) ?_ ?_ 0 h1 (by omega) u1.1 b1
  · obtain ⟨h', k1, k2⟩ := loopD
    exact ⟨h', by rw [r1]; exact k1, k2⟩
  · intro a g a0 a1 hI
    obtain ⟨f1, _, _⟩ := cnt g _ _ _ hI
    have hq := hI.2.1
    have sb : g (v + 7 + a) 3 = G (70 + a) := by
      rw [hI.2.2 (v + 7 + a) (by omega)]
      exact hr.broken wf.1 a a0 a1
    have rb := wf.1.broken (d := a) a0 (by omega)
    have kd := k_diB (sh := sh) (h := g) (a := w + 7 + a) (b := v + 7 + a) (by omega) (by rw [sb]; omega)
    left
    refine ⟨diB g (w + 7 + a) (v + 7 + a), ?_, (hI.di ww (r := 7 + a) (by omega) (by omega) (by omega) (by omega) (fun j => pn_dish iw a0 (by omega))).mono ?_⟩
    · rw [e_X10_become_52]
      simp (disch := omega) only [q_470, q_up_far, q_row_row, q_row_self, q_row_ne, q_up_ne, q_up_eq, q_rowup, ud_eq, ud_ne, q_add_id, q_sub_id, q_mul_id, q_w_eq, q_rem_n, q_div_n, ↓reduceIte, leT, leF, ltT, ltF, eqT, eqF, true_or, or_true, false_or, or_false, true_and, and_true, false_and, and_false, or_self, and_self, Option.bind_some, f1, kd, hq.w5 iw, hq.w5 iv, hq.dish iw, hq.dish iv, hs.dishes iw, hs.dishes iv, e_X10_become_75]
    · intro p q hc
      unfold WC at hc ⊢
      rcases hc with z | z | z | z | z
      · exact Or.inl (Or.inl z)
      · exact Or.inl (Or.inr (Or.inl z))
      · by_cases e : p = 7 + a
        · exact Or.inr ⟨e, z.2⟩
        · exact Or.inl (Or.inr (Or.inr (Or.inl ⟨by omega, z.2⟩)))
      · exact Or.inl (Or.inr (Or.inr (Or.inr (Or.inl z))))
      · exact Or.inl (Or.inr (Or.inr (Or.inr (Or.inr z))))
  · intro g hI
    obtain ⟨f1, _, _⟩ := cnt g _ _ _ hI
    obtain ⟨h', k1, k2⟩ := loopC g hI
    refine ⟨h', ?_, k2⟩
    show q_L 90 52 _ _ _ = _
    rw [e_X10_become_52, ← k1]
    simp (disch := omega) only [q_470, q_up_far, q_row_row, q_row_self, q_row_ne, q_up_ne, q_up_eq, q_rowup, ud_eq, ud_ne, q_add_id, q_sub_id, q_mul_id, q_w_eq, q_rem_n, q_div_n, ↓reduceIte, leT, leF, ltT, ltF, eqT, eqF, true_or, or_true, false_or, or_false, true_and, and_true, false_and, and_false, or_self, and_self, Option.bind_some, f1]
