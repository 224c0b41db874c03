/-! blocks: one is taken out, one is made -/
/-- only a craft's blocks have changed -/
theorem RelW.blocksOf {h h' : Int → Int → Int} {w c : Int} {G G' : Int → Int} (hr : RelW h w G) (wr : WFR G) (wr' : WFR G') (c0 : 0 ≤ c) (c1 : c < G 2)
    (hf : ∀ a, a ≠ w + 13 + 15 * c + 3 → a ≠ w + 13 + 15 * c + 4 → a ≠ w + 13 + 15 * c + 5 → h' a = h a)
    (gf : ∀ y, y ≠ 92 + c → y ≠ 108 + c → y ≠ 116 + c → y ≠ 124 + c → y ≠ 132 + c → y ≠ 140 + c → (y < 204 + 12 * c ∨ 216 + 12 * c ≤ y) → (y < 300 + 12 * c ∨ 312 + 12 * c ≤ y) → G' y = G y)
    (b0 : h' (w + 13 + 15 * c + 3) 0 = G' (92 + c)) (b1 : h' (w + 13 + 15 * c + 3) 1 = G' (108 + c)) (b2 : h' (w + 13 + 15 * c + 3) 2 = G' (116 + c)) (b3 : h' (w + 13 + 15 * c + 3) 3 = G' (124 + c)) (b4 : h' (w + 13 + 15 * c + 3) 4 = G' (132 + c)) (b5 : h' (w + 13 + 15 * c + 3) 5 = G' (140 + c))
    (bn : ∀ k, 0 ≤ k → k < G' (108 + c) → h' (w + 13 + 15 * c + 4) k = G' (204 + 12 * c + k)) (bs : ∀ k, 0 ≤ k → k < G' (108 + c) → h' (w + 13 + 15 * c + 5) k = G' (300 + 12 * c + k)) : RelW h' w G' := by
  have u2 := wr.nc
  have q8 := wr'.blocks (d := c) c0 (by omega)
  have g1 : G' 1 = G 1 := gf 1 (by omega) (by omega) (by omega) (by omega) (by omega) (by omega) (by omega) (by omega)
  have g2 : G' 2 = G 2 := gf 2 (by omega) (by omega) (by omega) (by omega) (by omega) (by omega) (by omega) (by omega)
  have g3 : G' 3 = G 3 := gf 3 (by omega) (by omega) (by omega) (by omega) (by omega) (by omega) (by omega) (by omega)
  refine ⟨?_, ?_, ?_⟩
  · intro x mx lx
    have cb := cel_b mx
    by_cases e3 : cel x = 13 + 15 * c + 3
    · have : x = 92 + c ∨ x = 108 + c ∨ x = 116 + c ∨ x = 124 + c ∨ x = 132 + c ∨ x = 140 + c := by
        unfold Mp at mx
        unfold cel at e3
        repeat' split at e3
        all_goals omega
      rcases this with z | z | z | z | z | z
      · have lo := lo_room (c := c) c0 (by omega)
        rw [z, lo.1, lo.2.1, ← b0]; congr 1; omega
      · have lo := lo_blocks (c := c) c0 (by omega)
        rw [z, lo.1, lo.2.1, ← b1]; congr 1; omega
      · have lo := lo_made (c := c) c0 (by omega)
        rw [z, lo.1, lo.2.1, ← b2]; congr 1; omega
      · have lo := lo_had (c := c) c0 (by omega)
        rw [z, lo.1, lo.2.1, ← b3]; congr 1; omega
      · have lo := lo_dropped (c := c) c0 (by omega)
        rw [z, lo.1, lo.2.1, ← b4]; congr 1; omega
      · have lo := lo_lost (c := c) c0 (by omega)
        rw [z, lo.1, lo.2.1, ← b5]; congr 1; omega
    · by_cases e4 : cel x = 13 + 15 * c + 4
      · obtain ⟨k, ek, k0, k1⟩ : ∃ k, x = 204 + 12 * c + k ∧ 0 ≤ k ∧ k < 12 := by
          refine ⟨x - (204 + 12 * c), by omega, ?_⟩
          unfold Mp at mx
          unfold cel at e4
          repeat' split at e4
          all_goals omega
        have lo := lo_bnum (c := c) (k := k) c0 (by omega) k0 k1
        have lv := lx.2.2.2.2.1 (by omega) (by omega)
        rw [ek, show (204 + 12 * c + k - 204) / 12 = c by omega, show (204 + 12 * c + k - 204) % 12 = k by omega] at lv
        rw [ek, lo.1, lo.2.1, ← bn k k0 lv.2]; congr 1; omega
      · by_cases e5 : cel x = 13 + 15 * c + 5
        · obtain ⟨k, ek, k0, k1⟩ : ∃ k, x = 300 + 12 * c + k ∧ 0 ≤ k ∧ k < 12 := by
            refine ⟨x - (300 + 12 * c), by omega, ?_⟩
            unfold Mp at mx
            unfold cel at e5
            repeat' split at e5
            all_goals omega
          have lo := lo_bsent (c := c) (k := k) c0 (by omega) k0 k1
          have lv := lx.2.2.2.2.2.1 (by omega) (by omega)
          rw [ek, show (300 + 12 * c + k - 300) / 12 = c by omega, show (300 + 12 * c + k - 300) % 12 = k by omega] at lv
          rw [ek, lo.1, lo.2.1, ← bs k k0 lv.2]; congr 1; omega
        · have nx : ∀ n, (n = 92 ∨ n = 108 ∨ n = 116 ∨ n = 124 ∨ n = 132 ∨ n = 140) → x ≠ n + c := by
            intro n hn e
            apply e3
            rcases hn with rfl | rfl | rfl | rfl | rfl | rfl
            · rw [e, (lo_room (c := c) c0 (by omega)).1]
            · rw [e, (lo_blocks (c := c) c0 (by omega)).1]
            · rw [e, (lo_made (c := c) c0 (by omega)).1]
            · rw [e, (lo_had (c := c) c0 (by omega)).1]
            · rw [e, (lo_dropped (c := c) c0 (by omega)).1]
            · rw [e, (lo_lost (c := c) c0 (by omega)).1]
          have ny : x < 204 + 12 * c ∨ 216 + 12 * c ≤ x := by
            rcases Int.lt_or_le x (204 + 12 * c) with z | z
            · exact Or.inl z
            · rcases Int.lt_or_le x (216 + 12 * c) with z2 | z2
              · exfalso
                apply e4
                have := (lo_bnum (c := c) (k := x - (204 + 12 * c)) c0 (by omega) (by omega) (by omega)).1
                rw [show 204 + 12 * c + (x - (204 + 12 * c)) = x by omega] at this
                exact this
              · exact Or.inr z2
          have nz : x < 300 + 12 * c ∨ 312 + 12 * c ≤ x := by
            rcases Int.lt_or_le x (300 + 12 * c) with z | z
            · exact Or.inl z
            · rcases Int.lt_or_le x (312 + 12 * c) with z2 | z2
              · exfalso
                apply e5
                have := (lo_bsent (c := c) (k := x - (300 + 12 * c)) c0 (by omega) (by omega) (by omega)).1
                rw [show 300 + 12 * c + (x - (300 + 12 * c)) = x by omega] at this
                exact this
              · exact Or.inr z2
          rw [hf _ (by omega) (by omega) (by omega), gf x (nx 92 (by omega)) (nx 108 (by omega)) (nx 116 (by omega)) (nx 124 (by omega)) (nx 132 (by omega)) (nx 140 (by omega)) ny nz]
          apply hr.1 x mx
          unfold Live at lx ⊢
          rw [g1, g2, g3] at lx
          obtain ⟨a1, a2, a3, a4, a5, a6, a7, a8, a9⟩ := lx
          refine ⟨a1, a2, a3, a4, ?_, ?_, a7, ?_, a9⟩
          · intro z1 z2
            have := a5 z1 z2
            rw [gf _ (by omega) (by omega) (by omega) (by omega) (by omega) (by omega) (by omega) (by omega)] at this
            exact this
          · intro z1 z2
            have := a6 z1 z2
            rw [gf _ (by omega) (by omega) (by omega) (by omega) (by omega) (by omega) (by omega) (by omega)] at this
            exact this
          · intro z1 z2
            have := a8 z1 z2
            rw [gf _ (by omega) (by omega) (by omega) (by omega) (by omega) (by omega) (by omega) (by omega)] at this
            exact this
  · intro c' s h0 h1 h2 h3
    rw [g2] at h1
    rw [hf _ (by omega) (by omega) (by omega), gf _ (by omega) (by omega) (by omega) (by omega) (by omega) (by omega) (by omega) (by omega)]
    exact hr.2.1 c' s h0 h1 h2 h3
  · intro i h0 h1
    rw [hf _ (by omega) (by omega) (by omega), gf _ (by omega) (by omega) (by omega) (by omega) (by omega) (by omega) (by omega) (by omega)]
    exact hr.2.2 i h0 h1
/-- block i of craft c is taken out -/
def takeG (G : Int → Int) (c i : Int) : Int → Int := fun x => if x = 108 + c then G (108 + c) - 1 else if (204 + 12 * c + i ≤ x ∧ x < 204 + 12 * c + (G (108 + c) - 1)) ∨ (300 + 12 * c + i ≤ x ∧ x < 300 + 12 * c + (G (108 + c) - 1)) then G (x + 1) else G x
theorem takeG_n {G : Int → Int} {c i : Int} : takeG G c i (108 + c) = G (108 + c) - 1 := if_pos rfl
theorem takeG_in {G : Int → Int} {c i x : Int} (c0 : 0 ≤ c) (c1 : c < 8) (h : (204 + 12 * c + i ≤ x ∧ x < 204 + 12 * c + (G (108 + c) - 1)) ∨ (300 + 12 * c + i ≤ x ∧ x < 300 + 12 * c + (G (108 + c) - 1))) (hi : 0 ≤ i) : takeG G c i x = G (x + 1) := by
  unfold takeG
  rw [if_neg (by omega), if_pos h]
theorem takeG_out {G : Int → Int} {c i x : Int} (h0 : x ≠ 108 + c) (h : ¬ ((204 + 12 * c + i ≤ x ∧ x < 204 + 12 * c + (G (108 + c) - 1)) ∨ (300 + 12 * c + i ≤ x ∧ x < 300 + 12 * c + (G (108 + c) - 1)))) : takeG G c i x = G x := by
  unfold takeG
  rw [if_neg h0, if_neg h]
theorem WFR.take {G : Int → Int} (wr : WFR G) {c i : Int} (c0 : 0 ≤ c) (c1 : c < 8) (i0 : 0 ≤ i) (i1 : i < G (108 + c)) : WFR (takeG G c i) := by
  have r1 := wr.blocks (d := c) c0 (by omega)
  have key : ∀ r ∈ RT, ((r.2.1 ≤ 108 ∨ 116 ≤ r.1) ∨ r = (108, 116, 0, 12)) ∧ ((r.2.1 ≤ 300 ∨ 396 ≤ r.1) ∨ r = (300, 396, -1, 3000)) ∧ (r.2.1 ≤ 204 ∨ 300 ≤ r.1) := by decide
  intro r hr j j0 j1
  obtain ⟨k1, k2, k3⟩ := key r hr
  by_cases e : j = 108 + c
  · rw [e, takeG_n]
    rcases k1 with z | z
    · omega
    · rw [z]
      show (0 : Int) ≤ G (108 + c) - 1 ∧ G (108 + c) - 1 ≤ 12
      omega
  · by_cases e2 : (204 + 12 * c + i ≤ j ∧ j < 204 + 12 * c + (G (108 + c) - 1)) ∨ (300 + 12 * c + i ≤ j ∧ j < 300 + 12 * c + (G (108 + c) - 1))
    · rw [takeG_in c0 c1 e2 i0]
      rcases k2 with z | z
      · omega
      · rw [z]
        rw [z] at j0 j1 hr
        have j0 : (300 : Int) ≤ j := j0
        have j1 : j < (396 : Int) := j1
        exact wr (300, 396, -1, 3000) hr (j + 1) (by show (300 : Int) ≤ _; omega) (by show _ < (396 : Int); omega)
    · rw [takeG_out e e2]
      exact wr r hr j j0 j1
theorem r_takesOut {sh : Int × (Int → Nat × Int)} {h : Int → Int → Int} {c i : Int} {G : Int → Int} (e0 : h 469 0 = 470) (l : (sh.2 470).2 = 1354) (wr : WFR G) (c0 : 0 ≤ c) (c1 : c < 8) (i0 : 0 ≤ i) (i1 : i < G (108 + c)) : q_Cc 224 [(22, 469), (0, c), (0, i)] (sh, q_row h 470 G) = some ((9, 0), (sh, q_row h 470 (takeG G c i))) := by
  have r1 := wr.blocks (d := c) c0 (by omega)
  obtain ⟨n, en⟩ : ∃ n, G (108 + c) = n := ⟨_, rfl⟩
  rw [en] at r1 i1
  have := lp (fun k (F : Int → Int) => q_L 224 20 [(22, 469), (0, c), (0, i), (0, k)] [] (sh, q_row h 470 F)) (fun k F => 12 * c + i ≤ k ∧ F (108 + c) = n - 1 ∧ ∀ x, x ≠ 108 + c → F x = if (204 + 12 * c + i ≤ x ∧ x < 204 + k) ∨ (300 + 12 * c + i ≤ x ∧ x < 300 + k) then G (x + 1) else G x) (fun r => r = some ((9, 0), (sh, q_row h 470 (takeG G c i)))) (12 * c + (n - 1)) ?_ ?_ (12 * c + i) (ud G (108 + c) (n - 1)) (by omega) (by omega) ⟨by omega, ud_self _ _ _, fun x hx => by rw [ud_ne hx, if_neg (by omega)]⟩
  · have this : q_L 224 20 [(22, 469), (0, c), (0, i), (0, 12 * c + i)] [] (sh, q_row h 470 (ud G (108 + c) (n - 1))) = some ((9, 0), (sh, q_row h 470 (takeG G c i))) := this
    simp (disch := omega) only [q_470, q_up_far, q_row_row, q_row_self, q_row_ne, q_up_ne, q_up_eq, q_rowup, ud_eq, ud_ne, q_add_id, q_sub_id, q_mul_id, q_w_eq, q_rem_n, q_div_n, ↓reduceIte, leT, leF, ltT, ltF, eqT, eqF, true_or, or_true, false_or, or_false, true_and, and_true, false_and, and_false, or_self, and_self, Option.bind_some, e0, l, en, c_X12_takesOut, e_X12_takesOut_0, this]
  · intro k F k0 k1 hI
    obtain ⟨h1, h2, h3⟩ := hI
    have f1 : F (204 + k + 1) = G (204 + k + 1) := by rw [h3 _ (by omega), if_neg (by omega)]
    have f2 : F (300 + k + 1) = G (300 + k + 1) := by rw [h3 _ (by omega), if_neg (by omega)]
    refine Or.inl ⟨ud (ud F (204 + k) (G (204 + k + 1))) (300 + k) (G (300 + k + 1)), ?_, by omega, ?_, ?_⟩
    · rw [e_X12_takesOut_20]
      simp (disch := omega) only [q_470, q_up_far, q_row_row, q_row_self, q_row_ne, q_up_ne, q_up_eq, q_rowup, ud_eq, ud_ne, q_add_id, q_sub_id, q_mul_id, q_w_eq, q_rem_n, q_div_n, ↓reduceIte, leT, leF, ltT, ltF, eqT, eqF, true_or, or_true, false_or, or_false, true_and, and_true, false_and, and_false, or_self, and_self, Option.bind_some, e0, l, h2, f1, f2]
    · rw [ud_ne (by omega), ud_ne (by omega)]; exact h2
    · intro x hx
      by_cases x1 : x = 300 + k
      · rw [ud_eq x1, if_pos (by omega), x1]
      · by_cases x2 : x = 204 + k
        · rw [ud_ne x1, ud_eq x2, if_pos (by omega), x2]
        · rw [ud_ne x1, ud_ne x2, h3 x hx]
          by_cases z : (204 + 12 * c + i ≤ x ∧ x < 204 + k) ∨ (300 + 12 * c + i ≤ x ∧ x < 300 + k)
          · rw [if_pos z, if_pos (by omega)]
          · rw [if_neg z, if_neg (by omega)]
  · intro F hI
    obtain ⟨h1, h2, h3⟩ := hI
    have e : F = takeG G c i := by
      funext x
      by_cases hx : x = 108 + c
      · rw [hx, h2, takeG_n, en]
      · rw [h3 x hx]
        unfold takeG
        rw [if_neg hx, en]
        by_cases z : (204 + 12 * c + i ≤ x ∧ x < 204 + (12 * c + (n - 1))) ∨ (300 + 12 * c + i ≤ x ∧ x < 300 + (12 * c + (n - 1)))
        · rw [if_pos z, if_pos (by omega)]
        · rw [if_neg z, if_neg (by omega)]
    have h2' : takeG G c i (108 + c) = n - 1 := by rw [takeG_n, en]
    show q_L 224 20 _ _ _ = _
    rw [e_X12_takesOut_20]
    simp (disch := omega) only [q_470, q_up_far, q_row_row, q_row_self, q_row_ne, q_up_ne, q_up_eq, q_rowup, ud_eq, ud_ne, q_add_id, q_sub_id, q_mul_id, q_w_eq, q_rem_n, q_div_n, ↓reduceIte, leT, leF, ltT, ltF, eqT, eqF, true_or, or_true, false_or, or_false, true_and, and_true, false_and, and_false, or_self, and_self, Option.bind_some, e0, l, h2', e]
theorem k_takeOut {sh : Int × (Int → Nat × Int)} {h : Int → Int → Int} {w c i : Int} {G : Int → Int} (hs : Sh sh) (hp : Ptr h) (iw : isW w) (hr : RelW h w G) (wr : WFR G) (c0 : 0 ≤ c) (c1 : c < G 2) (i0 : 0 ≤ i) (i1 : i < G (108 + c)) : ∃ h', q_Cc 15 [(11, w + 13 + 15 * c + 3), (0, i)] (sh, h) = some ((9, 0), (sh, h')) ∧ RelW h' w (takeG G c i) ∧ Ptr h' ∧ ∀ a, a ≠ w + 13 + 15 * c + 3 → a ≠ w + 13 + 15 * c + 4 → a ≠ w + 13 + 15 * c + 5 → h' a = h a := by
  have u2 := wr.nc
  have w0 := iw.b
  have r1 := wr.blocks (d := c) c0 (by omega)
  have wt := wr.take c0 (by omega) i0 i1
  obtain ⟨n, en⟩ : ∃ n, G (108 + c) = n := ⟨_, rfl⟩
  rw [en] at r1 i1
  obtain ⟨h', eh⟩ : ∃ h', q_cp (q_cp (q_up h (w + 13 + 15 * c + 3) 1 (n - 1)) (w + 13 + 15 * c + 4) (i + 1) (w + 13 + 15 * c + 4) i (n - 1 - i)) (w + 13 + 15 * c + 5) (i + 1) (w + 13 + 15 * c + 5) i (n - 1 - i) = h' := ⟨_, rfl⟩
  have far : ∀ a, a ≠ w + 13 + 15 * c + 3 → a ≠ w + 13 + 15 * c + 4 → a ≠ w + 13 + 15 * c + 5 → h' a = h a := fun a a1 a2 a3 => by rw [← eh, q_cp_far a3, q_cp_far a2, q_up_far a1]
  have f3 : ∀ j, h' (w + 13 + 15 * c + 3) j = if j = 1 then n - 1 else h (w + 13 + 15 * c + 3) j := by
    intro j
    rw [← eh, q_cp_far (by omega), q_cp_far (by omega)]
    by_cases e : j = 1
    · rw [if_pos e, q_up_eq rfl e]
    · rw [if_neg e, q_up_ne (Or.inr e)]
  have f4 : ∀ j, h' (w + 13 + 15 * c + 4) j = if i ≤ j ∧ j < i + (n - 1 - i) then h (w + 13 + 15 * c + 4) (i + 1 + (j - i)) else h (w + 13 + 15 * c + 4) j := by
    intro j
    rw [← eh, q_cp_far (by omega), q_cp_row, q_row_self, q_up_far (by omega)]
  have f5 : ∀ j, h' (w + 13 + 15 * c + 5) j = if i ≤ j ∧ j < i + (n - 1 - i) then h (w + 13 + 15 * c + 5) (i + 1 + (j - i)) else h (w + 13 + 15 * c + 5) j := by
    intro j
    rw [← eh, q_cp_row, q_row_self, q_cp_far (by omega), q_up_far (by omega)]
  have q1 : q_cp (q_up h (w + 13 + 15 * c + 3) 1 (n - 1)) (w + 13 + 15 * c + 4) (i + 1) (w + 13 + 15 * c + 4) i (n - 1 - i) (w + 13 + 15 * c + 3) 7 = w + 13 + 15 * c + 5 := by rw [q_cp_far (by omega), q_up_ne (by omega)]; exact hp.bsent iw c c0 (by omega)
  have q2 : q_cp (q_up h (w + 13 + 15 * c + 3) 1 (n - 1)) (w + 13 + 15 * c + 4) (i + 1) (w + 13 + 15 * c + 4) i (n - 1 - i) (w + 13 + 15 * c + 3) 1 = n - 1 := by rw [q_cp_far (by omega), q_up_self]
  refine ⟨h', ?_, ?_, ?_, far⟩
  · rw [← eh]
    simp (disch := omega) only [q_470, q_up_far, q_row_row, q_row_self, q_row_ne, q_up_ne, q_up_eq, q_rowup, ud_eq, ud_ne, q_add_id, q_sub_id, q_mul_id, q_w_eq, q_rem_n, q_div_n, ↓reduceIte, leT, leF, ltT, ltF, eqT, eqF, true_or, or_true, false_or, or_false, true_and, and_true, false_and, and_false, or_self, and_self, Option.bind_some, q1, q2, en, hr.blocks wr, hp.bnum iw, hp.bsent iw, hs.c4 iw, hs.c5 iw, c_X1_takeOut, e_X1_takeOut_0, e_X1_takeOut_31, e_X1_takeOut_52]
  · refine hr.blocksOf wr wt c0 c1 far ?_ ?_ ?_ ?_ ?_ ?_ ?_ ?_ ?_
    · intro y y1 y2 y3 y4 y5 y6 y7 y8
      exact takeG_out y2 (by rw [en]; omega)
    · rw [f3, if_neg (by decide), takeG_out (by omega) (by omega)]; exact hr.room wr c c0 c1
    · rw [f3, if_pos rfl, takeG_n, en]
    · rw [f3, if_neg (by decide), takeG_out (by omega) (by omega)]; exact hr.made wr c c0 c1
    · rw [f3, if_neg (by decide), takeG_out (by omega) (by omega)]; exact hr.had wr c c0 c1
    · rw [f3, if_neg (by decide), takeG_out (by omega) (by omega)]; exact hr.dropped wr c c0 c1
    · rw [f3, if_neg (by decide), takeG_out (by omega) (by omega)]; exact hr.lost wr c c0 c1
    · intro k k0 k1
      rw [takeG_n, en] at k1
      rw [f4]
      by_cases z : i ≤ k
      · rw [if_pos (by omega), takeG_in c0 (by omega) (by rw [en]; omega) i0, hr.bnum wr c _ c0 c1 (by omega) (by omega)]
        congr 1; omega
      · rw [if_neg (by omega), takeG_out (by omega) (by rw [en]; omega), hr.bnum wr c _ c0 c1 (by omega) (by omega)]
    · intro k k0 k1
      rw [takeG_n, en] at k1
      rw [f5]
      by_cases z : i ≤ k
      · rw [if_pos (by omega), takeG_in c0 (by omega) (by rw [en]; omega) i0, hr.bsent wr c _ c0 c1 (by omega) (by omega)]
        congr 1; omega
      · rw [if_neg (by omega), takeG_out (by omega) (by rw [en]; omega), hr.bsent wr c _ c0 c1 (by omega) (by omega)]
  · rw [← eh]
    exact ((hp.up (VP_cr iw c0 (by omega) (by omega) (by omega) (by omega))).cp (fun x => VP_cr iw c0 (by omega) (by omega) (by omega) (by omega))).cp (fun x => VP_cr iw c0 (by omega) (by omega) (by omega) (by omega))
