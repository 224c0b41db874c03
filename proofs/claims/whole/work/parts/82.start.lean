/-! what holds once both are made -/
theorem VP_range {k j v : Int} (h : VP0 k j = some v) : 0 ≤ k ∧ k < 470 := by
  by_cases a : 0 ≤ k ∧ k < 470
  · exact a
  · unfold VP0 at h
    rw [if_neg (by omega), if_neg (by omega), if_neg (by omega), if_neg (by omega), if_neg (by omega), if_neg (by omega), if_neg (by omega), if_neg (by omega)] at h
    cases h
theorem P0_z {i : Int} (h : i < 1098 ∨ 1162 ≤ i) : P0 i = 0 := by
  unfold P0
  rw [if_neg (by omega)]
theorem P0_wf : WF P0 := by
  have key : ∀ q ∈ RT, q.2.2.1 ≤ 0 ∧ 0 ≤ q.2.2.2 ∧ (q = (1098, 1162, 0, 7) ∨ q.2.1 ≤ 1098 ∨ 1162 ≤ q.1) := by decide
  refine ⟨?_, ?_, ?_, ?_, ?_⟩
  · intro q hq i h0 h1
    obtain ⟨k1, k2, k3⟩ := key q hq
    rcases k3 with k3 | k3
    · subst k3
      have h0 : 1098 ≤ i := h0
      have h1 : i < 1162 := h1
      show 0 ≤ P0 i ∧ P0 i ≤ 7
      unfold P0
      rw [if_pos ⟨h0, h1⟩]
      omega
    · rw [P0_z (by omega)]
      exact ⟨k1, k2⟩
  · intro c c0 c1
    rw [P0_z (by omega)] at c1
    omega
  · intro c c0 c1
    rw [P0_z (by omega)] at c1
    omega
  · intro a b a0 ab b1
    rw [P0_z (by omega)] at b1
    omega
  · intro c c0 c1
    rw [P0_z (by omega)] at c0
    refine ⟨P0_z (by omega), P0_z (by omega), P0_z (by omega), P0_z (by omega), P0_z (by omega), P0_z (by omega), fun p p0 p1 => ⟨P0_z (by omega), P0_z (by omega)⟩, fun s s0 s1 => ⟨?_, P0_z (by omega)⟩⟩
    unfold P0
    rw [if_pos (by omega)]
    omega
theorem inv_at0 {sl : Int → Nat × Int} {hl : Int → Int → Int} {sh : Int × (Int → Nat × Int)} {h : Int → Int → Int} (S : ST 488 (fun _ _ => False) sl hl sh h) (G : h 470 = P0) (W : ∀ i, 0 ≤ i → i < 72 → h 480 i = wl i) : Inv h := by
  have z : ∀ k j, 0 ≤ k → k < 488 → k ≠ 470 → k ≠ 480 → VP0 k j = none → (LT0 k).1 ≤ 31 → h k j = 0 := S.2.2.2.1
  have iw : isW 1 := Or.inl rfl
  have hp : Ptr h := fun k j v hv => S.2.2.1 k j v (VP_range hv).1 (by have := (VP_range hv).2; omega) hv (fun f => f)
  have e1 : P0 1 = 0 := by decide
  have e2 : P0 2 = 0 := by decide
  have e3 : P0 3 = 0 := by decide
  refine ⟨hp, ?_, ?_, ?_, ?_, ?_, ?_, ?_, W⟩
  · rw [G]
    refine ⟨?_, ?_, ?_⟩
    · intro i mi li
      unfold Live at li
      rw [e1, e2, e3] at li
      obtain ⟨b1, b2, b3, b4, b5, b6, b7, b8, b9⟩ := li
      have hi : (0 ≤ i ∧ i < 4) ∨ (10 ≤ i ∧ i < 52) ∨ (1226 ≤ i ∧ i < 1290) := by
        unfold Mp at mi
        by_cases a1 : 52 ≤ i ∧ i < 76
        · have := b1 a1.1 a1.2; omega
        · by_cases a2 : 76 ≤ i ∧ i < 156
          · have := b2 a2.1 a2.2; omega
          · by_cases a3 : 156 ≤ i ∧ i < 180
            · have := b3 a3.1 a3.2; omega
            · by_cases a4 : 180 ≤ i ∧ i < 204
              · have := b4 a4.1 a4.2; omega
              · by_cases a5 : 204 ≤ i ∧ i < 300
                · have := (b5 a5.1 a5.2).1; omega
                · by_cases a6 : 300 ≤ i ∧ i < 396
                  · have := (b6 a6.1 a6.2).1; omega
                  · by_cases a7 : 396 ≤ i ∧ i < 522
                    · have := b7 a7.1 a7.2; omega
                    · by_cases a8 : 522 ≤ i ∧ i < 1098
                      · have := (b8 a8.1 a8.2).1; omega
                      · by_cases a9 : 1098 ≤ i ∧ i < 1162
                        · have := b9 a9.1 a9.2; omega
                        · clear b1 b2 b3 b4 b5 b6 b7 b8 b9
                          omega
      clear b1 b2 b3 b4 b5 b6 b7 b8 b9
      rw [P0_z (by omega)]
      rcases hi with hi | hi | hi
      · have c : cel i = 0 := by unfold cel; rw [if_pos (by omega)]
        have s : slt i = i := by unfold slt; rw [if_pos (by omega)]
        rw [c, s]
        exact z 1 i (by decide) (by decide) (by decide) (by decide) (VP_w0 iw (by omega)) (by decide)
      · have c : cel i = 1 := by unfold cel; rw [if_neg (by omega), if_pos (by omega)]
        rw [c]
        exact z 2 _ (by decide) (by decide) (by decide) (by decide) (VP_r (w := 1) (r := 1) iw (by omega)) (by decide)
      · have lo := lo_odds (j := i - 1226) (by omega) (by omega)
        have ei : 1226 + (i - 1226) = i := by omega
        rw [ei] at lo
        rw [lo.1]
        exact z 7 _ (by decide) (by decide) (by decide) (by decide) (VP_r (w := 1) (r := 6) iw (by omega)) (by decide)
    · intro c s c0 c1
      rw [e2] at c1
      omega
    · intro i i0 i1
      have e6 : h (1 + 5) 1 = 0 := z 6 1 (by decide) (by decide) (by decide) (by decide) (VP_s1 (w := 1) iw) (by decide)
      rw [e6, lb_zero i0 i1, P0_z (by omega)]
  · rw [G]; exact P0_wf
  · rw [G]; decide
  · have a : h 0 7 = 0 := z 0 7 (by decide) (by decide) (by decide) (by decide) rfl (by decide)
    have b : h 469 3 = 0 := z 469 3 (by decide) (by decide) (by decide) (by decide) rfl (by decide)
    unfold InvI
    rw [a, b]
    exact ⟨rfl, Or.inl rfl⟩
  · have a : h 452 1 = 0 := z 452 1 (by decide) (by decide) (by decide) (by decide) rfl (by decide)
    have b : h 469 5 = 0 := z 469 5 (by decide) (by decide) (by decide) (by decide) rfl (by decide)
    unfold InvT
    rw [a, b]
    exact ⟨rfl, by decide, by decide, fun i a b => by omega⟩
  · intro i i0 i1
    have a : h 468 i = 0 := z 468 i (by decide) (by decide) (by decide) (by decide) rfl (by decide)
    have b : h 474 i = 0 := z 474 i (by decide) (by decide) (by decide) (by decide) rfl (by decide)
    rw [a, b]
    exact ⟨rfl, by decide, by decide⟩
  · intro s s0 s1
    have a5 : ∀ j, h 475 j = 0 := fun j => z 475 j (by decide) (by decide) (by decide) (by decide) rfl (by decide)
    have a6 : ∀ j, h 476 j = 0 := fun j => z 476 j (by decide) (by decide) (by decide) (by decide) rfl (by decide)
    have a7 : ∀ j, h 477 j = 0 := fun j => z 477 j (by decide) (by decide) (by decide) (by decide) rfl (by decide)
    have sz : h (460 + 2 * s) 0 = 0 ∧ h (460 + 2 * s) 1 = 0 ∧ ∀ j, h (461 + 2 * s) j = 0 := by
      have : s = 0 ∨ s = 1 ∨ s = 2 ∨ s = 3 := by omega
      rcases this with q | q | q | q <;> subst q
      · exact ⟨z 460 0 (by decide) (by decide) (by decide) (by decide) rfl (by decide), z 460 1 (by decide) (by decide) (by decide) (by decide) rfl (by decide), fun j => z 461 j (by decide) (by decide) (by decide) (by decide) rfl (by decide)⟩
      · exact ⟨z 462 0 (by decide) (by decide) (by decide) (by decide) rfl (by decide), z 462 1 (by decide) (by decide) (by decide) (by decide) rfl (by decide), fun j => z 463 j (by decide) (by decide) (by decide) (by decide) rfl (by decide)⟩
      · exact ⟨z 464 0 (by decide) (by decide) (by decide) (by decide) rfl (by decide), z 464 1 (by decide) (by decide) (by decide) (by decide) rfl (by decide), fun j => z 465 j (by decide) (by decide) (by decide) (by decide) rfl (by decide)⟩
      · exact ⟨z 466 0 (by decide) (by decide) (by decide) (by decide) rfl (by decide), z 466 1 (by decide) (by decide) (by decide) (by decide) rfl (by decide), fun j => z 467 j (by decide) (by decide) (by decide) (by decide) rfl (by decide)⟩
    rw [sz.1, sz.2.1, a5, a6]
    exact ⟨rfl, rfl, Or.inl rfl, by decide, by decide, fun i i0 i1 => by rw [sz.2.2, a7]⟩
/-- the law's first steps -/
theorem law0 {sl : Int → Nat × Int} {hl : Int → Int → Int} : ∃ sh h, q_L 256 0 [(30, -6), (9, 0), (9, 0), (9, 0)] [] ((0, sl), hl) = q_L 256 18 [(30, -6), (21, 0), (22, 469), (0, 0)] [] (sh, h) ∧ sh.1 = 488 ∧ Sh sh ∧ Inv h ∧ ∀ k, k < 0 → sh.2 k = sl k ∧ h k = hl k := by
  have S0 : ST 0 (fun _ _ => False) sl hl (0, sl) hl := ⟨rfl, fun k k0 k1 => by omega, fun k j v k0 k1 => by omega, fun k j k0 k1 => by omega, fun k _ => ⟨rfl, rfl⟩⟩
  have S1 : ST 1 (fun k j => k = 0 ∧ 0 ≤ j) sl hl (q_ms (0, sl) 21 8) (q_mh (0, sl) hl (q_zf [0, 1, 2, 3, 4, 5, 6])) := by
    refine ((S0.obj (t := 21) (len := 8) (z := q_zf [0, 1, 2, 3, 4, 5, 6]) (by decide) (by decide) (fun j hn _ _ _ => q_zf_z (fun x hx e => ?_))).mono (fun k j v _ _ hv q => ?_)).cast (by decide)
    · have hx : x = 0 ∨ x = 1 ∨ x = 2 ∨ x = 3 ∨ x = 4 ∨ x = 5 ∨ x = 6 := by simpa using hx
      rw [e] at hn
      rcases hx with q | q | q | q | q | q | q <;> (subst q; exact absurd hn (by decide))
    · rcases q with q | q
      · refine ⟨q, ?_⟩
        rw [q] at hv
        by_cases e : 0 ≤ j
        · exact e
        · unfold VP0 at hv
          rw [if_pos rfl, if_neg (by omega), if_neg (by omega), if_neg (by omega), if_neg (by omega), if_neg (by omega), if_neg (by omega), if_neg (by omega)] at hv
          cases hv
      · exact q.elim
  obtain ⟨s1, g1, c1, S2⟩ := kon_far S1
  have S3 : ST 470 (fun k j => k = 469 ∧ 0 ≤ j) sl hl (q_ms s1 22 28) (q_mh s1 g1 (q_zf [0, 1, 2, 4, 6, 7, 8, 9, 10, 16, 17, 19, 20, 21, 22, 23, 26, 27])) := by
    refine ((S2.obj (t := 22) (len := 28) (z := q_zf [0, 1, 2, 4, 6, 7, 8, 9, 10, 16, 17, 19, 20, 21, 22, 23, 26, 27]) (by decide) (by decide) (fun j hn _ _ _ => q_zf_z (fun x hx e => ?_))).mono (fun k j v _ _ hv q => ?_)).cast (by decide)
    · have hx : x = 0 ∨ x = 1 ∨ x = 2 ∨ x = 4 ∨ x = 6 ∨ x = 7 ∨ x = 8 ∨ x = 9 ∨ x = 10 ∨ x = 16 ∨ x = 17 ∨ x = 19 ∨ x = 20 ∨ x = 21 ∨ x = 22 ∨ x = 23 ∨ x = 26 ∨ x = 27 := by simpa using hx
      rw [e] at hn
      rcases hx with q | q | q | q | q | q | q | q | q | q | q | q | q | q | q | q | q | q <;> (subst q; exact absurd hn (by decide))
    · rcases q with q | q
      · refine ⟨q, ?_⟩
        rw [q] at hv
        by_cases e : 0 ≤ j
        · exact e
        · have : VP0 469 j = none := by
            unfold VP0
            rw [if_neg (by decide), if_neg (by decide), if_neg (by decide), if_neg (by decide), if_neg (by decide), if_neg (by decide), if_neg (by decide), if_pos rfl]
            unfold VPm
            rw [if_neg (by omega), if_neg (by omega), if_neg (by omega), if_neg (by omega), if_neg (by omega), if_neg (by omega), if_neg (by omega), if_neg (by omega), if_neg (by omega), if_neg (by omega)]
          rw [this] at hv; cases hv
      · exact q.elim
  obtain ⟨s2, g2, c2, S4, z4, w4⟩ := r_init1 S3
  have l480 : (s2.2 480).2 = 72 := by rw [S4.2.1 480 (by decide) (by decide)]; decide
  have c3 := r_words l480 w4
  have S5 := S4.put (k0 := 480) (F := wl0) (Or.inr rfl)
  obtain ⟨s3, g3, c4, S6, z6, w6⟩ := r_init2 (Z := fun _ => 0) (W := wl0) S5 (by rw [q_row_ne (by decide)]; exact z4) (q_row_self _ _ _)
  have l470 : (s3.2 470).2 = 1354 := by rw [S6.2.1 470 (by decide) (by decide)]; decide
  have g0 : g3 469 0 = 470 := S6.get (by decide) (by decide) (v := 470) rfl (fun f => f)
  have c5 := r_init3 l470 g0 z6
  have S7 := S6.put (k0 := 470) (F := P0) (Or.inl rfl)
  refine ⟨s3, q_row g3 470 P0, ?_, S7.1, fun k k0 k1 => S7.2.1 k k0 k1, inv_at0 S7 (q_row_self _ _ _) (fun i i0 i1 => by rw [q_row_ne (by decide), w6]; exact wl0_ok i0 i1), S7.2.2.2.2⟩
  have n2 : s1.1 = 469 := S2.1
  rw [e_L_law_0, e_L_law_3, c1, Option.bind_some]
  show q_L 256 7 [(30, -6), (9, 0), (9, 0), (9, 0)] [(21, 0)] (s1, g1) = _
  rw [e_L_law_7, n2, e_L_law_11, c2, c3, c4, c5, Option.bind_some]
  show q_L 256 15 [(30, -6), (21, 0), (9, 0), (9, 0)] [(22, 469)] (s3, q_row g3 470 P0) = _
  rw [e_L_law_15]
