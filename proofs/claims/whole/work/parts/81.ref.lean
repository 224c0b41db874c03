/-! the reference is made -/
theorem ST.put {n : Int} {Q : Int → Int → Prop} {sl : Int → Nat × Int} {hl : Int → Int → Int} {sh : Int × (Int → Nat × Int)} {h : Int → Int → Int} {k0 : Int} {F : Int → Int} (S : ST n Q sl hl sh h) (hk : k0 = 470 ∨ k0 = 480) : ST n Q sl hl sh (q_row h k0 F) := by
  obtain ⟨s1, s2, s3, s4, s5⟩ := S
  refine ⟨s1, s2, fun k j v a b hv hq => ?_, fun k j a b c d hn ht => ?_, fun k a => ⟨(s5 k a).1, ?_⟩⟩
  · have e : k ≠ k0 := by
      intro e
      rw [e, VP_ref (by omega)] at hv; cases hv
    rw [q_row_ne e]; exact s3 k j v a b hv hq
  · rw [q_row_ne (by omega)]; exact s4 k j a b c d hn ht
  · rw [q_row_ne (by omega)]; exact (s5 k a).2
def wl0 : Int → Int := (ud (ud (ud (ud (ud (ud (ud (ud (ud (ud (ud (ud (ud (ud (ud (ud (ud (ud (ud (ud (ud (ud (ud (ud (ud (ud (ud (ud (ud (ud (ud (ud (ud (ud (ud (ud (ud (ud (ud (ud (ud (ud (ud (ud (ud (ud (ud (ud (ud (ud (ud (ud (ud (ud (ud (ud (ud (ud (ud (ud (ud (ud (ud (ud (ud (ud (ud (ud (ud (ud (ud (ud (fun _ => 0) 0 116) 1 114) 2 97) 3 99) 4 107) 5 0) 6 115) 7 101) 8 110) 9 100) 10 0) 11 0) 12 104) 13 101) 14 97) 15 114) 16 0) 17 0) 18 98) 19 111) 20 116) 21 104) 22 0) 23 0) 24 102) 25 97) 26 114) 27 0) 28 0) 29 0) 30 115) 31 104) 32 97) 33 114) 34 101) 35 100) 36 97) 37 114) 38 114) 39 97) 40 121) 41 0) 42 99) 43 0) 44 0) 45 0) 46 0) 47 0) 48 110) 49 0) 50 0) 51 0) 52 0) 53 0) 54 102) 55 114) 56 111) 57 109) 58 0) 59 0) 60 116) 61 111) 62 0) 63 0) 64 0) 65 0) 66 119) 67 111) 68 114) 69 116) 70 104) 71 0)
set_option maxRecDepth 100000 in
theorem wl0_N : ∀ i : Nat, i < 72 → wl0 i = wl i := by decide
theorem wl0_ok {i : Int} (h0 : 0 ≤ i) (h1 : i < 72) : wl0 i = wl i := by
  have := wl0_N i.toNat (by omega)
  rw [Int.toNat_of_nonneg h0] at this
  exact this
theorem r_words {sh : Int × (Int → Nat × Int)} {h : Int → Int → Int} (l : (sh.2 480).2 = 72) (z : h 480 = fun _ => 0) : q_L 160 90 [(22, 469), (9, 0), (9, 0)] [(30, 480), (22, 469)] (sh, h) = q_L 160 488 [(22, 469), (9, 0), (9, 0)] [(30, 480), (22, 469)] (sh, q_row h 480 wl0) := by
  have t : ∀ j v, q_up h 480 j v = q_row h 480 (ud (fun _ => 0) j v) := fun j v => by rw [q_up_row, z]
  unfold wl0
  simp (disch := decide) only [t, q_rowup, l, ↓reduceIte, leT, ltT, true_and, and_true, and_self, e_X12_init_90, e_X12_init_110, e_X12_init_131, e_X12_init_153, e_X12_init_177, e_X12_init_199, e_X12_init_221, e_X12_init_244, e_X12_init_266, e_X12_init_290, e_X12_init_314, e_X12_init_336, e_X12_init_356, e_X12_init_377, e_X12_init_399, e_X12_init_421, e_X12_init_443, e_X12_init_465]
theorem r_init1 {sl : Int → Nat × Int} {hl : Int → Int → Int} {sh : Int × (Int → Nat × Int)} {h : Int → Int → Int} (S : ST 470 (fun k j => k = 469 ∧ 0 ≤ j) sl hl sh h) : ∃ s g, q_Cc 160 [(22, 469)] (sh, h) = q_L 160 90 [(22, 469), (9, 0), (9, 0)] [(30, 480), (22, 469)] (s, g) ∧ ST 481 (fun k j => k = 469 ∧ 17 ≤ j) sl hl s g ∧ g 470 = (fun _ => 0) ∧ g 480 = (fun _ => 0) := by
  have e0 : ∃ s g, q_Cc 160 [(22, 469)] (sh, h) = q_L 160 10 [(22, 469), (9, 0), (9, 0)] [(30, 470), (22, 469)] (s, g) ∧ ST 471 (fun k j => k = 469 ∧ 0 ≤ j) sl hl s g ∧ g 470 = (fun _ => 0) := by
    refine ⟨q_ms sh 30 1354, q_mh sh h (fun _ => 0), ?_, S.row (by decide) (by decide) (fun j => rfl) (fun _ _ _ _ => rfl), by rw [q_mh_row, S.1, q_row_self]⟩
    rw [c_X12_init, e_X12_init_0, if_pos ⟨by decide, by decide⟩, S.1]
  obtain ⟨s0, g0, e0, S0, G0⟩ := e0
  have e1 : ∃ s g, q_L 160 10 [(22, 469), (9, 0), (9, 0)] [(30, 470), (22, 469)] (s0, g0) = q_L 160 19 [(22, 469), (9, 0), (9, 0)] [(30, 471), (22, 469)] (s, g) ∧ ST 472 (fun k j => k = 469 ∧ 1 ≤ j) sl hl s g ∧ g 470 = (fun _ => 0) := by
    refine ⟨q_ms s0 30 1354, q_mh s0 (q_up g0 469 0 470) (fun _ => 0), ?_, ((S0.store (a := 469) (s := 0) (v := 470) (by decide) rfl).row (by decide) (by decide) (fun j => rfl) (fun _ _ _ _ => rfl)).mono (fun k j v _ _ hv q => ?_), by rw [q_mh_row, S0.1, q_row_ne (by decide), q_up_far (by decide)]; exact G0⟩
    · rw [e_X12_init_10, if_pos (by decide), if_pos ⟨by decide, by decide⟩, S0.1]
    · refine ⟨q.1.1, ?_⟩
      have h1 := q.1.2
      by_cases e : j = 0
      · exact (q.2 ⟨q.1.1, e⟩).elim
      · omega
  obtain ⟨s1, g1, e1, S1, G1⟩ := e1
  have e2 : ∃ s g, q_L 160 19 [(22, 469), (9, 0), (9, 0)] [(30, 471), (22, 469)] (s1, g1) = q_L 160 28 [(22, 469), (9, 0), (9, 0)] [(30, 472), (22, 469)] (s, g) ∧ ST 473 (fun k j => k = 469 ∧ 2 ≤ j) sl hl s g ∧ g 470 = (fun _ => 0) := by
    refine ⟨q_ms s1 30 1354, q_mh s1 (q_up g1 469 1 471) (fun _ => 0), ?_, ((S1.store (a := 469) (s := 1) (v := 471) (by decide) rfl).row (by decide) (by decide) (fun j => rfl) (fun _ _ _ _ => rfl)).mono (fun k j v _ _ hv q => ?_), by rw [q_mh_row, S1.1, q_row_ne (by decide), q_up_far (by decide)]; exact G1⟩
    · rw [e_X12_init_19, if_pos (by decide), if_pos ⟨by decide, by decide⟩, S1.1]
    · refine ⟨q.1.1, ?_⟩
      have h1 := q.1.2
      by_cases e : j = 1
      · exact (q.2 ⟨q.1.1, e⟩).elim
      · omega
  obtain ⟨s2, g2, e2, S2, G2⟩ := e2
  have e3 : ∃ s g, q_L 160 28 [(22, 469), (9, 0), (9, 0)] [(30, 472), (22, 469)] (s2, g2) = q_L 160 36 [(22, 469), (9, 0), (9, 0)] [(30, 473), (22, 469)] (s, g) ∧ ST 474 (fun k j => k = 469 ∧ 4 ≤ j) sl hl s g ∧ g 470 = (fun _ => 0) := by
    refine ⟨q_ms s2 30 110, q_mh s2 (q_up g2 469 2 472) (fun _ => 0), ?_, ((S2.store (a := 469) (s := 2) (v := 472) (by decide) rfl).row (by decide) (by decide) (fun j => rfl) (fun _ _ _ _ => rfl)).mono (fun k j v _ _ hv q => ?_), by rw [q_mh_row, S2.1, q_row_ne (by decide), q_up_far (by decide)]; exact G2⟩
    · rw [e_X12_init_28, if_pos (by decide), if_pos ⟨by decide, by decide⟩, S2.1]
    · refine ⟨q.1.1, ?_⟩
      have h1 := q.1.2
      by_cases e : j = 2
      · exact (q.2 ⟨q.1.1, e⟩).elim
      · by_cases b : 4 ≤ j
        · exact b
        · exfalso
          have : j = 3 := by omega
          rw [q.1.1] at hv
          subst this; cases hv
  obtain ⟨s3, g3, e3, S3, G3⟩ := e3
  have e4 : ∃ s g, q_L 160 36 [(22, 469), (9, 0), (9, 0)] [(30, 473), (22, 469)] (s3, g3) = q_L 160 44 [(22, 469), (9, 0), (9, 0)] [(30, 474), (22, 469)] (s, g) ∧ ST 475 (fun k j => k = 469 ∧ 6 ≤ j) sl hl s g ∧ g 470 = (fun _ => 0) := by
    refine ⟨q_ms s3 30 7, q_mh s3 (q_up g3 469 4 473) (fun _ => 0), ?_, ((S3.store (a := 469) (s := 4) (v := 473) (by decide) rfl).row (by decide) (by decide) (fun j => rfl) (fun _ _ _ _ => rfl)).mono (fun k j v _ _ hv q => ?_), by rw [q_mh_row, S3.1, q_row_ne (by decide), q_up_far (by decide)]; exact G3⟩
    · rw [e_X12_init_36, if_pos (by decide), if_pos ⟨by decide, by decide⟩, S3.1]
    · refine ⟨q.1.1, ?_⟩
      have h1 := q.1.2
      by_cases e : j = 4
      · exact (q.2 ⟨q.1.1, e⟩).elim
      · by_cases b : 6 ≤ j
        · exact b
        · exfalso
          have : j = 5 := by omega
          rw [q.1.1] at hv
          subst this; cases hv
  obtain ⟨s4, g4, e4, S4, G4⟩ := e4
  have e5 : ∃ s g, q_L 160 44 [(22, 469), (9, 0), (9, 0)] [(30, 474), (22, 469)] (s4, g4) = q_L 160 51 [(22, 469), (9, 0), (9, 0)] [(30, 475), (22, 469)] (s, g) ∧ ST 476 (fun k j => k = 469 ∧ 7 ≤ j) sl hl s g ∧ g 470 = (fun _ => 0) := by
    refine ⟨q_ms s4 30 4, q_mh s4 (q_up g4 469 6 474) (fun _ => 0), ?_, ((S4.store (a := 469) (s := 6) (v := 474) (by decide) rfl).row (by decide) (by decide) (fun j => rfl) (fun _ _ _ _ => rfl)).mono (fun k j v _ _ hv q => ?_), by rw [q_mh_row, S4.1, q_row_ne (by decide), q_up_far (by decide)]; exact G4⟩
    · rw [e_X12_init_44, if_pos (by decide), if_pos ⟨by decide, by decide⟩, S4.1]
    · refine ⟨q.1.1, ?_⟩
      have h1 := q.1.2
      by_cases e : j = 6
      · exact (q.2 ⟨q.1.1, e⟩).elim
      · omega
  obtain ⟨s5, g5, e5, S5, G5⟩ := e5
  have e6 : ∃ s g, q_L 160 51 [(22, 469), (9, 0), (9, 0)] [(30, 475), (22, 469)] (s5, g5) = q_L 160 58 [(22, 469), (9, 0), (9, 0)] [(30, 476), (22, 469)] (s, g) ∧ ST 477 (fun k j => k = 469 ∧ 8 ≤ j) sl hl s g ∧ g 470 = (fun _ => 0) := by
    refine ⟨q_ms s5 30 4, q_mh s5 (q_up g5 469 7 475) (fun _ => 0), ?_, ((S5.store (a := 469) (s := 7) (v := 475) (by decide) rfl).row (by decide) (by decide) (fun j => rfl) (fun _ _ _ _ => rfl)).mono (fun k j v _ _ hv q => ?_), by rw [q_mh_row, S5.1, q_row_ne (by decide), q_up_far (by decide)]; exact G5⟩
    · rw [e_X12_init_51, if_pos (by decide), if_pos ⟨by decide, by decide⟩, S5.1]
    · refine ⟨q.1.1, ?_⟩
      have h1 := q.1.2
      by_cases e : j = 7
      · exact (q.2 ⟨q.1.1, e⟩).elim
      · omega
  obtain ⟨s6, g6, e6, S6, G6⟩ := e6
  have e7 : ∃ s g, q_L 160 58 [(22, 469), (9, 0), (9, 0)] [(30, 476), (22, 469)] (s6, g6) = q_L 160 66 [(22, 469), (9, 0), (9, 0)] [(30, 477), (22, 469)] (s, g) ∧ ST 478 (fun k j => k = 469 ∧ 9 ≤ j) sl hl s g ∧ g 470 = (fun _ => 0) := by
    refine ⟨q_ms s6 30 96, q_mh s6 (q_up g6 469 8 476) (fun _ => 0), ?_, ((S6.store (a := 469) (s := 8) (v := 476) (by decide) rfl).row (by decide) (by decide) (fun j => rfl) (fun _ _ _ _ => rfl)).mono (fun k j v _ _ hv q => ?_), by rw [q_mh_row, S6.1, q_row_ne (by decide), q_up_far (by decide)]; exact G6⟩
    · rw [e_X12_init_58, if_pos (by decide), if_pos ⟨by decide, by decide⟩, S6.1]
    · refine ⟨q.1.1, ?_⟩
      have h1 := q.1.2
      by_cases e : j = 8
      · exact (q.2 ⟨q.1.1, e⟩).elim
      · omega
  obtain ⟨s7, g7, e7, S7, G7⟩ := e7
  have e8 : ∃ s g, q_L 160 66 [(22, 469), (9, 0), (9, 0)] [(30, 477), (22, 469)] (s7, g7) = q_L 160 74 [(22, 469), (9, 0), (9, 0)] [(30, 478), (22, 469)] (s, g) ∧ ST 479 (fun k j => k = 469 ∧ 10 ≤ j) sl hl s g ∧ g 470 = (fun _ => 0) := by
    refine ⟨q_ms s7 30 24, q_mh s7 (q_up g7 469 9 477) (fun _ => 0), ?_, ((S7.store (a := 469) (s := 9) (v := 477) (by decide) rfl).row (by decide) (by decide) (fun j => rfl) (fun _ _ _ _ => rfl)).mono (fun k j v _ _ hv q => ?_), by rw [q_mh_row, S7.1, q_row_ne (by decide), q_up_far (by decide)]; exact G7⟩
    · rw [e_X12_init_66, if_pos (by decide), if_pos ⟨by decide, by decide⟩, S7.1]
    · refine ⟨q.1.1, ?_⟩
      have h1 := q.1.2
      by_cases e : j = 9
      · exact (q.2 ⟨q.1.1, e⟩).elim
      · omega
  obtain ⟨s8, g8, e8, S8, G8⟩ := e8
  have e9 : ∃ s g, q_L 160 74 [(22, 469), (9, 0), (9, 0)] [(30, 478), (22, 469)] (s8, g8) = q_L 160 82 [(22, 469), (9, 0), (9, 0)] [(30, 479), (22, 469)] (s, g) ∧ ST 480 (fun k j => k = 469 ∧ 16 ≤ j) sl hl s g ∧ g 470 = (fun _ => 0) := by
    refine ⟨q_ms s8 30 24, q_mh s8 (q_up g8 469 10 478) (fun _ => 0), ?_, ((S8.store (a := 469) (s := 10) (v := 478) (by decide) rfl).row (by decide) (by decide) (fun j => rfl) (fun _ _ _ _ => rfl)).mono (fun k j v _ _ hv q => ?_), by rw [q_mh_row, S8.1, q_row_ne (by decide), q_up_far (by decide)]; exact G8⟩
    · rw [e_X12_init_74, if_pos (by decide), if_pos ⟨by decide, by decide⟩, S8.1]
    · refine ⟨q.1.1, ?_⟩
      have h1 := q.1.2
      by_cases e : j = 10
      · exact (q.2 ⟨q.1.1, e⟩).elim
      · by_cases b : 16 ≤ j
        · exact b
        · exfalso
          have : j = 11 ∨ j = 12 ∨ j = 13 ∨ j = 14 ∨ j = 15 := by omega
          rw [q.1.1] at hv
          rcases this with w | w | w | w | w <;> (subst w; cases hv)
  obtain ⟨s9, g9, e9, S9, G9⟩ := e9
  have e10 : ∃ s g, q_L 160 82 [(22, 469), (9, 0), (9, 0)] [(30, 479), (22, 469)] (s9, g9) = q_L 160 90 [(22, 469), (9, 0), (9, 0)] [(30, 480), (22, 469)] (s, g) ∧ ST 481 (fun k j => k = 469 ∧ 17 ≤ j) sl hl s g ∧ g 470 = (fun _ => 0) ∧ g 480 = (fun _ => 0) := by
    refine ⟨q_ms s9 30 72, q_mh s9 (q_up g9 469 16 479) (fun _ => 0), ?_, ((S9.store (a := 469) (s := 16) (v := 479) (by decide) rfl).row (by decide) (by decide) (fun j => rfl) (fun _ _ _ _ => rfl)).mono (fun k j v _ _ hv q => ?_), by rw [q_mh_row, S9.1, q_row_ne (by decide), q_up_far (by decide)]; exact G9, by rw [q_mh_row, S9.1, q_row_self]⟩
    · rw [e_X12_init_82, if_pos (by decide), if_pos ⟨by decide, by decide⟩, S9.1]
    · refine ⟨q.1.1, ?_⟩
      have h1 := q.1.2
      by_cases e : j = 16
      · exact (q.2 ⟨q.1.1, e⟩).elim
      · omega
  obtain ⟨s10, g10, e10, S10, G10, H10⟩ := e10
  exact ⟨s10, g10, by rw [e0, e1, e2, e3, e4, e5, e6, e7, e8, e9, e10], S10, G10, H10⟩
theorem r_init2 {sl : Int → Nat × Int} {hl : Int → Int → Int} {sh : Int × (Int → Nat × Int)} {h : Int → Int → Int} {W Z : Int → Int} (S : ST 481 (fun k j => k = 469 ∧ 17 ≤ j) sl hl sh h) (G : h 470 = Z) (H : h 480 = W) : ∃ s g, q_L 160 488 [(22, 469), (9, 0), (9, 0)] [(30, 480), (22, 469)] (sh, h) = q_L 160 544 [(22, 469), (0, 0), (9, 0)] [] (s, g) ∧ ST 488 (fun _ _ => False) sl hl s g ∧ g 470 = Z ∧ g 480 = W := by
  have e11 : ∃ s g, q_L 160 488 [(22, 469), (9, 0), (9, 0)] [(30, 480), (22, 469)] (sh, h) = q_L 160 495 [(22, 469), (9, 0), (9, 0)] [(30, 481), (22, 469)] (s, g) ∧ ST 482 (fun k j => k = 469 ∧ 19 ≤ j) sl hl s g ∧ g 470 = Z ∧ g 480 = W := by
    refine ⟨q_ms sh 30 5, q_mh sh (q_up h 469 17 480) (fun _ => 0), ?_, ((S.store (a := 469) (s := 17) (v := 480) (by decide) rfl).row (by decide) (by decide) (fun j => rfl) (fun _ _ _ _ => rfl)).mono (fun k j v _ _ hv q => ?_), by rw [q_mh_row, S.1, q_row_ne (by decide), q_up_far (by decide)]; exact G, by rw [q_mh_row, S.1, q_row_ne (by decide), q_up_far (by decide)]; exact H⟩
    · rw [e_X12_init_488, if_pos (by decide), if_pos ⟨by decide, by decide⟩, S.1]
    · refine ⟨q.1.1, ?_⟩
      have h1 := q.1.2
      by_cases e : j = 17
      · exact (q.2 ⟨q.1.1, e⟩).elim
      · by_cases b : 19 ≤ j
        · exact b
        · exfalso
          have : j = 18 := by omega
          rw [q.1.1] at hv
          subst this; cases hv
  obtain ⟨s11, g11, e11, S11, G11, H11⟩ := e11
  have e12 : ∃ s g, q_L 160 495 [(22, 469), (9, 0), (9, 0)] [(30, 481), (22, 469)] (s11, g11) = q_L 160 502 [(22, 469), (9, 0), (9, 0)] [(30, 482), (22, 469)] (s, g) ∧ ST 483 (fun k j => k = 469 ∧ 20 ≤ j) sl hl s g ∧ g 470 = Z ∧ g 480 = W := by
    refine ⟨q_ms s11 30 5, q_mh s11 (q_up g11 469 19 481) (fun _ => 0), ?_, ((S11.store (a := 469) (s := 19) (v := 481) (by decide) rfl).row (by decide) (by decide) (fun j => rfl) (fun _ _ _ _ => rfl)).mono (fun k j v _ _ hv q => ?_), by rw [q_mh_row, S11.1, q_row_ne (by decide), q_up_far (by decide)]; exact G11, by rw [q_mh_row, S11.1, q_row_ne (by decide), q_up_far (by decide)]; exact H11⟩
    · rw [e_X12_init_495, if_pos (by decide), if_pos ⟨by decide, by decide⟩, S11.1]
    · refine ⟨q.1.1, ?_⟩
      have h1 := q.1.2
      by_cases e : j = 19
      · exact (q.2 ⟨q.1.1, e⟩).elim
      · omega
  obtain ⟨s12, g12, e12, S12, G12, H12⟩ := e12
  have e13 : ∃ s g, q_L 160 502 [(22, 469), (9, 0), (9, 0)] [(30, 482), (22, 469)] (s12, g12) = q_L 160 509 [(22, 469), (9, 0), (9, 0)] [(30, 483), (22, 469)] (s, g) ∧ ST 484 (fun k j => k = 469 ∧ 21 ≤ j) sl hl s g ∧ g 470 = Z ∧ g 480 = W := by
    refine ⟨q_ms s12 30 5, q_mh s12 (q_up g12 469 20 482) (fun _ => 0), ?_, ((S12.store (a := 469) (s := 20) (v := 482) (by decide) rfl).row (by decide) (by decide) (fun j => rfl) (fun _ _ _ _ => rfl)).mono (fun k j v _ _ hv q => ?_), by rw [q_mh_row, S12.1, q_row_ne (by decide), q_up_far (by decide)]; exact G12, by rw [q_mh_row, S12.1, q_row_ne (by decide), q_up_far (by decide)]; exact H12⟩
    · rw [e_X12_init_502, if_pos (by decide), if_pos ⟨by decide, by decide⟩, S12.1]
    · refine ⟨q.1.1, ?_⟩
      have h1 := q.1.2
      by_cases e : j = 20
      · exact (q.2 ⟨q.1.1, e⟩).elim
      · omega
  obtain ⟨s13, g13, e13, S13, G13, H13⟩ := e13
  have e14 : ∃ s g, q_L 160 509 [(22, 469), (9, 0), (9, 0)] [(30, 483), (22, 469)] (s13, g13) = q_L 160 516 [(22, 469), (9, 0), (9, 0)] [(30, 484), (22, 469)] (s, g) ∧ ST 485 (fun k j => k = 469 ∧ 22 ≤ j) sl hl s g ∧ g 470 = Z ∧ g 480 = W := by
    refine ⟨q_ms s13 30 5, q_mh s13 (q_up g13 469 21 483) (fun _ => 0), ?_, ((S13.store (a := 469) (s := 21) (v := 483) (by decide) rfl).row (by decide) (by decide) (fun j => rfl) (fun _ _ _ _ => rfl)).mono (fun k j v _ _ hv q => ?_), by rw [q_mh_row, S13.1, q_row_ne (by decide), q_up_far (by decide)]; exact G13, by rw [q_mh_row, S13.1, q_row_ne (by decide), q_up_far (by decide)]; exact H13⟩
    · rw [e_X12_init_509, if_pos (by decide), if_pos ⟨by decide, by decide⟩, S13.1]
    · refine ⟨q.1.1, ?_⟩
      have h1 := q.1.2
      by_cases e : j = 21
      · exact (q.2 ⟨q.1.1, e⟩).elim
      · omega
  obtain ⟨s14, g14, e14, S14, G14, H14⟩ := e14
  have e15 : ∃ s g, q_L 160 516 [(22, 469), (9, 0), (9, 0)] [(30, 484), (22, 469)] (s14, g14) = q_L 160 523 [(22, 469), (9, 0), (9, 0)] [(30, 485), (22, 469)] (s, g) ∧ ST 486 (fun k j => k = 469 ∧ 23 ≤ j) sl hl s g ∧ g 470 = Z ∧ g 480 = W := by
    refine ⟨q_ms s14 30 5, q_mh s14 (q_up g14 469 22 484) (fun _ => 0), ?_, ((S14.store (a := 469) (s := 22) (v := 484) (by decide) rfl).row (by decide) (by decide) (fun j => rfl) (fun _ _ _ _ => rfl)).mono (fun k j v _ _ hv q => ?_), by rw [q_mh_row, S14.1, q_row_ne (by decide), q_up_far (by decide)]; exact G14, by rw [q_mh_row, S14.1, q_row_ne (by decide), q_up_far (by decide)]; exact H14⟩
    · rw [e_X12_init_516, if_pos (by decide), if_pos ⟨by decide, by decide⟩, S14.1]
    · refine ⟨q.1.1, ?_⟩
      have h1 := q.1.2
      by_cases e : j = 22
      · exact (q.2 ⟨q.1.1, e⟩).elim
      · omega
  obtain ⟨s15, g15, e15, S15, G15, H15⟩ := e15
  have e16 : ∃ s g, q_L 160 523 [(22, 469), (9, 0), (9, 0)] [(30, 485), (22, 469)] (s15, g15) = q_L 160 531 [(22, 469), (9, 0), (9, 0)] [(30, 486), (22, 469)] (s, g) ∧ ST 487 (fun k j => k = 469 ∧ 26 ≤ j) sl hl s g ∧ g 470 = Z ∧ g 480 = W := by
    refine ⟨q_ms s15 30 6, q_mh s15 (q_up g15 469 23 485) (fun _ => 0), ?_, ((S15.store (a := 469) (s := 23) (v := 485) (by decide) rfl).row (by decide) (by decide) (fun j => rfl) (fun _ _ _ _ => rfl)).mono (fun k j v _ _ hv q => ?_), by rw [q_mh_row, S15.1, q_row_ne (by decide), q_up_far (by decide)]; exact G15, by rw [q_mh_row, S15.1, q_row_ne (by decide), q_up_far (by decide)]; exact H15⟩
    · rw [e_X12_init_523, if_pos (by decide), if_pos ⟨by decide, by decide⟩, S15.1]
    · refine ⟨q.1.1, ?_⟩
      have h1 := q.1.2
      by_cases e : j = 23
      · exact (q.2 ⟨q.1.1, e⟩).elim
      · by_cases b : 26 ≤ j
        · exact b
        · exfalso
          have : j = 24 ∨ j = 25 := by omega
          rw [q.1.1] at hv
          rcases this with w | w <;> (subst w; cases hv)
  obtain ⟨s16, g16, e16, S16, G16, H16⟩ := e16
  have e17 : ∃ s g, q_L 160 531 [(22, 469), (9, 0), (9, 0)] [(30, 486), (22, 469)] (s16, g16) = q_L 160 539 [(22, 469), (9, 0), (9, 0)] [(31, 487), (22, 469)] (s, g) ∧ ST 488 (fun k j => k = 469 ∧ 27 ≤ j) sl hl s g ∧ g 470 = Z ∧ g 480 = W := by
    refine ⟨q_ms s16 31 12, q_mh s16 (q_up g16 469 26 486) (fun _ => 0), ?_, ((S16.store (a := 469) (s := 26) (v := 486) (by decide) rfl).row (by decide) (by decide) (fun j => rfl) (fun _ _ _ _ => rfl)).mono (fun k j v _ _ hv q => ?_), by rw [q_mh_row, S16.1, q_row_ne (by decide), q_up_far (by decide)]; exact G16, by rw [q_mh_row, S16.1, q_row_ne (by decide), q_up_far (by decide)]; exact H16⟩
    · rw [e_X12_init_531, if_pos (by decide), if_pos ⟨by decide, by decide⟩, S16.1]
    · refine ⟨q.1.1, ?_⟩
      have h1 := q.1.2
      by_cases e : j = 26
      · exact (q.2 ⟨q.1.1, e⟩).elim
      · omega
  obtain ⟨s17, g17, e17, S17, G17, H17⟩ := e17
  refine ⟨s17, q_up g17 469 27 487, ?_, (S17.store (a := 469) (s := 27) (v := 487) (by decide) rfl).mono (fun k j v _ _ hv q => ?_), by rw [q_up_far (by decide)]; exact G17, by rw [q_up_far (by decide)]; exact H17⟩
  · rw [e11, e12, e13, e14, e15, e16, e17, e_X12_init_539, if_pos (by decide)]
  · have h1 := q.1.2
    by_cases e : j = 27
    · exact q.2 ⟨q.1.1, e⟩
    · rw [q.1.1] at hv
      have : VP0 469 j = none := by
        unfold VP0
        rw [if_neg (by decide), if_neg (by decide), if_neg (by decide), if_neg (by decide), if_neg (by decide), if_neg (by decide), if_neg (by decide), if_pos rfl]
        unfold VPm
        rw [if_neg (by omega), if_neg (by omega), if_neg (by omega), if_neg (by omega), if_neg (by omega), if_neg (by omega), if_neg (by omega), if_neg (by omega), if_neg (by omega), if_neg (by omega)]
      rw [this] at hv; cases hv
def P0 (i : Int) : Int := if 1098 ≤ i ∧ i < 1162 then (i - 1098) % 8 else 0
theorem r_init3 {sh : Int × (Int → Nat × Int)} {g : Int → Int → Int} (l : (sh.2 470).2 = 1354) (g0 : g 469 0 = 470) (G : g 470 = fun _ => 0) : q_L 160 544 [(22, 469), (0, 0), (9, 0)] [] (sh, g) = some ((9, 0), (sh, q_row g 470 P0)) := by
  have := lp (fun c (y : (Int → Int) × q_V) => q_L 160 544 [(22, 469), (0, c), y.2] [] (sh, q_row g 470 y.1)) (fun c y => ∀ i, y.1 i = if 1098 ≤ i ∧ i < 1098 + 8 * c then (i - 1098) % 8 else 0) (fun r => r = some ((9, 0), (sh, q_row g 470 P0))) 8 ?_ ?_ 0 (fun _ => 0, (9, 0)) (by decide) (by decide) (fun i => by show (0 : Int) = _; rw [if_neg (by omega)])
  · have this : q_L 160 544 [(22, 469), (0, 0), (9, 0)] [] (sh, q_row g 470 (fun _ => 0)) = some ((9, 0), (sh, q_row g 470 P0)) := this
    rw [← q_row_in G] at this
    exact this
  · intro c y c0 c1 hI
    obtain ⟨F, x2⟩ := y
    have hI : ∀ i, F i = if 1098 ≤ i ∧ i < 1098 + 8 * c then (i - 1098) % 8 else 0 := hI
    left
    have inner := lp (fun s (F : Int → Int) => q_L 160 552 [(22, 469), (0, c), (0, s)] [] (sh, q_row g 470 F)) (fun s F => ∀ i, F i = if 1098 ≤ i ∧ i < 1098 + 8 * c + s then (i - 1098) % 8 else 0) (fun r => ∃ F' : Int → Int, r = q_L 160 544 [(22, 469), (0, c + 1), (0, 8)] [] (sh, q_row g 470 F') ∧ ∀ i, F' i = if 1098 ≤ i ∧ i < 1098 + 8 * (c + 1) then (i - 1098) % 8 else 0) 8 ?_ ?_ 0 F (by decide) (by decide) (fun i => by rw [hI, Int.add_zero])
    · obtain ⟨F', q1, q2⟩ := inner
      refine ⟨(F', (0, 8)), ?_, q2⟩
      have q1 : q_L 160 552 [(22, 469), (0, c), (0, 0)] [] (sh, q_row g 470 F) = q_L 160 544 [(22, 469), (0, c + 1), (0, 8)] [] (sh, q_row g 470 F') := q1
      show q_L 160 544 [(22, 469), (0, c), x2] [] (sh, q_row g 470 F) = q_L 160 544 [(22, 469), (0, c + 1), (0, 8)] [] (sh, q_row g 470 F')
      rw [← q1, e_X12_init_544, if_pos c1]
    · intro s F s0 s1 hF
      left
      refine ⟨ud F (1098 + 8 * c + s) s, ?_, fun i => ?_⟩
      · rw [e_X12_init_552]
        simp (disch := omega) only [q_470, q_up_far, q_row_row, q_row_self, q_row_ne, q_up_ne, q_up_eq, q_rowup, ud_eq, ud_ne, q_add_id, q_sub_id, q_mul_id, q_w_eq, q_rem_n, q_div_n, ↓reduceIte, leT, leF, ltT, ltF, eqT, eqF, true_or, or_true, false_or, or_false, true_and, and_true, false_and, and_false, or_self, and_self, Option.bind_some, g0, l]
      · by_cases e : i = 1098 + 8 * c + s
        · rw [ud_eq e, if_pos (by omega)]; omega
        · rw [ud_ne e, hF i]
          by_cases z : 1098 ≤ i ∧ i < 1098 + 8 * c + s
          · rw [if_pos z, if_pos (by omega)]
          · rw [if_neg z, if_neg (by omega)]
    · intro F hF
      refine ⟨F, ?_, fun i => ?_⟩
      · show q_L 160 552 [(22, 469), (0, c), (0, 8)] [] (sh, q_row g 470 F) = _
        rw [e_X12_init_552]
        simp (disch := omega) only [q_470, q_up_far, q_row_row, q_row_self, q_row_ne, q_up_ne, q_up_eq, q_rowup, ud_eq, ud_ne, q_add_id, q_sub_id, q_mul_id, q_w_eq, q_rem_n, q_div_n, ↓reduceIte, leT, leF, ltT, ltF, eqT, eqF, true_or, or_true, false_or, or_false, true_and, and_true, false_and, and_false, or_self, and_self, Option.bind_some, ]
      · rw [hF i]
        have e : 1098 + 8 * c + 8 = 1098 + 8 * (c + 1) := by omega
        rw [e]
  · intro y hI
    obtain ⟨F, x2⟩ := y
    have eF : F = P0 := by
      funext i
      have hI : ∀ i, F i = if 1098 ≤ i ∧ i < 1098 + 8 * 8 then (i - 1098) % 8 else 0 := hI
      rw [hI i]; rfl
    show q_L 160 544 [(22, 469), (0, 8), x2] [] (sh, q_row g 470 F) = _
    rw [e_X12_init_544, if_neg (by decide), eF]
