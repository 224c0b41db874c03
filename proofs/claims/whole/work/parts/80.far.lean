/-! FarDishes is made -/
theorem ST.mk2 {Q : Int → Int → Prop} {sl : Int → Nat × Int} {hl : Int → Int → Int} {sh : Int × (Int → Nat × Int)} {h : Int → Int → Int} (S : ST 454 Q sl hl sh h) : ST 459 Q sl hl (q_mk2 (sh, h) 4 6).1 (q_mk2 (sh, h) 4 6).2 := by
  obtain ⟨s1, s2, s3, s4, s5⟩ := S
  have e1 : ∀ k, (q_mk2 (sh, h) 4 6).1.2 k = if k = 454 then (32, 4) else if 454 < k ∧ k ≤ 458 then (30, 6) else sh.2 k := by
    intro k
    show (if k = sh.1 then ((32 : Nat), (4 : Int)) else if sh.1 < k ∧ k ≤ sh.1 + 4 then ((30 : Nat), (6 : Int)) else sh.2 k) = _
    rw [s1]; rfl
  have e2 : ∀ k j, (q_mk2 (sh, h) 4 6).2 k j = if k = 454 then 455 + j else if 454 < k ∧ k ≤ 458 then 0 else h k j := by
    intro k j
    show (if k = sh.1 then sh.1 + 1 + j else if sh.1 < k ∧ k ≤ sh.1 + 4 then 0 else h k j) = _
    rw [s1]; rfl
  refine ⟨by show sh.1 + 1 + 4 = 459; rw [s1]; rfl, fun k k0 k1 => ?_, fun k j v k0 k1 hv hq => ?_, fun k j k0 k1 k2 k3 hv ht => ?_, fun k k0 => ⟨?_, ?_⟩⟩
  · rw [e1]
    by_cases a : k = 454
    · rw [if_pos a, a]; decide
    · rw [if_neg a]
      by_cases b : 454 < k ∧ k ≤ 458
      · rw [if_pos b]
        have : k = 455 ∨ k = 456 ∨ k = 457 ∨ k = 458 := by omega
        rcases this with q | q | q | q <;> (subst q; decide)
      · rw [if_neg b]; exact s2 k k0 (by omega)
  · rw [e2]
    by_cases a : k = 454
    · rw [if_pos a]
      subst a
      unfold VP0 at hv
      rw [if_neg (by decide), if_neg (by decide), if_neg (by decide), if_neg (by decide), if_pos rfl] at hv
      split at hv
      · injection hv
      · cases hv
    · rw [if_neg a]
      by_cases b : 454 < k ∧ k ≤ 458
      · have : k = 455 ∨ k = 456 ∨ k = 457 ∨ k = 458 := by omega
        rcases this with q | q | q | q <;> (subst q; cases hv)
      · rw [if_neg b]; exact s3 k j v k0 (by omega) hv hq
  · rw [e2]
    by_cases a : k = 454
    · rw [a] at ht; exact absurd ht (by decide)
    · rw [if_neg a]
      by_cases b : 454 < k ∧ k ≤ 458
      · rw [if_pos b]
      · rw [if_neg b]; exact s4 k j k0 (by omega) k2 k3 hv ht
  · rw [e1, if_neg (by omega), if_neg (by omega)]; exact (s5 k k0).1
  · funext j
    rw [e2, if_neg (by omega), if_neg (by omega)]
    exact congrFun (s5 k k0).2 j
theorem kon_text : KON 75 19 452 459 := by
  intro Q sl hl sh h hq S
  have vo : ∀ j, j ≠ 0 → j ≠ 2 → VP0 452 j = none := fun j h0 h2 => VP_452 h0 h2
  have S1 := (S.row (t := 30) (len := 110) (z := fun _ => 0) (by decide) (by decide) (fun j => rfl) (fun _ _ _ _ => rfl)).cast (show _ = (454 : Int) by decide)
  have n0 : sh.1 = 453 := S.1
  have S2 := (S1.store (a := 452) (s := 0) (v := 453) (by decide) rfl).mk2
  have n1 : (q_ms sh 30 110).1 = 454 := S1.1
  have S3 := S2.store (a := 452) (s := 2) (v := 454) (by decide) rfl
  refine ⟨_, _, ?_, S3.mono (fun k j v _ _ hv q => ?_)⟩
  · rw [c_X9_init, e_X9_init_0, if_pos ⟨by decide, by decide⟩, n0, e_X9_init_9, if_pos (by decide), if_pos ⟨by decide, by decide, by decide, by decide⟩, n1, e_X9_init_20, if_pos (by decide)]
  · by_cases e : k = 452
    · exfalso
      rw [e, vo j (fun z => by simp [e, z] at q) (fun z => by simp [e, z] at q)] at hv
      cases hv
    · have : Q k j := by simpa [e] using q
      exact this
theorem VP_442 {j : Int} (h : ¬ (3 ≤ j ∧ j ≤ 11)) : VP0 442 j = none := by
  unfold VP0
  rw [if_neg (by decide), if_neg (by decide), if_pos rfl, if_neg h]
theorem kon_planner : KON 35 15 442 452 := by
  have k := kon_X5_init (a := 442) (by decide) rfl rfl rfl rfl rfl rfl rfl rfl rfl (fun j a b c d e f g h i => VP_442 (by omega)) (fun j => rfl) (by decide) (fun j => rfl) (by decide) (fun j => rfl) (by decide) (fun j => rfl) (by decide) (fun j => rfl) (by decide) (fun j => rfl) (by decide) (fun j => rfl) (by decide) (fun j => rfl) (by decide) (fun j => rfl) (by decide)
  exact k
theorem kon_sheet {i : Int} (i0 : 0 ≤ i) (i1 : i < 4) : KON 64 17 (460 + 2 * i) (460 + 2 * i + 2) := by
  have : i = 0 ∨ i = 1 ∨ i = 2 ∨ i = 3 := by omega
  have vo : ∀ (x j : Int), (x = 460 ∨ x = 462 ∨ x = 464 ∨ x = 466) → j ≠ 2 → VP0 x j = none := by
    intro x j hx hj
    unfold VP0
    rw [if_neg (by omega), if_neg (by omega), if_neg (by omega), if_neg (by omega), if_neg (by omega), if_neg (by omega), if_pos (by omega), if_neg hj]
  rcases this with q | q | q | q <;> subst q
  · exact kon_X7_init (a := 460) (by decide) rfl (fun j hj => vo 460 j (by omega) hj) (fun j => rfl) (by decide)
  · exact kon_X7_init (a := 462) (by decide) rfl (fun j hj => vo 462 j (by omega) hj) (fun j => rfl) (by decide)
  · exact kon_X7_init (a := 464) (by decide) rfl (fun j hj => vo 464 j (by omega) hj) (fun j => rfl) (by decide)
  · exact kon_X7_init (a := 466) (by decide) rfl (fun j hj => vo 466 j (by omega) hj) (fun j => rfl) (by decide)
theorem kon_far {sl : Int → Nat × Int} {hl : Int → Int → Int} {sh : Int × (Int → Nat × Int)} {h : Int → Int → Int} (S : ST 1 (fun k j => k = 0 ∧ 0 ≤ j) sl hl sh h) : ∃ sh' h', q_Cc 106 [(21, 0)] (sh, h) = some ((9, 0), (sh', h')) ∧ ST 469 (fun _ _ => False) sl hl sh' h' := by
  have e0 : ∃ s g, q_Cc 106 [(21, 0)] (sh, h) = q_L 106 8 [(21, 0), (9, 0)] [(20, 1), (21, 0)] (s, g) ∧ ST (1 + 1) (fun k j => k = 1 ∨ (k = 0 ∧ 0 ≤ j)) sl hl s g := by
    refine ⟨q_ms sh 20 9, q_mh sh h (q_zf [4, 5, 6, 7, 8]), ?_, S.obj (by decide) (by decide) (fun j hn _ _ _ => q_zf_z (fun x hx e => by
      have hx : x = 4 ∨ x = 5 ∨ x = 6 ∨ x = 7 ∨ x = 8 := by simpa using hx
      rw [e] at hn
      rcases hx with q | q | q | q | q <;> (subst q; exact absurd hn (by decide))))⟩
    rw [c_X11_init, e_X11_init_0, S.1]
  obtain ⟨s0, g0, e0, T0⟩ := e0
  obtain ⟨u0, f0, c0, S0⟩ := kon_world (Or.inl rfl) _ sl hl s0 g0 (fun k j hk q => by have := q.1; omega) T0
  have d0 : q_L 106 8 [(21, 0), (9, 0)] [(20, 1), (21, 0)] (s0, g0) = q_L 106 12 [(21, 0), (9, 0)] [(20, 1), (21, 0)] (u0, f0) := by
    rw [e_X11_init_8, c0, Option.bind_some]
  have S0 := S0.cast (show _ = (148 : Int) by decide)
  have e1 : ∃ s g, q_L 106 12 [(21, 0), (9, 0)] [(20, 1), (21, 0)] (u0, f0) = q_L 106 19 [(21, 0), (9, 0)] [(20, 148), (21, 0)] (s, g) ∧ ST (148 + 1) (fun k j => k = 148 ∨ (k = 0 ∧ 1 ≤ j)) sl hl s g := by
    refine ⟨q_ms u0 20 9, q_mh u0 (q_up f0 0 0 1) (q_zf [4, 5, 6, 7, 8]), ?_, ((S0.store (a := 0) (s := 0) (v := 1) (by decide) rfl).obj (by decide) (by decide) (fun j hn _ _ _ => q_zf_z (fun x hx e => by
      have hx : x = 4 ∨ x = 5 ∨ x = 6 ∨ x = 7 ∨ x = 8 := by simpa using hx
      rw [e] at hn
      rcases hx with q | q | q | q | q <;> (subst q; exact absurd hn (by decide))))).mono (fun k j v _ _ hv q => ?_)⟩
    · rw [e_X11_init_12, if_pos (by decide), S0.1]
    · rcases q with q | ⟨q, n⟩
      · exact Or.inl q
      · refine Or.inr ⟨q.1, ?_⟩
        have := q.2
        by_cases z : j = 0
        · exact (n ⟨q.1, z⟩).elim
        · omega
  obtain ⟨s1, g1, e1, T1⟩ := e1
  obtain ⟨u1, f1, c1, S1⟩ := kon_world (Or.inr (Or.inl rfl)) _ sl hl s1 g1 (fun k j hk q => by have := q.1; omega) T1
  have d1 : q_L 106 19 [(21, 0), (9, 0)] [(20, 148), (21, 0)] (s1, g1) = q_L 106 23 [(21, 0), (9, 0)] [(20, 148), (21, 0)] (u1, f1) := by
    rw [e_X11_init_19, c1, Option.bind_some]
  have S1 := S1.cast (show _ = (295 : Int) by decide)
  have e2 : ∃ s g, q_L 106 23 [(21, 0), (9, 0)] [(20, 148), (21, 0)] (u1, f1) = q_L 106 30 [(21, 0), (9, 0)] [(20, 295), (21, 0)] (s, g) ∧ ST (295 + 1) (fun k j => k = 295 ∨ (k = 0 ∧ 2 ≤ j)) sl hl s g := by
    refine ⟨q_ms u1 20 9, q_mh u1 (q_up f1 0 1 148) (q_zf [4, 5, 6, 7, 8]), ?_, ((S1.store (a := 0) (s := 1) (v := 148) (by decide) rfl).obj (by decide) (by decide) (fun j hn _ _ _ => q_zf_z (fun x hx e => by
      have hx : x = 4 ∨ x = 5 ∨ x = 6 ∨ x = 7 ∨ x = 8 := by simpa using hx
      rw [e] at hn
      rcases hx with q | q | q | q | q <;> (subst q; exact absurd hn (by decide))))).mono (fun k j v _ _ hv q => ?_)⟩
    · rw [e_X11_init_23, if_pos (by decide), S1.1]
    · rcases q with q | ⟨q, n⟩
      · exact Or.inl q
      · refine Or.inr ⟨q.1, ?_⟩
        have := q.2
        by_cases z : j = 1
        · exact (n ⟨q.1, z⟩).elim
        · omega
  obtain ⟨s2, g2, e2, T2⟩ := e2
  obtain ⟨u2, f2, c2, S2⟩ := kon_world (Or.inr (Or.inr rfl)) _ sl hl s2 g2 (fun k j hk q => by have := q.1; omega) T2
  have d2 : q_L 106 30 [(21, 0), (9, 0)] [(20, 295), (21, 0)] (s2, g2) = q_L 106 34 [(21, 0), (9, 0)] [(20, 295), (21, 0)] (u2, f2) := by
    rw [e_X11_init_30, c2, Option.bind_some]
  have S2 := S2.cast (show _ = (442 : Int) by decide)
  have e3 : ∃ s g, q_L 106 34 [(21, 0), (9, 0)] [(20, 295), (21, 0)] (u2, f2) = q_L 106 41 [(21, 0), (9, 0)] [(15, 442), (21, 0)] (s, g) ∧ ST (442 + 1) (fun k j => k = 442 ∨ (k = 0 ∧ 3 ≤ j)) sl hl s g := by
    refine ⟨q_ms u2 15 12, q_mh u2 (q_up f2 0 2 295) (q_zf [3, 4, 5, 6, 7, 8, 9, 10, 11]), ?_, ((S2.store (a := 0) (s := 2) (v := 295) (by decide) rfl).obj (by decide) (by decide) (fun j hn _ _ _ => q_zf_z (fun x hx e => by
      have hx : x = 3 ∨ x = 4 ∨ x = 5 ∨ x = 6 ∨ x = 7 ∨ x = 8 ∨ x = 9 ∨ x = 10 ∨ x = 11 := by simpa using hx
      rw [e] at hn
      rcases hx with q | q | q | q | q | q | q | q | q <;> (subst q; exact absurd hn (by decide))))).mono (fun k j v _ _ hv q => ?_)⟩
    · rw [e_X11_init_34, if_pos (by decide), S2.1]
    · rcases q with q | ⟨q, n⟩
      · exact Or.inl q
      · refine Or.inr ⟨q.1, ?_⟩
        have := q.2
        by_cases z : j = 2
        · exact (n ⟨q.1, z⟩).elim
        · omega
  obtain ⟨s3, g3, e3, T3⟩ := e3
  obtain ⟨u3, f3, c3, S3⟩ := kon_planner _ sl hl s3 g3 (fun k j hk q => by have := q.1; omega) T3
  have d3 : q_L 106 41 [(21, 0), (9, 0)] [(15, 442), (21, 0)] (s3, g3) = q_L 106 45 [(21, 0), (9, 0)] [(15, 442), (21, 0)] (u3, f3) := by
    rw [e_X11_init_41, c3, Option.bind_some]
  have e4 : ∃ s g, q_L 106 45 [(21, 0), (9, 0)] [(15, 442), (21, 0)] (u3, f3) = q_L 106 52 [(21, 0), (9, 0)] [(19, 452), (21, 0)] (s, g) ∧ ST (452 + 1) (fun k j => k = 452 ∨ (k = 0 ∧ 4 ≤ j)) sl hl s g := by
    refine ⟨q_ms u3 19 8, q_mh u3 (q_up f3 0 3 442) (q_zf [0, 2]), ?_, ((S3.store (a := 0) (s := 3) (v := 442) (by decide) rfl).obj (by decide) (by decide) (fun j hn _ _ _ => q_zf_z (fun x hx e => by
      have hx : x = 0 ∨ x = 2 := by simpa using hx
      rw [e] at hn
      rcases hx with q | q <;> (subst q; exact absurd hn (by decide))))).mono (fun k j v _ _ hv q => ?_)⟩
    · rw [e_X11_init_45, if_pos (by decide), S3.1]
    · rcases q with q | ⟨q, n⟩
      · exact Or.inl q
      · refine Or.inr ⟨q.1, ?_⟩
        have := q.2
        by_cases z : j = 3
        · exact (n ⟨q.1, z⟩).elim
        · omega
  obtain ⟨s4, g4, e4, T4⟩ := e4
  obtain ⟨u4, f4, c4, S4⟩ := kon_text _ sl hl s4 g4 (fun k j hk q => by have := q.1; omega) T4
  have d4 : q_L 106 52 [(21, 0), (9, 0)] [(19, 452), (21, 0)] (s4, g4) = q_L 106 56 [(21, 0), (9, 0)] [(19, 452), (21, 0)] (u4, f4) := by
    rw [e_X11_init_52, c4, Option.bind_some]
  have e5 : ∃ s g, q_L 106 56 [(21, 0), (9, 0)] [(19, 452), (21, 0)] (u4, f4) = q_L 106 69 [(21, 0), (0, 0)] [] (s, g) ∧ ST (460 + 2 * 0) (fun k j => (k = 459 ∧ 0 ≤ j) ∨ (k = 0 ∧ 6 ≤ j)) sl hl s g := by
    have Z := (S4.store (a := 0) (s := 4) (v := 452) (by decide) rfl).obj (t := 47) (len := 4) (z := fun _ => -1) (by decide) (by decide) (fun _ _ ht _ _ => absurd ht (by decide))
    refine ⟨q_ms u4 47 4, q_up (q_mh u4 (q_up f4 0 4 452) (fun _ => -1)) 0 5 459, ?_, ((Z.store (a := 0) (s := 5) (v := 459) (by decide) rfl).mono (fun k j v _ _ hv q => ?_)).cast (by decide)⟩
    · rw [e_X11_init_56, if_pos (by decide), if_pos ⟨by decide, by decide⟩, S4.1, e_X11_init_64, if_pos (by decide)]
    · obtain ⟨q | ⟨q, n⟩, m⟩ := q
      · by_cases z : 0 ≤ j
        · exact Or.inl ⟨q, z⟩
        · exfalso
          rw [q] at hv
          unfold VP0 at hv
          rw [if_neg (by decide), if_neg (by decide), if_neg (by decide), if_neg (by decide), if_neg (by decide), if_pos rfl, if_neg (by omega)] at hv
          cases hv
      · right
        refine ⟨q.1, ?_⟩
        have := q.2
        by_cases z : j = 4
        · exact (n ⟨q.1, z⟩).elim
        · by_cases z2 : j = 5
          · exact (m ⟨q.1, z2⟩).elim
          · omega
  obtain ⟨s5, g5, e5, S5⟩ := e5
  have o9 : ∀ j, ¬ (0 ≤ j ∧ j < 4) → VP0 459 j = none := by
    intro j hj
    unfold VP0
    rw [if_neg (by decide), if_neg (by decide), if_neg (by decide), if_neg (by decide), if_neg (by decide), if_pos rfl, if_neg hj]
  have v9 : ∀ j, 0 ≤ j → j < 4 → VP0 459 j = some (460 + 2 * j) := by
    intro j h0 h1
    unfold VP0
    rw [if_neg (by decide), if_neg (by decide), if_neg (by decide), if_neg (by decide), if_neg (by decide), if_pos rfl, if_pos ⟨h0, h1⟩]
  have e6 : ∃ s g, q_L 106 69 [(21, 0), (0, 0)] [] (s5, g5) = some ((9, 0), (s, g)) ∧ ST 469 (fun _ _ => False) sl hl s g := by
    refine lp (fun i (y : (Int × (Int → Nat × Int)) × (Int → Int → Int)) => q_L 106 69 [(21, 0), (0, i)] [] (y.1, y.2)) (fun i y => ST (460 + 2 * i) (fun k j => (k = 459 ∧ i ≤ j) ∨ (k = 0 ∧ 6 ≤ j)) sl hl y.1 y.2) (fun z => ∃ s g, z = some ((9, 0), (s, g)) ∧ ST 469 (fun _ _ => False) sl hl s g) 4 ?_ ?_ 0 (s5, g5) (by decide) (by decide) S5
    · intro i y i0 i1 Y
      obtain ⟨s, g⟩ := y
      have Y : ST (460 + 2 * i) (fun k j => (k = 459 ∧ i ≤ j) ∨ (k = 0 ∧ 6 ≤ j)) sl hl s g := Y
      have h5 : g 0 5 = 459 := Y.get (by decide) (by omega) (v := 459) rfl (fun q => by omega)
      have lt : LT0 (460 + 2 * i) = (17, 3) := by
        have : i = 0 ∨ i = 1 ∨ i = 2 ∨ i = 3 := by omega
        rcases this with q | q | q | q <;> (subst q; decide)
      have Z := Y.obj (t := 17) (len := 3) (z := q_zf [2]) (by omega) lt (fun j hn _ _ _ => q_zf_z (fun x hx e => by
        have hx : x = 2 := by simpa using hx
        rw [e, hx] at hn
        have : i = 0 ∨ i = 1 ∨ i = 2 ∨ i = 3 := by omega
        rcases this with q | q | q | q <;> (subst q; exact absurd hn (by decide))))
      obtain ⟨s2, g2, c1, Z1⟩ := kon_sheet i0 i1 _ sl hl _ _ (fun k j hk q => by omega) Z
      have Z2 := Z1.store (a := 459) (s := i) (v := 460 + 2 * i) (by decide) (v9 i i0 i1)
      have lz : (s2.2 459).2 = 4 := by rw [Z1.2.1 459 (by decide) (by omega)]; decide
      left
      refine ⟨(s2, q_up g2 459 i (460 + 2 * i)), ?_, (Z2.mono (fun k j v _ _ hv q => ?_)).cast (by omega)⟩
      · show q_L 106 69 [(21, 0), (0, i)] [] (s, g) = q_L 106 69 [(21, 0), (0, i + 1)] [] (s2, q_up g2 459 i (460 + 2 * i))
        rw [e_X11_init_69, if_pos i1, h5, if_pos (by decide), Y.1, e_X11_init_82, c1, Option.bind_some]
        show q_L 106 86 [(21, 0), (0, i)] [(17, 460 + 2 * i), (0, i), (47, 459)] (s2, g2) = _
        rw [e_X11_init_86, lz, if_pos ⟨i0, i1⟩, q_w_eq (by omega) (by omega)]
      · obtain ⟨q | q, n⟩ := q
        · by_cases z : j = i
          · exact (n ⟨q.1, z⟩).elim
          · exact Or.inl ⟨q.1, by have := q.2; omega⟩
        · exact Or.inr q
    · intro y Y
      obtain ⟨s, g⟩ := y
      have Y : ST (460 + 2 * 4) (fun k j => (k = 459 ∧ 4 ≤ j) ∨ (k = 0 ∧ 6 ≤ j)) sl hl s g := Y
      have Y := Y.cast (show _ = (468 : Int) by decide)
      have Z := (Y.row (t := 30) (len := 7) (z := fun _ => 0) (by decide) (by decide) (fun j => rfl) (fun _ _ _ _ => rfl)).cast (show _ = (469 : Int) by decide)
      have Z2 := Z.store (a := 0) (s := 6) (v := 468) (by decide) rfl
      obtain ⟨z1, z2, z3, z4, z5⟩ := Z2
      refine ⟨q_ms s 30 7, q_up (q_up (q_mh s g (fun _ => 0)) 0 6 468) 0 7 0, ?_, z1, z2, fun k j v k0 k1 hv _ => ?_, fun k j k0 k1 k2 k3 hn ht => ?_, fun k k0 => ⟨(z5 k k0).1, ?_⟩⟩
      · show q_L 106 69 [(21, 0), (0, 4)] [] (s, g) = _
        rw [e_X11_init_69, if_neg (by decide), if_pos ⟨by decide, by decide⟩, Y.1, e_X11_init_98, if_pos (by decide), if_pos (Or.inl rfl)]
      · have n7 : ¬ (k = 0 ∧ j = 7) := by
          intro e
          rw [e.1, e.2] at hv
          cases hv
        rw [q_up_ne (by omega)]
        refine z3 k j v k0 k1 hv (fun q => ?_)
        obtain ⟨q | q, n⟩ := q
        · rw [q.1, o9 j (by have := q.2; omega)] at hv; cases hv
        · by_cases e : j = 6
          · exact n ⟨q.1, e⟩
          · rw [q.1] at hv
            unfold VP0 at hv
            have := q.2
            rw [if_pos rfl, if_neg (by omega), if_neg (by omega), if_neg (by omega), if_neg (by omega), if_neg (by omega), if_neg (by omega), if_neg (by omega)] at hv
            cases hv
      · by_cases e : k = 0 ∧ j = 7
        · rw [e.1, e.2, q_up_self]
        · rw [q_up_ne (by omega)]
          exact z4 k j k0 k1 k2 k3 hn ht
      · rw [q_up_far (by omega)]; exact (z5 k k0).2
  obtain ⟨s6, g6, e6, S6⟩ := e6
  exact ⟨s6, g6, by rw [e0, d0, e1, d1, e2, d2, e3, d3, e4, d4, e5, e6], S6⟩
