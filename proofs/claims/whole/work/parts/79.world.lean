/-! a world is made -/
theorem kon_world {w : Int} (iw : isW w) : KON 89 20 w (w + 147) := by
  have wb := iw.b
  have w0 : 0 ≤ w := by omega
  have vw : ∀ j, 4 ≤ j → j ≤ 8 → VP0 w j = some (w + j - 3) := fun j h0 h1 => VP_world iw h0 h1
  have v4 : VP0 w 4 = some (w + 1) := by rw [vw 4 (by decide) (by decide)]; congr 1; omega
  have v5 : VP0 w 5 = some (w + 2) := by rw [vw 5 (by decide) (by decide)]; congr 1; omega
  have v6 : VP0 w 6 = some (w + 3) := by rw [vw 6 (by decide) (by decide)]; congr 1; omega
  have v7 : VP0 w 7 = some (w + 4) := by rw [vw 7 (by decide) (by decide)]; congr 1; omega
  have v8 : VP0 w 8 = some (w + 5) := by rw [vw 8 (by decide) (by decide)]; congr 1; omega
  have vo : ∀ j, j ≠ 4 → j ≠ 5 → j ≠ 6 → j ≠ 7 → j ≠ 8 → VP0 w j = none := by
    intro j a b c d e
    have : ¬ (4 ≤ j ∧ j ≤ 8) := by omega
    rcases iw with rfl | rfl | rfl <;> (unfold VP0 VPw; simp [this])
  have o2 : ∀ j, ¬ (0 ≤ j ∧ j < 6) → VP0 (w + 2) j = none := by
    intro j hj
    rcases iw with rfl | rfl | rfl <;> (unfold VP0 VPw; simp [hj])
  have o3 : ∀ j, ¬ (0 ≤ j ∧ j < 8) → VP0 (w + 3) j = none := by
    intro j hj
    rcases iw with rfl | rfl | rfl <;> (unfold VP0 VPw; simp [hj])
  have o4 : ∀ j, ¬ (0 ≤ j ∧ j < 14) → VP0 (w + 4) j = none := by
    intro j hj
    rcases iw with rfl | rfl | rfl <;> (unfold VP0 VPw; simp [hj])
  have v50 : VP0 (w + 5) 0 = some (w + 5 + 1) := by
    rcases iw with rfl | rfl | rfl <;> rfl
  have o5 : ∀ j, j ≠ 0 → VP0 (w + 5) j = none := by
    intro j hj
    rcases iw with rfl | rfl | rfl <;> (unfold VP0 VPw; simp [hj])
  have l1 : LT0 (w + 1) = (30, 42) := by rcases iw with rfl | rfl | rfl <;> decide
  have l2 : LT0 (w + 2) = (43, 6) := by rcases iw with rfl | rfl | rfl <;> decide
  have l3 : LT0 (w + 3) = (42, 8) := by rcases iw with rfl | rfl | rfl <;> decide
  have l4 : LT0 (w + 4) = (40, 14) := by rcases iw with rfl | rfl | rfl <;> decide
  have l5 : LT0 (w + 5) = (16, 2) := by rcases iw with rfl | rfl | rfl <;> decide
  have l6 : LT0 (w + 6) = (30, 64) := by rcases iw with rfl | rfl | rfl <;> decide
  have ld : ∀ d, 0 ≤ d → d < 6 → LT0 (w + 7 + d) = (13, 4) := by
    intro d d0 d1
    have e1 : (w + 7 + d - 1) % 147 = 7 + d := by rcases iw with rfl | rfl | rfl <;> omega
    unfold LT0
    rw [if_neg (by omega), if_pos (by omega), e1]
    unfold LTw
    rw [if_neg (by omega), if_neg (by omega), if_neg (by omega), if_neg (by omega), if_neg (by omega), if_neg (by omega), if_neg (by omega), if_pos (by omega)]
  have la : ∀ d, 0 ≤ d → d < 14 → LT0 (w + 133 + d) = (10, 9) := by
    intro d d0 d1
    have e1 : (w + 133 + d - 1) % 147 = 133 + d := by rcases iw with rfl | rfl | rfl <;> omega
    unfold LT0
    rw [if_neg (by omega), if_pos (by omega), e1]
    unfold LTw
    rw [if_neg (by omega), if_neg (by omega), if_neg (by omega), if_neg (by omega), if_neg (by omega), if_neg (by omega), if_neg (by omega), if_neg (by omega), if_neg (by omega)]
  have lc : ∀ c, 0 ≤ c → c < 8 → LT0 (w + 13 + 15 * c) = (12, 8) := fun c c0 c1 => by
    have := LT_c (r := 0) iw c0 c1 (by decide) (by decide)
    rw [Int.add_zero] at this
    exact this
  have ks : KON 55 16 (w + 5) (w + 5 + 2) := kon_X6_init (a := w + 5) (by omega) v50 o5 (fun j => by have e : w + 5 + 1 = w + 6 := by omega
                                                                                                     rw [e]; exact VP_r iw (by omega)) (by have e : w + 5 + 1 = w + 6 := by omega
                                                                                                                                           rw [e]; exact l6)
  intro Q sl hl sh h hq S
  have e1 : ∃ sh1 h1, q_Cc 89 [(20, w)] (sh, h) = q_L 89 9 [(20, w), (9, 0)] [(30, w + 1), (20, w)] (sh1, h1) ∧ ST (w + 2) (fun k j => k = w ∨ Q k j) sl hl sh1 h1 := by
    refine ⟨q_ms sh 30 42, q_mh sh h (fun _ => 0), ?_, (S.row (by omega) l1 (fun j => VP_r iw (by omega)) (fun _ _ _ _ => rfl)).cast (by omega)⟩
    rw [c_X10_init, e_X10_init_0, if_pos ⟨by decide, by decide⟩, S.1]
  obtain ⟨sh1, h1, e1, S1⟩ := e1
  have e2 : ∃ sh2 h2, q_L 89 9 [(20, w), (9, 0)] [(30, w + 1), (20, w)] (sh1, h1) = q_L 89 18 [(20, w), (9, 0)] [(43, w + 2), (20, w)] (sh2, h2) ∧ ST (w + 3) (fun k j => k = w + 2 ∨ ((k = w ∨ Q k j) ∧ ¬ (k = w ∧ j = 4))) sl hl sh2 h2 := by
    refine ⟨q_ms sh1 43 6, q_mh sh1 (q_up h1 w 4 (w + 1)) (fun _ => -1), ?_, ((S1.store w0 v4).obj (by omega) l2 (fun _ _ ht _ _ => absurd ht (by decide))).cast (by omega)⟩
    rw [e_X10_init_9, if_pos (by omega), if_pos ⟨by decide, by decide⟩, S1.1]
  obtain ⟨sh2, h2, e2, S2⟩ := e2
  have e3 : ∃ sh3 h3, q_L 89 18 [(20, w), (9, 0)] [(43, w + 2), (20, w)] (sh2, h2) = q_L 89 27 [(20, w), (9, 0)] [(42, w + 3), (20, w)] (sh3, h3) ∧ ST (w + 4) (fun k j => k = w + 3 ∨ ((k = w + 2 ∨ ((k = w ∨ Q k j) ∧ ¬ (k = w ∧ j = 4))) ∧ ¬ (k = w ∧ j = 5))) sl hl sh3 h3 := by
    refine ⟨q_ms sh2 42 8, q_mh sh2 (q_up h2 w 5 (w + 2)) (fun _ => -1), ?_, ((S2.store w0 v5).obj (by omega) l3 (fun _ _ ht _ _ => absurd ht (by decide))).cast (by omega)⟩
    rw [e_X10_init_18, if_pos (by omega), if_pos ⟨by decide, by decide⟩, S2.1]
  obtain ⟨sh3, h3, e3, S3⟩ := e3
  have e4 : ∃ sh4 h4, q_L 89 27 [(20, w), (9, 0)] [(42, w + 3), (20, w)] (sh3, h3) = q_L 89 36 [(20, w), (9, 0)] [(40, w + 4), (20, w)] (sh4, h4) ∧ ST (w + 5) (fun k j => k = w + 4 ∨ ((k = w + 3 ∨ ((k = w + 2 ∨ ((k = w ∨ Q k j) ∧ ¬ (k = w ∧ j = 4))) ∧ ¬ (k = w ∧ j = 5))) ∧ ¬ (k = w ∧ j = 6))) sl hl sh4 h4 := by
    refine ⟨q_ms sh3 40 14, q_mh sh3 (q_up h3 w 6 (w + 3)) (fun _ => -1), ?_, ((S3.store w0 v6).obj (by omega) l4 (fun _ _ ht _ _ => absurd ht (by decide))).cast (by omega)⟩
    rw [e_X10_init_27, if_pos (by omega), if_pos ⟨by decide, by decide⟩, S3.1]
  obtain ⟨sh4, h4, e4, S4⟩ := e4
  have e5 : ∃ sh5 h5, q_L 89 36 [(20, w), (9, 0)] [(40, w + 4), (20, w)] (sh4, h4) = q_L 89 43 [(20, w), (9, 0)] [(16, w + 5), (20, w)] (sh5, h5) ∧ ST (w + 5 + 1) (fun k j => k = w + 5 ∨ ((k = w + 4 ∨ ((k = w + 3 ∨ ((k = w + 2 ∨ ((k = w ∨ Q k j) ∧ ¬ (k = w ∧ j = 4))) ∧ ¬ (k = w ∧ j = 5))) ∧ ¬ (k = w ∧ j = 6))) ∧ ¬ (k = w ∧ j = 7))) sl hl sh5 h5 := by
    refine ⟨q_ms sh4 16 2, q_mh sh4 (q_up h4 w 7 (w + 4)) (q_zf [0]), ?_, (S4.store w0 v7).obj (by omega) l5 (fun j hn _ _ _ => q_zf_z (fun x hx e => ?_))⟩
    · rw [e_X10_init_36, if_pos (by omega), S4.1]
    · have hx : x = 0 := by simpa using hx
      rw [e, hx, v50] at hn
      cases hn
  obtain ⟨sh5, h5, e5, S5⟩ := e5
  obtain ⟨sh6, h6, e6, S6⟩ := ks _ sl hl sh5 h5 (fun k j hk q => by
    rcases q with ⟨q | ⟨q | ⟨q | ⟨q | q, -⟩, -⟩, -⟩, -⟩
    · omega
    · omega
    · omega
    · omega
    · exact hq k j (by omega) q) S5
  have e7 : ∃ sh7 h7, q_L 89 43 [(20, w), (9, 0)] [(16, w + 5), (20, w)] (sh5, h5) = q_L 89 52 [(20, w), (0, 0)] [] (sh7, h7) ∧ ST (w + 7 + 0) (fun k j => (k = w + 2 ∧ 0 ≤ j) ∨ k = w + 3 ∨ k = w + 4 ∨ Q k j) sl hl sh7 h7 := by
    refine ⟨sh6, q_up h6 w 8 (w + 5), ?_, ((S6.store w0 v8).mono (fun k j v _ _ hv q => ?_)).cast (by omega)⟩
    · rw [e_X10_init_43, e6, Option.bind_some]
      show q_L 89 47 [(20, w), (9, 0)] [(16, w + 5), (20, w)] (sh6, h6) = _
      rw [e_X10_init_47, if_pos (by omega)]
    · by_cases ek : k = w
      · exfalso
        rw [ek, vo j (fun z => by simp [ek, z] at q <;> omega) (fun z => by simp [ek, z] at q <;> omega) (fun z => by simp [ek, z] at q <;> omega) (fun z => by simp [ek, z] at q <;> omega) (fun z => by simp [ek, z] at q <;> omega)] at hv
        cases hv
      · have q' : k = w + 4 ∨ k = w + 3 ∨ k = w + 2 ∨ Q k j := by simpa [ek] using q
        rcases q' with q | q | q | q
        · exact Or.inr (Or.inr (Or.inl q))
        · exact Or.inr (Or.inl q)
        · by_cases z : 0 ≤ j
          · exact Or.inl ⟨q, z⟩
          · rw [q, o2 j (by omega)] at hv; cases hv
        · exact Or.inr (Or.inr (Or.inr q))
  obtain ⟨sh7, h7, e7, S7⟩ := e7
  have d1 : ∃ sh8 h8, q_L 89 52 [(20, w), (0, 0)] [] (sh7, h7) = q_L 89 79 [(20, w), (0, 0)] [] (sh8, h8) ∧ ST (w + 13 + 15 * 0) (fun k j => (k = w + 3 ∧ 0 ≤ j) ∨ k = w + 4 ∨ Q k j) sl hl sh8 h8 := by
    refine lp (fun i (y : (Int × (Int → Nat × Int)) × (Int → Int → Int)) => q_L 89 52 [(20, w), (0, i)] [] (y.1, y.2)) (fun i y => ST (w + 7 + i) (fun k j => (k = w + 2 ∧ i ≤ j) ∨ k = w + 3 ∨ k = w + 4 ∨ Q k j) sl hl y.1 y.2) (fun z => ∃ sh8 h8, z = q_L 89 79 [(20, w), (0, 0)] [] (sh8, h8) ∧ ST (w + 13 + 15 * 0) (fun k j => (k = w + 3 ∧ 0 ≤ j) ∨ k = w + 4 ∨ Q k j) sl hl sh8 h8) 6 ?_ ?_ 0 (sh7, h7) (by decide) (by decide) S7
    · intro i y i0 i1 Y
      obtain ⟨s, g⟩ := y
      have Y : ST (w + 7 + i) (fun k j => (k = w + 2 ∧ i ≤ j) ∨ k = w + 3 ∨ k = w + 4 ∨ Q k j) sl hl s g := Y
      have g5 : g w 5 = w + 2 := Y.get w0 (by omega) v5 (fun q => by
        rcases q with q | q | q | q
        · omega
        · omega
        · omega
        · exact hq w 5 (by omega) q)
      have Z := Y.row (t := 13) (len := 4) (z := q_zf []) (by omega) (ld i i0 i1) (fun j => pn_dish iw i0 i1) (fun j _ _ _ => q_zf_z (fun x hx => by cases hx))
      have Z2 := Z.store (a := w + 2) (s := i) (v := w + 7 + i) (by omega) (VP_dish iw i0 i1)
      have lz : ((q_ms s 13 4).2 (w + 2)).2 = 6 := by rw [Z.2.1 (w + 2) (by omega) (by omega), l2]
      left
      refine ⟨(q_ms s 13 4, q_up (q_mh s g (q_zf [])) (w + 2) i (w + 7 + i)), ?_, (Z2.mono (fun k j v _ _ hv q => ?_)).cast (by omega)⟩
      · show q_L 89 52 [(20, w), (0, i)] [] (s, g) = q_L 89 52 [(20, w), (0, i + 1)] [] (q_ms s 13 4, q_up (q_mh s g (q_zf [])) (w + 2) i (w + 7 + i))
        rw [e_X10_init_52, if_pos i1, g5, if_pos (by omega), Y.1, e_X10_init_66, c_X3_init, e_X3_init_0, Option.bind_some]
        show q_L 89 70 [(20, w), (0, i)] [(13, w + 7 + i), (0, i), (43, w + 2)] (q_ms s 13 4, q_mh s g (q_zf [])) = _
        rw [e_X10_init_70, lz, if_pos ⟨i0, i1⟩, q_w_eq (by omega) (by omega)]
      · obtain ⟨q | q, n⟩ := q
        · by_cases z : j = i
          · exact (n ⟨q.1, z⟩).elim
          · exact Or.inl ⟨q.1, by have := q.2; omega⟩
        · exact Or.inr q
    · intro y Y
      obtain ⟨s, g⟩ := y
      refine ⟨s, g, ?_, (ST.mono Y (fun k j v _ _ hv q => ?_)).cast (by omega)⟩
      · show q_L 89 52 [(20, w), (0, 6)] [] (s, g) = _
        rw [e_X10_init_52, if_neg (by decide)]
      · rcases q with q | q | q | q
        · rw [q.1, o2 j (by have := q.2; omega)] at hv; cases hv
        · by_cases z : 0 ≤ j
          · exact Or.inl ⟨q, z⟩
          · rw [q, o3 j (by omega)] at hv; cases hv
        · exact Or.inr (Or.inl q)
        · exact Or.inr (Or.inr q)
  obtain ⟨sh8, h8, d1, S8⟩ := d1
  have d2 : ∃ sh9 h9, q_L 89 79 [(20, w), (0, 0)] [] (sh8, h8) = q_L 89 106 [(20, w), (0, 0)] [] (sh9, h9) ∧ ST (w + 133 + 0) (fun k j => (k = w + 4 ∧ 0 ≤ j) ∨ Q k j) sl hl sh9 h9 := by
    refine lp (fun i (y : (Int × (Int → Nat × Int)) × (Int → Int → Int)) => q_L 89 79 [(20, w), (0, i)] [] (y.1, y.2)) (fun i y => ST (w + 13 + 15 * i) (fun k j => (k = w + 3 ∧ i ≤ j) ∨ k = w + 4 ∨ Q k j) sl hl y.1 y.2) (fun z => ∃ sh8 h8, z = q_L 89 106 [(20, w), (0, 0)] [] (sh8, h8) ∧ ST (w + 133 + 0) (fun k j => (k = w + 4 ∧ 0 ≤ j) ∨ Q k j) sl hl sh8 h8) 8 ?_ ?_ 0 (sh8, h8) (by decide) (by decide) S8
    · intro i y i0 i1 Y
      obtain ⟨s, g⟩ := y
      have Y : ST (w + 13 + 15 * i) (fun k j => (k = w + 3 ∧ i ≤ j) ∨ k = w + 4 ∨ Q k j) sl hl s g := Y
      have g6 : g w 6 = w + 3 := Y.get w0 (by omega) v6 (fun q => by
        rcases q with q | q | q
        · omega
        · omega
        · exact hq w 6 (by omega) q)
      have Z := Y.obj (t := 12) (len := 8) (z := q_zf [3, 4, 5, 6, 7]) (by omega) (lc i i0 i1) (fun j hn _ _ _ => q_zf_z (fun x hx e => by
        have hx : x = 3 ∨ x = 4 ∨ x = 5 ∨ x = 6 ∨ x = 7 := by simpa using hx
        have := VP_c (j := x) (r := 0) iw i0 i1 (by decide) (by decide)
        rw [Int.add_zero] at this
        rw [e, this] at hn
        unfold VPc at hn
        rcases hx with q | q | q | q | q <;> (subst q; cases hn)))
      obtain ⟨s2, g2, c1, Z1⟩ := kon_craft iw i0 i1 _ sl hl _ _ (fun k j hk q => by
        rcases q with q | q | q
        · omega
        · omega
        · exact hq k j (by omega) q) Z
      have Z2 := Z1.store (a := w + 3) (s := i) (v := w + 13 + 15 * i) (by omega) (VP_craft iw i0 i1)
      have lz : (s2.2 (w + 3)).2 = 8 := by rw [Z1.2.1 (w + 3) (by omega) (by omega), l3]
      left
      refine ⟨(s2, q_up g2 (w + 3) i (w + 13 + 15 * i)), ?_, (Z2.mono (fun k j v _ _ hv q => ?_)).cast (by omega)⟩
      · show q_L 89 79 [(20, w), (0, i)] [] (s, g) = q_L 89 79 [(20, w), (0, i + 1)] [] (s2, q_up g2 (w + 3) i (w + 13 + 15 * i))
        rw [e_X10_init_79, if_pos i1, g6, if_pos (by omega), Y.1, e_X10_init_93, c1, Option.bind_some]
        show q_L 89 97 [(20, w), (0, i)] [(12, w + 13 + 15 * i), (0, i), (42, w + 3)] (s2, g2) = _
        rw [e_X10_init_97, lz, if_pos ⟨i0, i1⟩, q_w_eq (by omega) (by omega)]
      · obtain ⟨q | q, n⟩ := q
        · by_cases z : j = i
          · exact (n ⟨q.1, z⟩).elim
          · exact Or.inl ⟨q.1, by have := q.2; omega⟩
        · exact Or.inr q
    · intro y Y
      obtain ⟨s, g⟩ := y
      refine ⟨s, g, ?_, (ST.mono Y (fun k j v _ _ hv q => ?_)).cast (by omega)⟩
      · show q_L 89 79 [(20, w), (0, 8)] [] (s, g) = _
        rw [e_X10_init_79, if_neg (by decide)]
      · rcases q with q | q | q
        · rw [q.1, o3 j (by have := q.2; omega)] at hv; cases hv
        · by_cases z : 0 ≤ j
          · exact Or.inl ⟨q, z⟩
          · rw [q, o4 j (by omega)] at hv; cases hv
        · exact Or.inr q
  obtain ⟨sh9, h9, d2, S9⟩ := d2
  have d3 : ∃ sh' h', q_L 89 106 [(20, w), (0, 0)] [] (sh9, h9) = some ((9, 0), (sh', h')) ∧ ST (w + 147) Q sl hl sh' h' := by
    refine lp (fun i (y : (Int × (Int → Nat × Int)) × (Int → Int → Int)) => q_L 89 106 [(20, w), (0, i)] [] (y.1, y.2)) (fun i y => ST (w + 133 + i) (fun k j => (k = w + 4 ∧ i ≤ j) ∨ Q k j) sl hl y.1 y.2) (fun z => ∃ sh' h', z = some ((9, 0), (sh', h')) ∧ ST (w + 147) Q sl hl sh' h') 14 ?_ ?_ 0 (sh9, h9) (by decide) (by decide) S9
    · intro i y i0 i1 Y
      obtain ⟨s, g⟩ := y
      have Y : ST (w + 133 + i) (fun k j => (k = w + 4 ∧ i ≤ j) ∨ Q k j) sl hl s g := Y
      have g7 : g w 7 = w + 4 := Y.get w0 (by omega) v7 (fun q => by
        rcases q with q | q
        · omega
        · exact hq w 7 (by omega) q)
      have Z := Y.row (t := 10) (len := 9) (z := q_zf []) (by omega) (la i i0 i1) (fun j => pn_ask iw i0 i1) (fun j _ _ _ => q_zf_z (fun x hx => by cases hx))
      have Z2 := Z.store (a := w + 4) (s := i) (v := w + 133 + i) (by omega) (VP_ask iw i0 i1)
      have lz : ((q_ms s 10 9).2 (w + 4)).2 = 14 := by rw [Z.2.1 (w + 4) (by omega) (by omega), l4]
      left
      refine ⟨(q_ms s 10 9, q_up (q_mh s g (q_zf [])) (w + 4) i (w + 133 + i)), ?_, (Z2.mono (fun k j v _ _ hv q => ?_)).cast (by omega)⟩
      · show q_L 89 106 [(20, w), (0, i)] [] (s, g) = q_L 89 106 [(20, w), (0, i + 1)] [] (q_ms s 10 9, q_up (q_mh s g (q_zf [])) (w + 4) i (w + 133 + i))
        rw [e_X10_init_106, if_pos i1, g7, if_pos (by omega), Y.1, e_X10_init_120, c_X0_init, e_X0_init_0, Option.bind_some]
        show q_L 89 124 [(20, w), (0, i)] [(10, w + 133 + i), (0, i), (40, w + 4)] (q_ms s 10 9, q_mh s g (q_zf [])) = _
        rw [e_X10_init_124, lz, if_pos ⟨i0, i1⟩, q_w_eq (by omega) (by omega)]
      · obtain ⟨q | q, n⟩ := q
        · by_cases z : j = i
          · exact (n ⟨q.1, z⟩).elim
          · exact Or.inl ⟨q.1, by have := q.2; omega⟩
        · exact Or.inr q
    · intro y Y
      obtain ⟨s, g⟩ := y
      refine ⟨s, g, ?_, (ST.mono Y (fun k j v _ _ hv q => ?_)).cast (by omega)⟩
      · show q_L 89 106 [(20, w), (0, 14)] [] (s, g) = _
        rw [e_X10_init_106, if_neg (by decide)]
      · rcases q with q | q
        · rw [q.1, o4 j (by have := q.2; omega)] at hv; cases hv
        · exact q
  obtain ⟨sh', h', d3, S'⟩ := d3
  exact ⟨sh', h', by rw [e1, e2, e3, e4, e5, e7, d1, d2, d3], S'⟩
