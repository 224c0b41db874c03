/-! a craft is made -/
theorem q_zf_z {l : List Int} {j : Int} (h : ∀ x, x ∈ l → j ≠ x) : q_zf l j = 0 := by
  unfold q_zf
  rw [if_neg]
  intro e
  exact h j (List.elem_iff.mp e) rfl
theorem kon_craft {w c : Int} (iw : isW w) (c0 : 0 ≤ c) (c1 : c < 8) : KON 19 12 (w + 13 + 15 * c) (w + 13 + 15 * c + 15) := by
  have w0 := iw.b
  have vc : ∀ r j, 0 ≤ r → r < 15 → VP0 (w + 13 + 15 * c + r) j = VPc (w + 13 + 15 * c + r) r j := fun r j r0 r1 => VP_c iw c0 c1 r0 r1
  have lt : ∀ r, 0 ≤ r → r < 15 → LT0 (w + 13 + 15 * c + r) = LTc r := fun r r0 r1 => LT_c iw c0 c1 r0 r1
  obtain ⟨a, ea⟩ : ∃ a, w + 13 + 15 * c = a := ⟨_, rfl⟩
  rw [ea] at vc lt ⊢
  have a0 : 0 ≤ a := by omega
  clear w0
  have v0 : ∀ j, VP0 a j = VPc a 0 j := fun j => by have := vc 0 j (by decide) (by decide); rw [Int.add_zero] at this; exact this
  have v3 : VP0 a 3 = some (a + 1) := v0 3
  have v4 : VP0 a 4 = some (a + 2) := v0 4
  have v5 : VP0 a 5 = some (a + 3) := v0 5
  have v6 : VP0 a 6 = some (a + 6) := v0 6
  have v7 : VP0 a 7 = some (a + 13) := v0 7
  have vo : ∀ j, j ≠ 3 → j ≠ 4 → j ≠ 5 → j ≠ 6 → j ≠ 7 → VP0 a j = none := by
    intro j h3 h4 h5 h6 h7
    rw [v0]
    unfold VPc
    rw [if_pos rfl, if_neg h3, if_neg h4, if_neg h5, if_neg h6, if_neg h7]
  have as3 : ∀ x : Int, a + 3 + x = a + (3 + x) := fun x => by omega
  have as6 : ∀ x : Int, a + 6 + x = a + (6 + x) := fun x => by omega
  have as13 : ∀ x : Int, a + 13 + x = a + (13 + x) := fun x => by omega
  have kb : KON 8 11 (a + 3) (a + 3 + 3) := kon_X1_init (a := a + 3) (by omega) (vc 3 6 (by decide) (by decide)) (vc 3 7 (by decide) (by decide)) (fun j h6 h7 => by
      rw [vc 3 j (by decide) (by decide)]
      unfold VPc
      rw [if_neg (by decide), if_pos rfl, if_neg h6, if_neg h7]) (fun j => by rw [as3]; exact vc 4 j (by decide) (by decide)) (by rw [as3]; exact lt 4 (by decide) (by decide)) (fun j => by rw [as3]; exact vc 5 j (by decide) (by decide)) (by rw [as3]; exact lt 5 (by decide) (by decide))
  have ko : KON 29 14 (a + 6) (a + 6 + 7) := kon_X4_init (a := a + 6) (by omega) (vc 6 1 (by decide) (by decide)) (vc 6 2 (by decide) (by decide)) (vc 6 3 (by decide) (by decide)) (vc 6 4 (by decide) (by decide)) (vc 6 5 (by decide) (by decide)) (vc 6 6 (by decide) (by decide)) (fun j h1 h2 h3 h4 h5 h6 => by
      rw [vc 6 j (by decide) (by decide)]
      unfold VPc
      rw [if_neg (by decide), if_neg (by decide), if_pos rfl, if_neg (by omega)]) (fun j => by rw [as6]; exact vc 7 j (by decide) (by decide)) (by rw [as6]; exact lt 7 (by decide) (by decide)) (fun j => by rw [as6]; exact vc 8 j (by decide) (by decide)) (by rw [as6]; exact lt 8 (by decide) (by decide)) (fun j => by rw [as6]; exact vc 9 j (by decide) (by decide)) (by rw [as6]; exact lt 9 (by decide) (by decide)) (fun j => by rw [as6]; exact vc 10 j (by decide) (by decide)) (by rw [as6]; exact lt 10 (by decide) (by decide)) (fun j => by rw [as6]; exact vc 11 j (by decide) (by decide)) (by rw [as6]; exact lt 11 (by decide) (by decide)) (fun j => by rw [as6]; exact vc 12 j (by decide) (by decide)) (by rw [as6]; exact lt 12 (by decide) (by decide))
  have kq : KON 69 18 (a + 13) (a + 13 + 2) := kon_X8_init (a := a + 13) (by omega) (vc 13 0 (by decide) (by decide)) (fun j h0 => by
      rw [vc 13 j (by decide) (by decide)]
      unfold VPc
      rw [if_neg (by decide), if_neg (by decide), if_neg (by decide), if_pos rfl, if_neg h0]) (fun j => by rw [as13]; exact vc 14 j (by decide) (by decide)) (by rw [as13]; exact lt 14 (by decide) (by decide))
  intro Q sl hl sh h hq S
  have e1 : ∃ sh1 h1, q_Cc 19 [(12, a)] (sh, h) = q_L 19 8 [(12, a)] [(30, a + 1), (12, a)] (sh1, h1) ∧ ST (a + 2) (fun k j => k = a ∨ Q k j) sl hl sh1 h1 := by
    refine ⟨q_ms sh 30 3, q_mh sh h (fun _ => 0), ?_, (S.row (by omega) (lt 1 (by decide) (by decide)) (fun j => vc 1 j (by decide) (by decide)) (fun _ _ _ _ => rfl)).cast (by omega)⟩
    rw [c_X2_init, e_X2_init_0, if_pos ⟨by decide, by decide⟩, S.1]
  obtain ⟨sh1, h1, e1, S1⟩ := e1
  have e2 : ∃ sh2 h2, q_L 19 8 [(12, a)] [(30, a + 1), (12, a)] (sh1, h1) = q_L 19 15 [(12, a)] [(30, a + 2), (12, a)] (sh2, h2) ∧ ST (a + 3) (fun k j => (k = a ∨ Q k j) ∧ ¬ (k = a ∧ j = 3)) sl hl sh2 h2 := by
    refine ⟨q_ms sh1 30 3, q_mh sh1 (q_up h1 a 3 (a + 1)) (fun _ => 0), ?_, ((S1.store a0 v3).row (by omega) (lt 2 (by decide) (by decide)) (fun j => vc 2 j (by decide) (by decide)) (fun _ _ _ _ => rfl)).cast (by omega)⟩
    rw [e_X2_init_8, if_pos (by omega), if_pos ⟨by decide, by decide⟩, S1.1]
  obtain ⟨sh2, h2, e2, S2⟩ := e2
  have e3 : ∃ sh3 h3, q_L 19 15 [(12, a)] [(30, a + 2), (12, a)] (sh2, h2) = q_L 19 22 [(12, a)] [(11, a + 3), (12, a)] (sh3, h3) ∧ ST (a + 3 + 1) (fun k j => k = a + 3 ∨ (((k = a ∨ Q k j) ∧ ¬ (k = a ∧ j = 3)) ∧ ¬ (k = a ∧ j = 4))) sl hl sh3 h3 := by
    refine ⟨q_ms sh2 11 8, q_mh sh2 (q_up h2 a 4 (a + 2)) (q_zf [6, 7]), ?_, (S2.store a0 v4).obj (by omega) (lt 3 (by decide) (by decide)) (fun j hn _ _ _ => q_zf_z (fun x hx e => ?_))⟩
    · rw [e_X2_init_15, if_pos (by omega), S2.1]
    · rw [e] at hn
      rcases List.mem_cons.mp hx with q | q
      · rw [q, vc 3 6 (by decide) (by decide)] at hn; cases hn
      · rcases List.mem_cons.mp q with q | q
        · rw [q, vc 3 7 (by decide) (by decide)] at hn; cases hn
        · cases q
  obtain ⟨sh3, h3, e3, S3⟩ := e3
  obtain ⟨sh4, h4, e4, S4⟩ := kb _ sl hl sh3 h3 (fun k j hk q => by
    rcases q with ⟨⟨q | q, -⟩, -⟩
    · omega
    · exact hq k j (by omega) q) S3
  have e5 : ∃ sh5 h5, q_L 19 22 [(12, a)] [(11, a + 3), (12, a)] (sh3, h3) = q_L 19 33 [(12, a)] [(14, a + 6), (12, a)] (sh5, h5) ∧ ST (a + 6 + 1) (fun k j => k = a + 6 ∨ ((((k = a ∨ Q k j) ∧ ¬ (k = a ∧ j = 3)) ∧ ¬ (k = a ∧ j = 4)) ∧ ¬ (k = a ∧ j = 5))) sl hl sh5 h5 := by
    have S4' := S4.cast (show _ = a + 6 by omega)
    refine ⟨q_ms sh4 14 7, q_mh sh4 (q_up h4 a 5 (a + 3)) (q_zf [1, 2, 3, 4, 5, 6]), ?_, (S4'.store a0 v5).obj (by omega) (lt 6 (by decide) (by decide)) (fun j hn _ _ _ => q_zf_z (fun x hx e => ?_))⟩
    · rw [e_X2_init_22, e4, Option.bind_some]
      show q_L 19 26 [(12, a)] [(11, a + 3), (12, a)] (sh4, h4) = _
      rw [e_X2_init_26, if_pos (by omega), S4'.1]
    · rw [e, vc 6 x (by decide) (by decide)] at hn
      unfold VPc at hn
      rw [if_neg (by decide), if_neg (by decide), if_pos rfl] at hn
      have hx : x = 1 ∨ x = 2 ∨ x = 3 ∨ x = 4 ∨ x = 5 ∨ x = 6 := by simpa using hx
      rw [if_pos (by omega)] at hn
      cases hn
  obtain ⟨sh5, h5, e5, S5⟩ := e5
  obtain ⟨sh6, h6, e6, S6⟩ := ko _ sl hl sh5 h5 (fun k j hk q => by
    rcases q with ⟨⟨⟨q | q, -⟩, -⟩, -⟩
    · omega
    · exact hq k j (by omega) q) S5
  have e7 : ∃ sh7 h7, q_L 19 33 [(12, a)] [(14, a + 6), (12, a)] (sh5, h5) = q_L 19 44 [(12, a)] [(18, a + 13), (12, a)] (sh7, h7) ∧ ST (a + 13 + 1) (fun k j => k = a + 13 ∨ (((((k = a ∨ Q k j) ∧ ¬ (k = a ∧ j = 3)) ∧ ¬ (k = a ∧ j = 4)) ∧ ¬ (k = a ∧ j = 5)) ∧ ¬ (k = a ∧ j = 6))) sl hl sh7 h7 := by
    have S6' := S6.cast (show _ = a + 13 by omega)
    refine ⟨q_ms sh6 18 2, q_mh sh6 (q_up h6 a 6 (a + 6)) (q_zf [0]), ?_, (S6'.store a0 v6).obj (by omega) (lt 13 (by decide) (by decide)) (fun j hn _ _ _ => q_zf_z (fun x hx e => ?_))⟩
    · rw [e_X2_init_33, e6, Option.bind_some]
      show q_L 19 37 [(12, a)] [(14, a + 6), (12, a)] (sh6, h6) = _
      rw [e_X2_init_37, if_pos (by omega), S6'.1]
    · have hx : x = 0 := by simpa using hx
      rw [e, hx, vc 13 0 (by decide) (by decide)] at hn
      cases hn
  obtain ⟨sh7, h7, e7, S7⟩ := e7
  obtain ⟨sh8, h8, e8, S8⟩ := kq _ sl hl sh7 h7 (fun k j hk q => by
    rcases q with ⟨⟨⟨⟨q | q, -⟩, -⟩, -⟩, -⟩
    · omega
    · exact hq k j (by omega) q) S7
  refine ⟨sh8, q_up h8 a 7 (a + 13), ?_, ((S8.store a0 v7).mono (fun k j v _ _ hv q => ?_)).cast (by omega)⟩
  · rw [e1, e2, e3, e5, e7, e_X2_init_44, e8, Option.bind_some]
    show q_L 19 48 [(12, a)] [(18, a + 13), (12, a)] (sh8, h8) = _
    rw [e_X2_init_48, if_pos (by omega)]
  · by_cases e : k = a
    · exfalso
      rw [e, vo j (fun z => by simp [e, z] at q) (fun z => by simp [e, z] at q) (fun z => by simp [e, z] at q) (fun z => by simp [e, z] at q) (fun z => by simp [e, z] at q)] at hv
      cases hv
    · have : Q k j := by simpa [e] using q
      exact this
