/-! an hour goes, whole -/
theorem dN_keep {G : Int → Int} (wf : WF G) : ∀ d : Nat, (d : Int) ≤ G 1 → WF (dN G d).1 ∧ q_i32 (dN G d).2.1 ∧ (∀ y, (y < 300 ∨ (396 ≤ y ∧ y < 480) ∨ 494 ≤ y) → (dN G d).1 y = G y) ∧ ∀ a, 0 ≤ a → a < G 3 → (dN G d).1 (480 + a) = G (480 + a) ∨ (dN G d).1 (480 + a) = 4 := by
  intro d
  induction d with
  | zero => intro _; exact ⟨wf, ⟨by show (-2147483648 : Int) ≤ 0; decide, by show (0 : Int) < 2147483648; decide⟩, fun _ _ => rfl, fun _ _ _ => Or.inl rfl⟩
  | succ d ih =>
    intro hd
    obtain ⟨w1, m1, k1, s1⟩ := ih (by omega)
    obtain ⟨w2, m2, k2, s2⟩ := dG_keep (M := (dN G d).2.1) (d := d) w1 m1 (by omega) (by rw [k1 1 (by omega)]; omega)
    refine ⟨w2, m2, fun y hy => by show (dG (dN G d).1 (dN G d).2.1 d).1 y = _; rw [k2 y hy]; exact k1 y hy, fun a a0 a1 => ?_⟩
    have a1' : a < (dN G d).1 3 := by rw [k1 3 (by omega)]; exact a1
    rcases s2 a a0 a1' with q | q
    · rcases s1 a a0 a1 with p | p
      · left; show (dG (dN G d).1 (dN G d).2.1 d).1 (480 + a) = _; rw [q, p]
      · right; show (dG (dN G d).1 (dN G d).2.1 d).1 (480 + a) = _; rw [q, p]
    · right; exact q
theorem q_add_i32 (x y : Int) : q_i32 (q_add x y) := by unfold q_i32 q_add q_w; omega
theorem dN_i32 (G : Int → Int) (d : Nat) : q_i32 (dN G d).2.2 := by
  cases d with
  | zero => exact ⟨by show (-2147483648 : Int) ≤ 0; decide, by show (0 : Int) < 2147483648; decide⟩
  | succ d => exact q_add_i32 _ _
theorem dN_succ {G : Int → Int} {d : Int} (d0 : 0 ≤ d) : dN G (d + 1).toNat = ((dG (dN G d.toNat).1 (dN G d.toNat).2.1 d).1, (dG (dN G d.toNat).1 (dN G d.toNat).2.1 d).2.1, q_add (dN G d.toNat).2.2 (dG (dN G d.toNat).1 (dN G d.toNat).2.1 d).2.2) := by
  have ei : (d.toNat : Int) = d := Int.toNat_of_nonneg d0
  have es : (d + 1).toNat = d.toNat + 1 := by omega
  rw [es]
  show ((dG (dN G d.toNat).1 (dN G d.toNat).2.1 (d.toNat : Int)).1, (dG (dN G d.toNat).1 (dN G d.toNat).2.1 (d.toNat : Int)).2.1, q_add (dN G d.toNat).2.2 (dG (dN G d.toNat).1 (dN G d.toNat).2.1 (d.toNat : Int)).2.2) = _
  rw [ei]
/-- the class serves all dishes -/
theorem k_serveAll {sh : Int × (Int → Nat × Int)} {h h0 : Int → Int → Int} {w : Int} {G : Int → Int} (hs : Sh sh) (ho : Old sh h0) (iw : isW w) (wf : WF G) (cw : CW h0 h w G) : ∃ h', q_L 98 8 [(20, w), (0, 0), (0, 0)] [] (sh, h) = q_L 98 8 [(20, w), (0, (dN G (G 1).toNat).2.2), (0, G 1)] [] (sh, h') ∧ CW h0 h' w (goM (dN G (G 1).toNat).1 (dN G (G 1).toNat).2.1) := by
  have u1 := wf.1.nd
  have z0 : goM G 0 = G := by
    funext y
    by_cases hy : 1002 ≤ y ∧ y < 1098
    · unfold goM goQ
      rw [if_neg]
      intro hh
      rw [ib_zero (by omega) (by omega)] at hh
      omega
    · exact goM_f (by omega)
  refine lp (fun d (y : Int × (Int → Int → Int)) => q_L 98 8 [(20, w), (0, y.1), (0, d)] [] (sh, y.2)) (fun d y => y.1 = (dN G d.toNat).2.2 ∧ CW h0 y.2 w (goM (dN G d.toNat).1 (dN G d.toNat).2.1)) (fun r => ∃ h', r = q_L 98 8 [(20, w), (0, (dN G (G 1).toNat).2.2), (0, G 1)] [] (sh, h') ∧ CW h0 h' w (goM (dN G (G 1).toNat).1 (dN G (G 1).toNat).2.1)) (G 1) ?_ ?_ 0 (0, h) (by omega) u1.1 ⟨rfl, by show CW h0 h w (goM G 0); rw [z0]; exact cw⟩
  · intro d y d0 d1 hI
    obtain ⟨s, g⟩ := y
    obtain ⟨es, hI⟩ := hI
    have es : s = (dN G d.toNat).2.2 := es
    have hI : CW h0 g w (goM (dN G d.toNat).1 (dN G d.toNat).2.1) := hI
    obtain ⟨w1, m1, k1, s1⟩ := dN_keep wf d.toNat (by omega)
    have e1 : (dN G d.toNat).1 1 = G 1 := k1 1 (by omega)
    obtain ⟨g', q1, q2⟩ := k_serve (d := d) hs ho iw w1 d0 (by rw [e1]; exact d1) hI
    have f1 := hI.1.nd (goM_wr w1.1)
    rw [goM_f (by omega), e1] at f1
    left
    refine ⟨(q_add s (dG (dN G d.toNat).1 (dN G d.toNat).2.1 d).2.2, g'), ?_, ?_, ?_⟩
    · show q_L 98 8 [(20, w), (0, s), (0, d)] [] (sh, g) = q_L 98 8 [(20, w), (0, q_add s (dG (dN G d.toNat).1 (dN G d.toNat).2.1 d).2.2), (0, d + 1)] [] (sh, g')
      rw [e_X10_goHour_8, if_pos (by rw [f1]; exact d1), q1, Option.bind_some, e_X10_goHour_22, q_w_eq (by omega) (by omega)]
    · show q_add s _ = (dN G (d + 1).toNat).2.2
      rw [dN_succ d0, es]
    · show CW h0 g' w (goM (dN G (d + 1).toNat).1 (dN G (d + 1).toNat).2.1)
      rw [dN_succ d0]
      exact q2
  · intro y hI
    obtain ⟨s, g⟩ := y
    obtain ⟨es, hI⟩ := hI
    have es : s = (dN G (G 1).toNat).2.2 := es
    exact ⟨g, by rw [← es], hI⟩
theorem r_serveAll {sh : Int × (Int → Nat × Int)} {h : Int → Int → Int} {G : Int → Int} {x4 x5 : q_V} (e0 : h 469 0 = 470) (e27 : h 469 27 = 487) (l : (sh.2 470).2 = 1354) (l27 : (sh.2 487).2 = 12) (wf : WF G) : ∃ (W : Int → Int) (y4 y5 : q_V), q_L 226 81 [(22, 469), (0, 0), (0, 0), (0, 0), x4, x5] [] (sh, q_row h 470 G) = q_L 226 81 [(22, 469), (0, (dN G (G 1).toNat).2.2), (0, (dN G (G 1).toNat).2.1), (0, G 1), y4, y5] [] (sh, q_row (q_row h 487 W) 470 (dN G (G 1).toNat).1) := by
  have u1 := wf.1.nd
  have this := lp (fun d (y : ((Int × Int) × q_V × q_V) × (Int → Int) × (Int → Int)) => q_L 226 81 [(22, 469), (0, y.1.1.1), (0, y.1.1.2), (0, d), y.1.2.1, y.1.2.2] [] (sh, q_row (q_row h 487 y.2.1) 470 y.2.2)) (fun d y => y.1.1.1 = (dN G d.toNat).2.2 ∧ y.1.1.2 = (dN G d.toNat).2.1 ∧ y.2.2 = (dN G d.toNat).1) (fun r => ∃ (W : Int → Int) (y4 y5 : q_V), r = q_L 226 81 [(22, 469), (0, (dN G (G 1).toNat).2.2), (0, (dN G (G 1).toNat).2.1), (0, G 1), y4, y5] [] (sh, q_row (q_row h 487 W) 470 (dN G (G 1).toNat).1)) (G 1) ?_ ?_ 0 (((0, 0), x4, x5), h 487, G) (by omega) u1.1 ⟨rfl, rfl, rfl⟩
  · obtain ⟨W, y4, y5, q⟩ := this
    refine ⟨W, y4, y5, ?_⟩
    have q : q_L 226 81 [(22, 469), (0, 0), (0, 0), (0, 0), x4, x5] [] (sh, q_row (q_row h 487 (h 487)) 470 G) = _ := q
    rw [q_row_id] at q
    exact q
  · intro d y d0 d1 hI
    obtain ⟨⟨⟨s, m⟩, x4, x5⟩, W, F⟩ := y
    obtain ⟨es, em, eF⟩ := hI
    have es : s = (dN G d.toNat).2.2 := es
    have em : m = (dN G d.toNat).2.1 := em
    have eF : F = (dN G d.toNat).1 := eF
    obtain ⟨w1, m1, k1, s1⟩ := dN_keep wf d.toNat (by omega)
    rw [← eF] at w1 k1
    rw [← em] at m1
    have wr := w1.1
    have u0 := wr.hour
    have u3 := wr.na
    have u2 := wr.nc
    have e1 : F 1 = G 1 := k1 1 (by omega)
    obtain ⟨H, eH⟩ : ∃ H, q_row h 487 W = H := ⟨_, rfl⟩
    have H0 : H 469 0 = 470 := by rw [← eH, q_row_ne (by decide)]; exact e0
    have H27 : H 469 27 = 487 := by rw [← eH, q_row_ne (by decide)]; exact e27
    have rr := r_running (sh := sh) (h := q_row H 470 F) (d := d) (G := F) (by rw [q_row_ne (by decide)]; exact H0) l (q_row_self _ _ _) wr
    have sp := rF_b F d (F 3).toNat
    rw [Int.toNat_of_nonneg u3.1] at sp
    have rb := wr.broken (d := d) d0 (by omega)
    left
    -- it is enough to come to the next dish
    have go : ∀ (W' : Int → Int) (y4 y5 : q_V), q_L 226 81 [(22, 469), (0, s), (0, m), (0, d), x4, x5] [] (sh, q_row H 470 F) = q_L 226 222 [(22, 469), (0, q_add s (dG F m d).2.2), (0, (dG F m d).2.1), (0, d), (0, y4.2), y5] [] (sh, q_row (q_row h 487 W') 470 (dG F m d).1) → ∃ y : ((Int × Int) × q_V × q_V) × (Int → Int) × (Int → Int), q_L 226 81 [(22, 469), (0, s), (0, m), (0, d), x4, x5] [] (sh, q_row (q_row h 487 W) 470 F) = q_L 226 81 [(22, 469), (0, y.1.1.1), (0, y.1.1.2), (0, d + 1), y.1.2.1, y.1.2.2] [] (sh, q_row (q_row h 487 y.2.1) 470 y.2.2) ∧ y.1.1.1 = (dN G (d + 1).toNat).2.2 ∧ y.1.1.2 = (dN G (d + 1).toNat).2.1 ∧ y.2.2 = (dN G (d + 1).toNat).1 := by
      intro W' y4 y5 q
      refine ⟨(((q_add s (dG F m d).2.2, (dG F m d).2.1), (0, y4.2), y5), W', (dG F m d).1), ?_, ?_, ?_, ?_⟩
      · rw [eH, q, e_X12_goes_222, q_w_eq (by omega) (by omega)]
      · show q_add s (dG F m d).2.2 = _
        rw [dN_succ d0, ← es, ← em, ← eF]
      · show (dG F m d).2.1 = _
        rw [dN_succ d0, ← em, ← eF]
      · show (dG F m d).1 = _
        rw [dN_succ d0, ← em, ← eF]
    obtain ⟨a, ea⟩ : ∃ a, rF F d (F 3).toNat = a := ⟨_, rfl⟩
    rw [ea] at rr sp
    have q470 : ∀ K : Int → Int, q_row (q_row h 487 W) 470 K = q_row H 470 K := fun K => by rw [eH]
    have si := dN_i32 G d.toNat
    rw [← es] at si
    obtain ⟨si1, si2⟩ := si
    have s0 : q_add s 0 = s := by rw [q_add_id (by omega) (by omega)]; omega
    have mo := q_or_zero m1
    by_cases na : a < 0
    · refine go W (0, a) x5 ?_
      have e : dG F m d = (F, m, 0) := by unfold dG; rw [ea, if_pos na]
      rw [e, eH]
      show _ = q_L 226 222 [(22, 469), (0, q_add s 0), (0, m), (0, d), (0, a), x5] [] (sh, q_row H 470 F)
      rw [s0, e_X12_goes_81]
      simp (disch := omega) only [q_470, q_up_far, q_row_row, q_row_self, q_row_ne, q_up_ne, q_up_eq, q_rowup, ud_eq, ud_ne, q_add_id, q_sub_id, q_mul_id, q_w_eq, q_rem_n, q_div_n, ↓reduceIte, leT, leF, ltT, ltF, eqT, eqF, true_or, or_true, false_or, or_false, true_and, and_true, false_and, and_false, or_self, and_self, Option.bind_some, H0, l, e1, rr, e_X12_goes_96, e_X12_goes_131]
    · rcases sp with ⟨p1, _⟩ | ⟨p1, p2, p3, p4⟩
      · omega
      · by_cases br : F (70 + d) = 1
        · refine go W (0, a) x5 ?_
          have e : dG F m d = (ud F (480 + a) 4, m, 0) := by unfold dG; rw [ea, if_neg na, if_pos br]
          rw [e, eH]
          show _ = q_L 226 222 [(22, 469), (0, q_add s 0), (0, m), (0, d), (0, a), x5] [] (sh, q_row H 470 (ud F (480 + a) 4))
          rw [s0, e_X12_goes_81]
          simp (disch := omega) only [q_470, q_up_far, q_row_row, q_row_self, q_row_ne, q_up_ne, q_up_eq, q_rowup, ud_eq, ud_ne, q_add_id, q_sub_id, q_mul_id, q_w_eq, q_rem_n, q_div_n, ↓reduceIte, leT, leF, ltT, ltF, eqT, eqF, true_or, or_true, false_or, or_false, true_and, and_true, false_and, and_false, or_self, and_self, Option.bind_some, H0, l, e1, rr, br, e_X12_goes_96, e_X12_goes_131]
        · have wa := w1.2.2.1 a p1 p2
          have rc := wr.acraft (d := a) p1 (by omega)
          have rk := wr.kind (d := a) p1 (by omega)
          obtain ⟨c, ec⟩ : ∃ c, F (410 + a) = c := ⟨_, rfl⟩
          rw [ec] at wa rc
          obtain ⟨k, ek⟩ : ∃ k, F (396 + a) = k := ⟨_, rfl⟩
          rw [ek] at rk
          obtain ⟨L, eL⟩ : ∃ L, linkF F c d (F 0) / 8 = L := ⟨_, rfl⟩
          obtain ⟨W', rs⟩ := r_sends (sh := sh) (h := H) (c := c) (d := d) (G := F) H0 H27 l l27 wr rc.1 (by omega) d0 (by omega)
          rw [eL, ← eH, q_row_row, eH] at rs
          have e : dG F m d = (if hearK k then sendG F c L else F, if sendK k then q_or m (q_shl 1 c) else m, if hearK k then sentN F c L else 0) := by unfold dG; rw [ea, if_neg na, if_neg br, ec, ek, eL]
          have Q0 : q_row h 487 W' 469 0 = 470 := by rw [q_row_ne (by decide)]; exact e0
          have sc : 410 + a < 300 + 12 * c ∨ 300 + 12 * c + F (108 + c) ≤ 410 + a := by
            have := wr.blocks (d := c) rc.1 (by omega)
            omega
          have sca : sendG F c L (410 + a) = c := by rw [sendG_f sc]; exact ec
          have k7 : k = 0 ∨ k = 1 ∨ k = 2 ∨ k = 3 ∨ k = 4 ∨ k = 5 ∨ k = 6 := by omega
          rcases k7 with rfl | rfl | rfl | rfl | rfl | rfl | rfl
          · refine go W (0, a) (0, 0) ?_
            rw [e, eH, if_neg (by decide : ¬ hearK 0), if_neg (by decide : ¬ sendK 0), if_neg (by decide : ¬ hearK 0), e_X12_goes_81]
            simp (disch := omega) only [q_470, q_up_far, q_row_row, q_row_self, q_row_ne, q_up_ne, q_up_eq, q_rowup, ud_eq, ud_ne, q_add_id, q_sub_id, q_mul_id, q_w_eq, q_rem_n, q_div_n, ↓reduceIte, leT, leF, ltT, ltF, eqT, eqF, true_or, or_true, false_or, or_false, true_and, and_true, false_and, and_false, or_self, and_self, Option.bind_some, H0, l, e1, rr, br, ek, ec, s0, mo, e_X12_goes_96, e_X12_goes_131, e_X12_goes_155, e_X12_goes_163, e_X12_goes_186, e_X12_goes_200, e_X12_goes_203, e_X12_goes_220, c_X12_isHear, e_X12_isHear_0, e_X12_isHear_16, e_X12_isHear_21, c_X12_isBoth, e_X12_isBoth_0, e_X12_isBoth_10, e_X12_isBoth_15]
          · refine go W (0, a) (0, 1) ?_
            rw [e, eH, if_neg (by decide : ¬ hearK 1), if_pos (by decide : sendK 1), if_neg (by decide : ¬ hearK 1), e_X12_goes_81]
            simp (disch := omega) only [q_470, q_up_far, q_row_row, q_row_self, q_row_ne, q_up_ne, q_up_eq, q_rowup, ud_eq, ud_ne, q_add_id, q_sub_id, q_mul_id, q_w_eq, q_rem_n, q_div_n, ↓reduceIte, leT, leF, ltT, ltF, eqT, eqF, true_or, or_true, false_or, or_false, true_and, and_true, false_and, and_false, or_self, and_self, Option.bind_some, H0, l, e1, rr, br, ek, ec, s0, mo, e_X12_goes_96, e_X12_goes_131, e_X12_goes_155, e_X12_goes_163, e_X12_goes_186, e_X12_goes_200, e_X12_goes_203, e_X12_goes_220, c_X12_isHear, e_X12_isHear_0, e_X12_isHear_16, e_X12_isHear_21, c_X12_isBoth, e_X12_isBoth_0, e_X12_isBoth_10, e_X12_isBoth_15]
          · refine go W' (0, a) (0, 2) ?_
            rw [e, if_pos (by decide : hearK 2), if_neg (by decide : ¬ sendK 2), if_pos (by decide : hearK 2), e_X12_goes_81]
            simp (disch := omega) only [q_470, q_up_far, q_row_row, q_row_self, q_row_ne, q_up_ne, q_up_eq, q_rowup, ud_eq, ud_ne, q_add_id, q_sub_id, q_mul_id, q_w_eq, q_rem_n, q_div_n, ↓reduceIte, leT, leF, ltT, ltF, eqT, eqF, true_or, or_true, false_or, or_false, true_and, and_true, false_and, and_false, or_self, and_self, Option.bind_some, H0, Q0, l, e1, rr, rs, br, ek, ec, sca, mo, e_X12_goes_96, e_X12_goes_131, e_X12_goes_155, e_X12_goes_163, e_X12_goes_166, e_X12_goes_182, e_X12_goes_186, e_X12_goes_200, e_X12_goes_203, e_X12_goes_220, c_X12_isHear, e_X12_isHear_0, e_X12_isHear_16, e_X12_isHear_21, c_X12_isBoth, e_X12_isBoth_0, e_X12_isBoth_10, e_X12_isBoth_15]
          · refine go W' (0, a) (0, 3) ?_
            rw [e, if_pos (by decide : hearK 3), if_pos (by decide : sendK 3), if_pos (by decide : hearK 3), e_X12_goes_81]
            simp (disch := omega) only [q_470, q_up_far, q_row_row, q_row_self, q_row_ne, q_up_ne, q_up_eq, q_rowup, ud_eq, ud_ne, q_add_id, q_sub_id, q_mul_id, q_w_eq, q_rem_n, q_div_n, ↓reduceIte, leT, leF, ltT, ltF, eqT, eqF, true_or, or_true, false_or, or_false, true_and, and_true, false_and, and_false, or_self, and_self, Option.bind_some, H0, Q0, l, e1, rr, rs, br, ek, ec, sca, mo, e_X12_goes_96, e_X12_goes_131, e_X12_goes_155, e_X12_goes_163, e_X12_goes_166, e_X12_goes_182, e_X12_goes_186, e_X12_goes_200, e_X12_goes_203, e_X12_goes_220, c_X12_isHear, e_X12_isHear_0, e_X12_isHear_16, e_X12_isHear_21, c_X12_isBoth, e_X12_isBoth_0, e_X12_isBoth_10, e_X12_isBoth_15]
          · refine go W' (0, a) (0, 4) ?_
            rw [e, if_pos (by decide : hearK 4), if_pos (by decide : sendK 4), if_pos (by decide : hearK 4), e_X12_goes_81]
            simp (disch := omega) only [q_470, q_up_far, q_row_row, q_row_self, q_row_ne, q_up_ne, q_up_eq, q_rowup, ud_eq, ud_ne, q_add_id, q_sub_id, q_mul_id, q_w_eq, q_rem_n, q_div_n, ↓reduceIte, leT, leF, ltT, ltF, eqT, eqF, true_or, or_true, false_or, or_false, true_and, and_true, false_and, and_false, or_self, and_self, Option.bind_some, H0, Q0, l, e1, rr, rs, br, ek, ec, sca, mo, e_X12_goes_96, e_X12_goes_131, e_X12_goes_155, e_X12_goes_163, e_X12_goes_166, e_X12_goes_182, e_X12_goes_186, e_X12_goes_200, e_X12_goes_203, e_X12_goes_220, c_X12_isHear, e_X12_isHear_0, e_X12_isHear_16, e_X12_isHear_21, c_X12_isBoth, e_X12_isBoth_0, e_X12_isBoth_10, e_X12_isBoth_15]
          · refine go W' (0, a) (0, 5) ?_
            rw [e, if_pos (by decide : hearK 5), if_neg (by decide : ¬ sendK 5), if_pos (by decide : hearK 5), e_X12_goes_81]
            simp (disch := omega) only [q_470, q_up_far, q_row_row, q_row_self, q_row_ne, q_up_ne, q_up_eq, q_rowup, ud_eq, ud_ne, q_add_id, q_sub_id, q_mul_id, q_w_eq, q_rem_n, q_div_n, ↓reduceIte, leT, leF, ltT, ltF, eqT, eqF, true_or, or_true, false_or, or_false, true_and, and_true, false_and, and_false, or_self, and_self, Option.bind_some, H0, Q0, l, e1, rr, rs, br, ek, ec, sca, mo, e_X12_goes_96, e_X12_goes_131, e_X12_goes_155, e_X12_goes_163, e_X12_goes_166, e_X12_goes_182, e_X12_goes_186, e_X12_goes_200, e_X12_goes_203, e_X12_goes_220, c_X12_isHear, e_X12_isHear_0, e_X12_isHear_16, e_X12_isHear_21, c_X12_isBoth, e_X12_isBoth_0, e_X12_isBoth_10, e_X12_isBoth_15]
          · refine go W' (0, a) (0, 6) ?_
            rw [e, if_pos (by decide : hearK 6), if_neg (by decide : ¬ sendK 6), if_pos (by decide : hearK 6), e_X12_goes_81]
            simp (disch := omega) only [q_470, q_up_far, q_row_row, q_row_self, q_row_ne, q_up_ne, q_up_eq, q_rowup, ud_eq, ud_ne, q_add_id, q_sub_id, q_mul_id, q_w_eq, q_rem_n, q_div_n, ↓reduceIte, leT, leF, ltT, ltF, eqT, eqF, true_or, or_true, false_or, or_false, true_and, and_true, false_and, and_false, or_self, and_self, Option.bind_some, H0, Q0, l, e1, rr, rs, br, ek, ec, sca, mo, e_X12_goes_96, e_X12_goes_131, e_X12_goes_155, e_X12_goes_163, e_X12_goes_166, e_X12_goes_182, e_X12_goes_186, e_X12_goes_200, e_X12_goes_203, e_X12_goes_220, c_X12_isHear, e_X12_isHear_0, e_X12_isHear_16, e_X12_isHear_21, c_X12_isBoth, e_X12_isBoth_0, e_X12_isBoth_10, e_X12_isBoth_15]
  · intro y hI
    obtain ⟨⟨⟨s, m⟩, x4, x5⟩, W, F⟩ := y
    obtain ⟨es, em, eF⟩ := hI
    have es : s = (dN G (G 1).toNat).2.2 := es
    have em : m = (dN G (G 1).toNat).2.1 := em
    have eF : F = (dN G (G 1).toNat).1 := eF
    exact ⟨W, x4, x5, by rw [← es, ← em, ← eF]⟩
