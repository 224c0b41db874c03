abbrev hearK (k : Int) : Prop := k = 2 ∨ k = 3 ∨ k = 4 ∨ k = 5 ∨ k = 6
abbrev sendK (k : Int) : Prop := k = 1 ∨ k = 3 ∨ k = 4
/-- what dish d does in an hour: p, the crafts whose orders go, how many blocks are sent -/
def dG (G : Int → Int) (M d : Int) : (Int → Int) × Int × Int :=
  if rF G d (G 3).toNat < 0 then (G, M, 0) else if G (70 + d) = 1 then (ud G (480 + rF G d (G 3).toNat) 4, M, 0) else
  (if hearK (G (396 + rF G d (G 3).toNat)) then sendG G (G (410 + rF G d (G 3).toNat)) (linkF G (G (410 + rF G d (G 3).toNat)) d (G 0) / 8) else G,
   if sendK (G (396 + rF G d (G 3).toNat)) then q_or M (q_shl 1 (G (410 + rF G d (G 3).toNat))) else M,
   if hearK (G (396 + rF G d (G 3).toNat)) then sentN G (G (410 + rF G d (G 3).toNat)) (linkF G (G (410 + rF G d (G 3).toNat)) d (G 0) / 8) else 0)
def dN (G : Int → Int) : Nat → (Int → Int) × Int × Int
  | 0 => (G, 0, 0)
  | d + 1 => ((dG (dN G d).1 (dN G d).2.1 d).1, (dG (dN G d).1 (dN G d).2.1 d).2.1, q_add (dN G d).2.2 (dG (dN G d).1 (dN G d).2.1 d).2.2)
/-- what the dishes leave as it was -/
theorem dG_keep {G : Int → Int} {M d : Int} (wf : WF G) (hM : q_i32 M) (d0 : 0 ≤ d) (d1 : d < G 1) : WF (dG G M d).1 ∧ q_i32 (dG G M d).2.1 ∧ (∀ y, (y < 300 ∨ (396 ≤ y ∧ y < 480) ∨ 494 ≤ y) → (dG G M d).1 y = G y) ∧ ∀ a, 0 ≤ a → a < G 3 → (dG G M d).1 (480 + a) = G (480 + a) ∨ (dG G M d).1 (480 + a) = 4 := by
  have u3 := wf.1.na
  have u1 := wf.1.nd
  have u2 := wf.1.nc
  have sp := rF_b G d (G 3).toNat
  rw [Int.toNat_of_nonneg u3.1] at sp
  unfold dG
  obtain ⟨a, ea⟩ : ∃ a, rF G d (G 3).toNat = a := ⟨_, rfl⟩
  rw [ea] at sp ⊢
  split
  · exact ⟨wf, hM, fun _ _ => rfl, fun _ _ _ => Or.inl rfl⟩
  · rename_i na
    rcases sp with ⟨s1, _⟩ | ⟨s1, s2, s3, s4⟩
    · omega
    · split
      · refine ⟨wf.over s1 s2 (by decide) (by decide), hM, fun y hy => ud_ne (by omega), fun b b0 b1 => ?_⟩
        by_cases e : b = a
        · right; exact ud_eq (by omega)
        · left; exact ud_ne (by omega)
      · have wa := wf.2.2.1 a s1 s2
        have rc := wf.1.acraft (d := a) s1 (by omega)
        have rb := wf.1.blocks (d := G (410 + a)) rc.1 (by omega)
        refine ⟨?_, ?_, ?_, ?_⟩
        · show WF (if hearK (G (396 + a)) then sendG G (G (410 + a)) (linkF G (G (410 + a)) d (G 0) / 8) else G)
          split
          · exact wf.send rc.1 (by omega)
          · exact wf
        · show q_i32 (if sendK (G (396 + a)) then q_or M (q_shl 1 (G (410 + a))) else M)
          split
          · exact q_or_i32 _ _
          · exact hM
        · intro y hy
          show (if hearK (G (396 + a)) then sendG G (G (410 + a)) (linkF G (G (410 + a)) d (G 0) / 8) else G) y = G y
          split
          · exact sendG_f (by omega)
          · rfl
        · intro b b0 b1
          left
          show (if hearK (G (396 + a)) then sendG G (G (410 + a)) (linkF G (G (410 + a)) d (G 0) / 8) else G) (480 + b) = G (480 + b)
          split
          · exact sendG_f (by omega)
          · rfl
theorem k_serve {sh : Int × (Int → Nat × Int)} {h h0 : Int → Int → Int} {w M d : Int} {G : Int → Int} (hs : Sh sh) (ho : Old sh h0) (iw : isW w) (wf : WF G) (d0 : 0 ≤ d) (d1 : d < G 1) (cw : CW h0 h w (goM G M)) : ∃ h', q_Cc 100 [(20, w), (0, d)] (sh, h) = some ((0, (dG G M d).2.2), (sh, h')) ∧ CW h0 h' w (goM (dG G M d).1 (dG G M d).2.1) := by
  have wr := wf.1
  have u0 := wr.hour
  have u1 := wr.nd
  have u2 := wr.nc
  have u3 := wr.na
  have w0 := iw.b
  have wX := goM_wr (M := M) wr
  have hp := cw.2.1
  have hr := cw.1
  have X0 : goM G M 0 = G 0 := goM_f (by omega)
  have X1 : goM G M 1 = G 1 := goM_f (by omega)
  have X2 : goM G M 2 = G 2 := goM_f (by omega)
  have X3 : goM G M 3 = G 3 := goM_f (by omega)
  have hu : uq (goM G M) := by
    intro a b a0 a1 b0 b1 sa sb dd
    rw [X3] at a1 b1
    rw [goM_f (by omega)] at sa sb
    rw [goM_f (by omega), goM_f (by omega)] at dd
    exact wf.uq a b a0 a1 b0 b1 sa sb dd
  have kr := k_runningOn (d := d) hs hp iw hr wX hu
  rw [goM_rF u3] at kr
  have sp := rF_b G d (G 3).toNat
  rw [Int.toNat_of_nonneg u3.1] at sp
  have fd := hr.broken wX d d0 (by rw [X1]; exact d1)
  rw [goM_f (by omega)] at fd
  have rb := wr.broken (d := d) d0 (by omega)
  obtain ⟨a, ea⟩ : ∃ a, rF G d (G 3).toNat = a := ⟨_, rfl⟩
  rw [ea] at kr sp
  by_cases na : a < 0
  · have e : dG G M d = (G, M, 0) := by unfold dG; rw [ea, if_pos na]
    rw [e]
    refine ⟨h, ?_, cw⟩
    simp (disch := omega) only [q_470, q_up_far, q_row_row, q_row_self, q_row_ne, q_up_ne, q_up_eq, q_rowup, ud_eq, ud_ne, q_add_id, q_sub_id, q_mul_id, q_w_eq, q_rem_n, q_div_n, ↓reduceIte, leT, leF, ltT, ltF, eqT, eqF, true_or, or_true, false_or, or_false, true_and, and_true, false_and, and_false, or_self, and_self, Option.bind_some, kr, c_X10_serve, e_X10_serve_0, e_X10_serve_5]
  · rcases sp with ⟨s1, _⟩ | ⟨s1, s2, s3, s4⟩
    · omega
    · have wa := wf.2.2.1 a s1 s2
      have rc := wr.acraft (d := a) s1 (by omega)
      have rk := wr.kind (d := a) s1 (by omega)
      have fc := hr.acraft wX a s1 (by rw [X3]; exact s2)
      have fk := hr.kind wX a s1 (by rw [X3]; exact s2)
      rw [goM_f (by omega)] at fc fk
      by_cases br : G (70 + d) = 1
      · have e : dG G M d = (ud G (480 + a) 4, M, 0) := by unfold dG; rw [ea, if_neg na, if_pos br]
        rw [e]
        refine ⟨q_up h (w + 133 + a) 6 4, ?_, ?_⟩
        · simp (disch := omega) only [q_470, q_up_far, q_row_row, q_row_self, q_row_ne, q_up_ne, q_up_eq, q_rowup, ud_eq, ud_ne, q_add_id, q_sub_id, q_mul_id, q_w_eq, q_rem_n, q_div_n, ↓reduceIte, leT, leF, ltT, ltF, eqT, eqF, true_or, or_true, false_or, or_false, true_and, and_true, false_and, and_false, or_self, and_self, Option.bind_some, kr, fd, br, hp.w7 iw, hp.w5 iw, hp.ask iw, hp.dish iw, hs.asks iw, hs.dishes iw, c_X10_serve, e_X10_serve_0, e_X10_serve_5]
        · show CW h0 _ w (goM (ud G (480 + a) 4) M)
          rw [← goM_over s1 (by omega)]
          exact cw.set wX iw (lo_astate s1 (by omega)) (by omega) (pn_ask iw s1 (by omega)) (by omega)
      · obtain ⟨c, ec⟩ : ∃ c, G (410 + a) = c := ⟨_, rfl⟩
        rw [ec] at wa rc fc
        obtain ⟨k, ek⟩ : ∃ k, G (396 + a) = k := ⟨_, rfl⟩
        rw [ek] at rk fk
        have br0 : G (70 + d) = 0 := by omega
        obtain ⟨L, eL⟩ : ∃ L, linkF G c d (G 0) / 8 = L := ⟨_, rfl⟩
        have e : dG G M d = (if hearK k then sendG G c L else G, if sendK k then q_or M (q_shl 1 c) else M, if hearK k then sentN G c L else 0) := by unfold dG; rw [ea, if_neg na, if_neg br, ec, ek, eL]
        have lk := linkF_b (c := c) (d := d) (t := G 0) wr rc.1 (by omega) d0 (by omega) u0.1
        have iso : ∀ (g : Int → Int → Int), (∀ x, x < w ∨ w + 147 ≤ x → g x = h0 x) → g (w + 133 + a) 0 = k → ∀ x, 0 ≤ x → x ≤ 6 → q_Cc 6 [(10, w + 133 + a), (0, x)] (sh, g) = some ((0, isOfF k x), (sh, g)) := by
          intro g hg gk x x0 x6
          have og : Old sh g := ⟨ho.1, fun j => by rw [hg (-5) (by omega)]; exact ho.2 j⟩
          exact k_isOf og gk rk.1 rk.2 x0 x6
        have i1 := iso h cw.2.2 fk
        -- the orders go out, or not
        have step1 : ∃ h1, q_L 100 54 [(20, w), (0, d), (0, a), (10, w + 133 + a), (12, w + 13 + 15 * c)] [(0, isOfF k 1)] (sh, h) = q_L 100 77 [(20, w), (0, d), (0, a), (10, w + 133 + a), (12, w + 13 + 15 * c)] [] (sh, h1) ∧ CW h0 h1 w (goM G (if sendK k then q_or M (q_shl 1 c) else M)) := by
          by_cases sk : sendK k
          · obtain ⟨h1, g1, g2⟩ := k_goOut (c := c) hs iw wX rc.1 (by rw [X2]; exact wa.1) cw
            rw [X0] at g1
            rw [goM_f (by omega : 148 + c < 1002 ∨ _), goM_or wr rc.1 wa.1] at g2
            refine ⟨h1, ?_, by rw [if_pos sk]; exact g2⟩
            have f0 := hr.hour wX
            rw [X0] at f0
            have j3 := i1 3 (by decide) (by decide)
            rcases sk with rfl | rfl | rfl
            · have q1 : isOfF 1 1 = 1 := rfl
              simp (disch := omega) only [q_470, q_up_far, q_row_row, q_row_self, q_row_ne, q_up_ne, q_up_eq, q_rowup, ud_eq, ud_ne, q_add_id, q_sub_id, q_mul_id, q_w_eq, q_rem_n, q_div_n, ↓reduceIte, leT, leF, ltT, ltF, eqT, eqF, true_or, or_true, false_or, or_false, true_and, and_true, false_and, and_false, or_self, and_self, Option.bind_some, q1, g1, f0, hp.orders iw, e_X10_serve_54, e_X10_serve_62, e_X10_serve_65]
            · have q1 : isOfF 3 1 = 0 := rfl
              have q2 : isOfF 3 3 = 1 := rfl
              simp (disch := omega) only [q_470, q_up_far, q_row_row, q_row_self, q_row_ne, q_up_ne, q_up_eq, q_rowup, ud_eq, ud_ne, q_add_id, q_sub_id, q_mul_id, q_w_eq, q_rem_n, q_div_n, ↓reduceIte, leT, leF, ltT, ltF, eqT, eqF, true_or, or_true, false_or, or_false, true_and, and_true, false_and, and_false, or_self, and_self, Option.bind_some, q1, q2, j3, g1, f0, hp.orders iw, e_X10_serve_54, e_X10_serve_62, e_X10_serve_65]
            · have q1 : isOfF 4 1 = 0 := rfl
              have q2 : isOfF 4 3 = 1 := rfl
              simp (disch := omega) only [q_470, q_up_far, q_row_row, q_row_self, q_row_ne, q_up_ne, q_up_eq, q_rowup, ud_eq, ud_ne, q_add_id, q_sub_id, q_mul_id, q_w_eq, q_rem_n, q_div_n, ↓reduceIte, leT, leF, ltT, ltF, eqT, eqF, true_or, or_true, false_or, or_false, true_and, and_true, false_and, and_false, or_self, and_self, Option.bind_some, q1, q2, j3, g1, f0, hp.orders iw, e_X10_serve_54, e_X10_serve_62, e_X10_serve_65]
          · refine ⟨h, ?_, by rw [if_neg sk]; exact cw⟩
            have j3 := i1 3 (by decide) (by decide)
            have k7 : k = 0 ∨ k = 2 ∨ k = 5 ∨ k = 6 := by
              have : ¬ (k = 1 ∨ k = 3 ∨ k = 4) := sk
              omega
            rcases k7 with rfl | rfl | rfl | rfl
            · have q1 : isOfF 0 1 = 0 := rfl
              have q2 : isOfF 0 3 = 0 := rfl
              simp (disch := omega) only [q_470, q_up_far, q_row_row, q_row_self, q_row_ne, q_up_ne, q_up_eq, q_rowup, ud_eq, ud_ne, q_add_id, q_sub_id, q_mul_id, q_w_eq, q_rem_n, q_div_n, ↓reduceIte, leT, leF, ltT, ltF, eqT, eqF, true_or, or_true, false_or, or_false, true_and, and_true, false_and, and_false, or_self, and_self, Option.bind_some, q1, q2, j3, e_X10_serve_54, e_X10_serve_62]
            · have q1 : isOfF 2 1 = 0 := rfl
              have q2 : isOfF 2 3 = 0 := rfl
              simp (disch := omega) only [q_470, q_up_far, q_row_row, q_row_self, q_row_ne, q_up_ne, q_up_eq, q_rowup, ud_eq, ud_ne, q_add_id, q_sub_id, q_mul_id, q_w_eq, q_rem_n, q_div_n, ↓reduceIte, leT, leF, ltT, ltF, eqT, eqF, true_or, or_true, false_or, or_false, true_and, and_true, false_and, and_false, or_self, and_self, Option.bind_some, q1, q2, j3, e_X10_serve_54, e_X10_serve_62]
            · have q1 : isOfF 5 1 = 0 := rfl
              have q2 : isOfF 5 3 = 0 := rfl
              simp (disch := omega) only [q_470, q_up_far, q_row_row, q_row_self, q_row_ne, q_up_ne, q_up_eq, q_rowup, ud_eq, ud_ne, q_add_id, q_sub_id, q_mul_id, q_w_eq, q_rem_n, q_div_n, ↓reduceIte, leT, leF, ltT, ltF, eqT, eqF, true_or, or_true, false_or, or_false, true_and, and_true, false_and, and_false, or_self, and_self, Option.bind_some, q1, q2, j3, e_X10_serve_54, e_X10_serve_62]
            · have q1 : isOfF 6 1 = 0 := rfl
              have q2 : isOfF 6 3 = 0 := rfl
              simp (disch := omega) only [q_470, q_up_far, q_row_row, q_row_self, q_row_ne, q_up_ne, q_up_eq, q_rowup, ud_eq, ud_ne, q_add_id, q_sub_id, q_mul_id, q_w_eq, q_rem_n, q_div_n, ↓reduceIte, leT, leF, ltT, ltF, eqT, eqF, true_or, or_true, false_or, or_false, true_and, and_true, false_and, and_false, or_self, and_self, Option.bind_some, q1, q2, j3, e_X10_serve_54, e_X10_serve_62]
        obtain ⟨h1, t1, cw1⟩ := step1
        obtain ⟨N, eN⟩ : ∃ N, (if sendK k then q_or M (q_shl 1 c) else M) = N := ⟨_, rfl⟩
        rw [eN] at cw1
        have wY := goM_wr (M := N) wr
        have hr1 := cw1.1
        have hp1 := cw1.2.1
        have Y0 : goM G N 0 = G 0 := goM_f (by omega)
        have Y1 : goM G N 1 = G 1 := goM_f (by omega)
        have Y2 : goM G N 2 = G 2 := goM_f (by omega)
        have Y3 : goM G N 3 = G 3 := goM_f (by omega)
        have fk1 := hr1.kind wY a s1 (by rw [Y3]; exact s2)
        rw [goM_f (by omega), ek] at fk1
        have i2 := iso h1 cw1.2.2 fk1
        have step2 : ∃ h2, q_L 100 77 [(20, w), (0, d), (0, a), (10, w + 133 + a), (12, w + 13 + 15 * c)] [] (sh, h1) = some ((0, if hearK k then sentN G c L else 0), (sh, h2)) ∧ CW h0 h2 w (goM (if hearK k then sendG G c L else G) N) := by
          have j2 := i2 2 (by decide) (by decide)
          have j3 := i2 3 (by decide) (by decide)
          by_cases hk : hearK k
          · obtain ⟨h2, g1, g2⟩ := k_send2 (c := c) (L := L) hs iw wY rc.1 (by rw [Y2]; exact wa.1) (by omega) (by omega) cw1
            rw [(goM_send wr rc.1 (by omega)).1] at g2
            rw [(goM_send wr rc.1 (by omega)).2, Y0, goM_f (by omega : 84 + c < 1002 ∨ _)] at g1
            refine ⟨h2, ?_, by rw [if_pos hk]; exact g2⟩
            rw [if_pos hk]
            have f0 := hr1.hour wY
            rw [Y0] at f0
            have ff := hr1.far wY c rc.1 (by rw [Y2]; exact wa.1)
            rw [goM_f (by omega)] at ff
            have rfa := wr.far (d := c) rc.1 (by omega)
            have kl := k_linkAt (c := c) (d := d) (t := G 0) hs hp1 iw hr1 wY rc.1 (by rw [Y2]; exact wa.1) d0 (by rw [Y1]; exact d1) u0.1 (by omega)
            rw [goM_link rc.1 (by omega) d0 (by omega) wr u0.1] at kl
            have fin : q_L 100 93 [(20, w), (0, d), (0, a), (10, w + 133 + a), (12, w + 13 + 15 * c)] [] (sh, h1) = some ((0, sentN G c L), (sh, h2)) := by
              simp (disch := omega) only [q_470, q_up_far, q_row_row, q_row_self, q_row_ne, q_up_ne, q_up_eq, q_rowup, ud_eq, ud_ne, q_add_id, q_sub_id, q_mul_id, q_w_eq, q_rem_n, q_div_n, ↓reduceIte, leT, leF, ltT, ltF, eqT, eqF, true_or, or_true, false_or, or_false, true_and, and_true, false_and, and_false, or_self, and_self, Option.bind_some, f0, ff, kl, eL, g1, hp1.blocks iw, hp1.w5 iw, hp1.dish iw, hs.dishes iw, e_X10_serve_93, e_X10_serve_114, e_X10_serve_131]
            rcases hk with rfl | rfl | rfl | rfl | rfl
            · have q1 : isOfF 2 2 = 1 := rfl
              simp (disch := omega) only [q_470, q_up_far, q_row_row, q_row_self, q_row_ne, q_up_ne, q_up_eq, q_rowup, ud_eq, ud_ne, q_add_id, q_sub_id, q_mul_id, q_w_eq, q_rem_n, q_div_n, ↓reduceIte, leT, leF, ltT, ltF, eqT, eqF, true_or, or_true, false_or, or_false, true_and, and_true, false_and, and_false, or_self, and_self, Option.bind_some, q1, j2, fin, e_X10_serve_77, e_X10_serve_82, e_X10_serve_90]
            · have q1 : isOfF 3 2 = 0 := rfl
              have q2 : isOfF 3 3 = 1 := rfl
              simp (disch := omega) only [q_470, q_up_far, q_row_row, q_row_self, q_row_ne, q_up_ne, q_up_eq, q_rowup, ud_eq, ud_ne, q_add_id, q_sub_id, q_mul_id, q_w_eq, q_rem_n, q_div_n, ↓reduceIte, leT, leF, ltT, ltF, eqT, eqF, true_or, or_true, false_or, or_false, true_and, and_true, false_and, and_false, or_self, and_self, Option.bind_some, q1, q2, j2, j3, fin, e_X10_serve_77, e_X10_serve_82, e_X10_serve_90]
            · have q1 : isOfF 4 2 = 0 := rfl
              have q2 : isOfF 4 3 = 1 := rfl
              simp (disch := omega) only [q_470, q_up_far, q_row_row, q_row_self, q_row_ne, q_up_ne, q_up_eq, q_rowup, ud_eq, ud_ne, q_add_id, q_sub_id, q_mul_id, q_w_eq, q_rem_n, q_div_n, ↓reduceIte, leT, leF, ltT, ltF, eqT, eqF, true_or, or_true, false_or, or_false, true_and, and_true, false_and, and_false, or_self, and_self, Option.bind_some, q1, q2, j2, j3, fin, e_X10_serve_77, e_X10_serve_82, e_X10_serve_90]
            · have q1 : isOfF 5 2 = 1 := rfl
              simp (disch := omega) only [q_470, q_up_far, q_row_row, q_row_self, q_row_ne, q_up_ne, q_up_eq, q_rowup, ud_eq, ud_ne, q_add_id, q_sub_id, q_mul_id, q_w_eq, q_rem_n, q_div_n, ↓reduceIte, leT, leF, ltT, ltF, eqT, eqF, true_or, or_true, false_or, or_false, true_and, and_true, false_and, and_false, or_self, and_self, Option.bind_some, q1, j2, fin, e_X10_serve_77, e_X10_serve_82, e_X10_serve_90]
            · have q1 : isOfF 6 2 = 1 := rfl
              simp (disch := omega) only [q_470, q_up_far, q_row_row, q_row_self, q_row_ne, q_up_ne, q_up_eq, q_rowup, ud_eq, ud_ne, q_add_id, q_sub_id, q_mul_id, q_w_eq, q_rem_n, q_div_n, ↓reduceIte, leT, leF, ltT, ltF, eqT, eqF, true_or, or_true, false_or, or_false, true_and, and_true, false_and, and_false, or_self, and_self, Option.bind_some, q1, j2, fin, e_X10_serve_77, e_X10_serve_82, e_X10_serve_90]
          · refine ⟨h1, ?_, by rw [if_neg hk]; exact cw1⟩
            rw [if_neg hk]
            have k7 : k = 0 ∨ k = 1 := by
              have : ¬ (k = 2 ∨ k = 3 ∨ k = 4 ∨ k = 5 ∨ k = 6) := hk
              omega
            rcases k7 with rfl | rfl
            · have q1 : isOfF 0 2 = 0 := rfl
              have q2 : isOfF 0 3 = 0 := rfl
              simp (disch := omega) only [q_470, q_up_far, q_row_row, q_row_self, q_row_ne, q_up_ne, q_up_eq, q_rowup, ud_eq, ud_ne, q_add_id, q_sub_id, q_mul_id, q_w_eq, q_rem_n, q_div_n, ↓reduceIte, leT, leF, ltT, ltF, eqT, eqF, true_or, or_true, false_or, or_false, true_and, and_true, false_and, and_false, or_self, and_self, Option.bind_some, q1, q2, j2, j3, e_X10_serve_77, e_X10_serve_82, e_X10_serve_90]
            · have q1 : isOfF 1 2 = 0 := rfl
              have q2 : isOfF 1 3 = 0 := rfl
              simp (disch := omega) only [q_470, q_up_far, q_row_row, q_row_self, q_row_ne, q_up_ne, q_up_eq, q_rowup, ud_eq, ud_ne, q_add_id, q_sub_id, q_mul_id, q_w_eq, q_rem_n, q_div_n, ↓reduceIte, leT, leF, ltT, ltF, eqT, eqF, true_or, or_true, false_or, or_false, true_and, and_true, false_and, and_false, or_self, and_self, Option.bind_some, q1, q2, j2, j3, e_X10_serve_77, e_X10_serve_82, e_X10_serve_90]
        obtain ⟨h2, t2, cw2⟩ := step2
        rw [e]
        refine ⟨h2, ?_, by show CW h0 h2 w (goM (if hearK k then sendG G c L else G) (if sendK k then q_or M (q_shl 1 c) else M)); rw [eN]; exact cw2⟩
        show q_Cc 100 [(20, w), (0, d)] (sh, h) = some ((0, if hearK k then sentN G c L else 0), (sh, h2))
        rw [← t2, ← t1]
        have j1 := i1 1 (by decide) (by decide)
        simp (disch := omega) only [q_470, q_up_far, q_row_row, q_row_self, q_row_ne, q_up_ne, q_up_eq, q_rowup, ud_eq, ud_ne, q_add_id, q_sub_id, q_mul_id, q_w_eq, q_rem_n, q_div_n, ↓reduceIte, leT, leF, ltT, ltF, eqT, eqF, true_or, or_true, false_or, or_false, true_and, and_true, false_and, and_false, or_self, and_self, Option.bind_some, kr, fd, fc, br0, j1, hp.w7 iw, hp.w5 iw, hp.w6 iw, hp.ask iw, hp.dish iw, hp.craft iw, hs.asks iw, hs.dishes iw, hs.crafts iw, c_X10_serve, e_X10_serve_0, e_X10_serve_5]
