/-! tables of silence -/
theorem RelW.heard {h : Int → Int → Int} {w : Int} {G : Int → Int} (hr : RelW h w G) (wr : WFR G) {c s x v : Int} (c0 : 0 ≤ c) (c1 : c < G 2) (s0 : 0 ≤ s) (s1 : s < 8) (hx : ∀ t, 0 ≤ t → t < 8 → ib x t = if t = s then v else ib (h (w + 13 + 15 * c + 13) 1) t) : RelW (q_up h (w + 13 + 15 * c + 13) 1 x) w (ud G (1162 + 8 * c + s) v) := by
  have u2 := wr.nc
  refine ⟨?_, ?_, ?_⟩
  · intro i m l
    have nb := (cel_nb m).2 c c0 (by omega)
    have hm : i ≠ 1162 + 8 * c + s := by unfold Mp at m; omega
    rw [ud_ne hm, q_up_far (by omega)]
    apply hr.1 i m
    unfold Live at l ⊢
    have e : ∀ y, y < 1162 → ud G (1162 + 8 * c + s) v y = G y := fun y hy => ud_ne (by omega)
    rw [e 1 (by omega), e 2 (by omega), e 3 (by omega)] at l
    obtain ⟨a1, a2, a3, a4, a5, a6, a7, a8, a9⟩ := l
    refine ⟨a1, a2, a3, a4, ?_, ?_, a7, ?_, a9⟩
    · intro z1 z2; have := a5 z1 z2; rw [e _ (by omega)] at this; exact this
    · intro z1 z2; have := a6 z1 z2; rw [e _ (by omega)] at this; exact this
    · intro z1 z2; have := a8 z1 z2; rw [e _ (by omega)] at this; exact this
  · intro c' t h0 h1 h2 h3
    rw [ud_ne (by omega)] at h1
    by_cases ec : c' = c
    · subst ec
      rw [q_up_self, hx t h2 h3]
      by_cases et : t = s
      · subst et; rw [if_pos rfl, ud_self]
      · rw [if_neg et, ud_ne (by omega)]; exact hr.2.1 c' t h0 h1 h2 h3
    · rw [q_up_far (by omega), ud_ne (by omega)]; exact hr.2.1 c' t h0 h1 h2 h3
  · intro i h0 h1
    rw [q_up_far (by omega), ud_ne (by omega)]; exact hr.2.2 i h0 h1
theorem RelW.seen {h : Int → Int → Int} {w : Int} {G : Int → Int} (hr : RelW h w G) (wr : WFR G) {s x v : Int} (s0 : 0 ≤ s) (s1 : s < 64) (hx : ∀ t, 0 ≤ t → t < 64 → lb x t = if t = s then v else lb (h (w + 5) 1) t) : RelW (q_up h (w + 5) 1 x) w (ud G (1290 + s) v) := by
  have u2 := wr.nc
  refine ⟨?_, ?_, ?_⟩
  · intro i m l
    have nb := (cel_nb m).1
    have hm : i ≠ 1290 + s := by unfold Mp at m; omega
    rw [ud_ne hm, q_up_far (by omega)]
    apply hr.1 i m
    unfold Live at l ⊢
    have e : ∀ y, y < 1162 → ud G (1290 + s) v y = G y := fun y hy => ud_ne (by omega)
    rw [e 1 (by omega), e 2 (by omega), e 3 (by omega)] at l
    obtain ⟨a1, a2, a3, a4, a5, a6, a7, a8, a9⟩ := l
    refine ⟨a1, a2, a3, a4, ?_, ?_, a7, ?_, a9⟩
    · intro z1 z2; have := a5 z1 z2; rw [e _ (by omega)] at this; exact this
    · intro z1 z2; have := a6 z1 z2; rw [e _ (by omega)] at this; exact this
    · intro z1 z2; have := a8 z1 z2; rw [e _ (by omega)] at this; exact this
  · intro c t h0 h1 h2 h3
    rw [ud_ne (by omega)] at h1
    rw [q_up_far (by omega), ud_ne (by omega)]; exact hr.2.1 c t h0 h1 h2 h3
  · intro i h0 h1
    rw [q_up_self, hx i h0 h1]
    by_cases e : i = s
    · subst e; rw [if_pos rfl, ud_self]
    · rw [if_neg e, ud_ne (by omega)]; exact hr.2.2 i h0 h1
theorem st_table (c s t b : Int) (hb : b = 0 ∨ b = 1) : Step 138 237 [(0, c), (0, s), (0, t), (0, b)] := by
  intro sh h hs ho hi
  obtain ⟨w, G, hw1, iw, ew, hG, hp, hr, wf, hh⟩ := hi.opn
  have wr := wf.1
  have u0 := wr.hour; have u1 := wr.nd; have u2 := wr.nc; have u3 := wr.na
  by_cases v1 : (0 ≤ c ∧ c < G 2) ∧ (0 ≤ s ∧ s ≤ 7) ∧ 0 ≤ t ∧ t ≤ 7
  · have wf1 := wf.set (i := 1098 + 8 * c + s) (v := t) (1098, 1162, 0, 7) (by decide) (by show (1098 : Int) ≤ _; omega) (by show _ < (1162 : Int); omega) (by show (0 : Int) ≤ _; omega) (by show _ ≤ (7 : Int); omega) (by omega)
    have hr1 := hr.set wr (v := t) (lo_tto (c := c) (k := s) (by omega) (by omega) (by omega) (by omega)) (a := w + 13 + 15 * c + 14) (by omega) (by omega)
    have key : ∀ x, (∀ y, 0 ≤ y → y < 8 → ib x y = if y = s then b else ib (h (w + 13 + 15 * c + 13) 1) y) → q_Cc 138 [(21, 0), (0, c), (0, s), (0, t), (0, b)] (sh, h) = some ((0, G (1098 + 8 * c + s)), (sh, q_up (q_up h (w + 13 + 15 * c + 14) s t) (w + 13 + 15 * c + 13) 1 x)) → ∃ v h1 h2, q_Cc 138 [(21, 0), (0, c), (0, s), (0, t), (0, b)] (sh, h) = some ((0, v), (sh, h1)) ∧ q_Cc 237 [(22, 469), (0, c), (0, s), (0, t), (0, b)] (sh, h1) = some ((0, v), (sh, h2)) ∧ Inv h2 ∧ ∀ k, k < 0 → h2 k = h k ∧ h1 k = h k := by
      intro x hx hc
      refine ⟨G (1098 + 8 * c + s), q_up (q_up h (w + 13 + 15 * c + 14) s t) (w + 13 + 15 * c + 13) 1 x, q_row (q_up (q_up h (w + 13 + 15 * c + 14) s t) (w + 13 + 15 * c + 13) 1 x) 470 (ud (ud G (1162 + 8 * c + s) b) (1098 + 8 * c + s) t), ?_, ?_, hi.world2 hw1 ?_ ?_ ?_ ?_ ?_, ?_⟩
      · exact hc
      · rcases hb with rfl | rfl <;> simp (disch := omega) only [q_470, q_up_far, q_row_row, q_row_self, q_row_ne, q_up_ne, q_up_eq, q_rowup, ud_eq, ud_ne, q_add_id, q_sub_id, q_mul_id, q_w_eq, q_rem_n, q_div_n, ↓reduceIte, leT, leF, ltT, ltF, eqT, eqF, true_or, or_true, false_or, or_false, true_and, and_true, false_and, and_false, or_self, and_self, Option.bind_some, hp.m0, hp.m6, hs.k470, hs.k474, hG, k_X12_in, c_X12_table, e_X12_table_0, e_X12_table_5, e_X12_table_12, e_X12_table_19, e_X12_table_22, e_X12_table_28, e_X12_table_53, e_X12_table_69, c_X12_isCraft, e_X12_isCraft_0, e_X12_isCraft_13, c_X12_isTableState, e_X12_isTableState_0, e_X12_isTableState_7, c_X12_becomes, e_X12_becomes_0]
      · exact (hp.up (VP_cr iw (by omega) (by omega) (by omega) (by omega) (by omega))).up (VP_cr iw (by omega) (by omega) (by omega) (by omega) (by omega))
      · intro k j hk _; simp (disch := omega) only [q_up_ne]
      · rw [ud_comm (by omega)]
        refine hr1.heard wf1.1 (by omega) (by rw [ud_ne (by omega)]; omega) (by omega) (by omega) ?_
        intro y y0 y1
        rw [hx y y0 y1, q_up_far (by omega)]
      · exact (wf.set (i := 1162 + 8 * c + s) (v := b) (1162, 1226, 0, 1) (by decide) (by show (1162 : Int) ≤ _; omega) (by show _ < (1226 : Int); omega) (by show (0 : Int) ≤ _; omega) (by show _ ≤ (1 : Int); omega) (by omega)).set (1098, 1162, 0, 7) (by decide) (by show (1098 : Int) ≤ _; omega) (by show _ < (1162 : Int); omega) (by show (0 : Int) ≤ _; omega) (by show _ ≤ (7 : Int); omega) (by rw [ud_ne (by omega)]; omega)
      · simp (disch := omega) only [ud_ne]; exact hh
      · intro k hk; constructor <;> simp (disch := omega) only [q_row_ne, q_up_far]
    rcases hb with rfl | rfl
    · refine key _ (fun y y0 y1 => ib_not (by omega) (by omega) y0 (by omega)) ?_
      simp (disch := omega) only [q_470, q_up_far, q_row_row, q_row_self, q_row_ne, q_up_ne, q_up_eq, q_rowup, ud_eq, ud_ne, q_add_id, q_sub_id, q_mul_id, q_w_eq, q_rem_n, q_div_n, ↓reduceIte, leT, leF, ltT, ltF, eqT, eqF, true_or, or_true, false_or, or_false, true_and, and_true, false_and, and_false, or_self, and_self, Option.bind_some, ew, hp.w4 iw, hp.w5 iw, hp.w6 iw, hp.w7 iw, hp.w8 iw, hp.dish iw, hp.craft iw, hp.ask iw, hp.t6, hs.rains iw, hs.dishes iw, hs.crafts iw, hs.asks iw, hs.k468, hr.hour wr, hr.nd wr, hr.nc wr, hr.na wr, hr.tto wr, hp.quiet iw, hp.next iw, hs.c14 iw, k_X11_outside, c_X11_table, e_X11_table_0, e_X11_table_5, e_X11_table_15, e_X11_table_25, e_X11_table_28, e_X11_table_34, e_X11_table_54, c_X11_noCraft, e_X11_noCraft_0, e_X11_noCraft_14, c_X8_setState, e_X8_setState_0, e_X8_setState_41]
    · refine key _ (fun y y0 y1 => ib_or (by omega) (by omega) y0 (by omega)) ?_
      simp (disch := omega) only [q_470, q_up_far, q_row_row, q_row_self, q_row_ne, q_up_ne, q_up_eq, q_rowup, ud_eq, ud_ne, q_add_id, q_sub_id, q_mul_id, q_w_eq, q_rem_n, q_div_n, ↓reduceIte, leT, leF, ltT, ltF, eqT, eqF, true_or, or_true, false_or, or_false, true_and, and_true, false_and, and_false, or_self, and_self, Option.bind_some, ew, hp.w4 iw, hp.w5 iw, hp.w6 iw, hp.w7 iw, hp.w8 iw, hp.dish iw, hp.craft iw, hp.ask iw, hp.t6, hs.rains iw, hs.dishes iw, hs.crafts iw, hs.asks iw, hs.k468, hr.hour wr, hr.nd wr, hr.nc wr, hr.na wr, hr.tto wr, hp.quiet iw, hp.next iw, hs.c14 iw, k_X11_outside, c_X11_table, e_X11_table_0, e_X11_table_5, e_X11_table_15, e_X11_table_25, e_X11_table_28, e_X11_table_34, e_X11_table_54, c_X11_noCraft, e_X11_noCraft_0, e_X11_noCraft_14, c_X8_setState, e_X8_setState_0, e_X8_setState_41]
  · by_cases a1 : 0 ≤ c ∧ c < G 2 <;> by_cases a2 : 0 ≤ s ∧ s ≤ 7 <;> by_cases a3 : 0 ≤ t ∧ t ≤ 7 <;> first | (exfalso; omega) | skip
    all_goals
      refine ⟨-1000001, (q_up h 468 0 (q_add (h 468 0) 1)), q_up (q_up h 468 0 (q_add (h 468 0) 1)) 474 0 (q_add (h 474 0) 1), ?_, ?_, hi.find 0 (by decide) (by decide), fun k hk => ⟨by rw [q_up_far (by omega), q_up_far (by omega)], by rw [q_up_far (by omega)]⟩⟩
      · simp (disch := omega) only [q_470, q_up_far, q_row_row, q_row_self, q_row_ne, q_up_ne, q_up_eq, q_rowup, ud_eq, ud_ne, q_add_id, q_sub_id, q_mul_id, q_w_eq, q_rem_n, q_div_n, ↓reduceIte, leT, leF, ltT, ltF, eqT, eqF, true_or, or_true, false_or, or_false, true_and, and_true, false_and, and_false, or_self, and_self, Option.bind_some, ew, hp.w4 iw, hp.w5 iw, hp.w6 iw, hp.w7 iw, hp.w8 iw, hp.dish iw, hp.craft iw, hp.ask iw, hp.t6, hs.rains iw, hs.dishes iw, hs.crafts iw, hs.asks iw, hs.k468, hr.hour wr, hr.nd wr, hr.nc wr, hr.na wr, k_X11_outside, k_f0 hp.t6 hs.k468, c_X11_table, e_X11_table_0, e_X11_table_5, e_X11_table_15, e_X11_table_25, e_X11_table_28, e_X11_table_34, e_X11_table_54, c_X11_noCraft, e_X11_noCraft_0, e_X11_noCraft_14]
      · simp (disch := omega) only [q_470, q_up_far, q_row_row, q_row_self, q_row_ne, q_up_ne, q_up_eq, q_rowup, ud_eq, ud_ne, q_add_id, q_sub_id, q_mul_id, q_w_eq, q_rem_n, q_div_n, ↓reduceIte, leT, leF, ltT, ltF, eqT, eqF, true_or, or_true, false_or, or_false, true_and, and_true, false_and, and_false, or_self, and_self, Option.bind_some, hp.m0, hp.m6, hs.k470, hs.k474, hG, k_X12_in, k_g0 (sh := sh) (h := (q_up h 468 0 (q_add (h 468 0) 1))) (by rw [q_up_far (by decide)]; exact hp.m6) hs.k474, c_X12_table, e_X12_table_0, e_X12_table_5, e_X12_table_12, e_X12_table_19, e_X12_table_22, e_X12_table_28, e_X12_table_53, e_X12_table_69, c_X12_isCraft, e_X12_isCraft_0, e_X12_isCraft_13, c_X12_isTableState, e_X12_isTableState_0, e_X12_isTableState_7]
/-- days till heard, from day k on, m days left to try -/
def dF (G : Int → Int) (c : Int) : Nat → Int → Int → Int
  | 0, _, _ => -1
  | m + 1, k, s => if G (1162 + 8 * c + s) = 1 then k else dF G c m (k + 1) (G (1098 + 8 * c + s))
theorem dF_b (G : Int → Int) (c : Int) : ∀ (m : Nat) (k s : Int), dF G c m k s = -1 ∨ (k ≤ dF G c m k s ∧ dF G c m k s < k + m) := by
  intro m
  induction m with
  | zero => intro k s; left; rfl
  | succ m ih =>
    intro k s
    unfold dF
    split
    · right; omega
    · have := ih (k + 1) (G (1098 + 8 * c + s)); omega
theorem l_days {sh : Int × (Int → Nat × Int)} {h : Int → Int → Int} {w c z : Int} {G : Int → Int} (hs : Sh sh) (hp : Ptr h) (iw : isW w) (hr : RelW h w G) (wr : WFR G) (c0 : 0 ≤ c) (c1 : c < G 2) : ∀ (m : Nat) (k s : Int), 0 ≤ k → k + m = 8 → 0 ≤ s → s < 8 → q_L 73 4 [(18, w + 13 + 15 * c + 13), (0, z), (0, s), (0, k)] [] (sh, h) = some ((0, dF G c m k s), (sh, h)) := by
  have u2 := wr.nc
  have w0 := iw.b
  have hb : ∀ s, 0 ≤ s → s < 8 → q_and (q_shr (h (w + 13 + 15 * c + 13) 1) s) 1 = G (1162 + 8 * c + s) := fun s a b => hr.2.1 c s c0 c1 a b
  intro m
  induction m with
  | zero =>
    intro k s k0 km s0 s1
    rw [e_X8_daysFrom_4]
    unfold dF
    simp (disch := omega) only [q_470, q_up_far, q_row_row, q_row_self, q_row_ne, q_up_ne, q_up_eq, q_rowup, ud_eq, ud_ne, q_add_id, q_sub_id, q_mul_id, q_w_eq, q_rem_n, q_div_n, ↓reduceIte, leT, leF, ltT, ltF, eqT, eqF, true_or, or_true, false_or, or_false, true_and, and_true, false_and, and_false, or_self, and_self, Option.bind_some, ]
  | succ m ih =>
    intro k s k0 km s0 s1
    have r1 := wr.tto (c := c) (p := s) (by omega) (by omega) (by omega) (by omega)
    have := ih (k + 1) (G (1098 + 8 * c + s)) (by omega) (by omega) (by omega) (by omega)
    rw [e_X8_daysFrom_4]
    unfold dF
    by_cases e : G (1162 + 8 * c + s) = 1 <;> simp (disch := omega) only [q_470, q_up_far, q_row_row, q_row_self, q_row_ne, q_up_ne, q_up_eq, q_rowup, ud_eq, ud_ne, q_add_id, q_sub_id, q_mul_id, q_w_eq, q_rem_n, q_div_n, ↓reduceIte, leT, leF, ltT, ltF, eqT, eqF, true_or, or_true, false_or, or_false, true_and, and_true, false_and, and_false, or_self, and_self, Option.bind_some, hb, this, hr.tto wr, hp.next iw, hs.c14 iw]
theorem k_days {sh : Int × (Int → Nat × Int)} {h : Int → Int → Int} {w c s : Int} {G : Int → Int} (hs : Sh sh) (hp : Ptr h) (iw : isW w) (hr : RelW h w G) (wr : WFR G) (c0 : 0 ≤ c) (c1 : c < G 2) (s0 : 0 ≤ s) (s1 : s < 8) : q_Cc 73 [(18, w + 13 + 15 * c + 13), (0, s)] (sh, h) = some ((0, dF G c 8 0 s), (sh, h)) := by
  rw [c_X8_daysFrom, e_X8_daysFrom_0]
  exact l_days hs hp iw hr wr c0 c1 8 0 s (by omega) (by omega) s0 s1
theorem r_daysL {sh : Int × (Int → Nat × Int)} {h : Int → Int → Int} {c z : Int} {G : Int → Int} (e0 : h 469 0 = 470) (l : (sh.2 470).2 = 1354) (hG : h 470 = G) (wr : WFR G) (c0 : 0 ≤ c) (c1 : c < 8) : ∀ (m : Nat) (k s : Int), 0 ≤ k → k + m = 8 → 0 ≤ s → s < 8 → q_L 238 5 [(22, 469), (0, c), (0, z), (0, s), (0, k)] [] (sh, h) = some ((0, dF G c m k s), (sh, h)) := by
  intro m
  induction m with
  | zero =>
    intro k s k0 km s0 s1
    rw [e_X12_daysOf_5]
    unfold dF
    simp (disch := omega) only [q_470, q_up_far, q_row_row, q_row_self, q_row_ne, q_up_ne, q_up_eq, q_rowup, ud_eq, ud_ne, q_add_id, q_sub_id, q_mul_id, q_w_eq, q_rem_n, q_div_n, ↓reduceIte, leT, leF, ltT, ltF, eqT, eqF, true_or, or_true, false_or, or_false, true_and, and_true, false_and, and_false, or_self, and_self, Option.bind_some, ]
  | succ m ih =>
    intro k s k0 km s0 s1
    have r1 := wr.tto (c := c) (p := s) (by omega) (by omega) (by omega) (by omega)
    have := ih (k + 1) (G (1098 + 8 * c + s)) (by omega) (by omega) (by omega) (by omega)
    rw [e_X12_daysOf_5]
    unfold dF
    by_cases e : G (1162 + 8 * c + s) = 1 <;> simp (disch := omega) only [q_470, q_up_far, q_row_row, q_row_self, q_row_ne, q_up_ne, q_up_eq, q_rowup, ud_eq, ud_ne, q_add_id, q_sub_id, q_mul_id, q_w_eq, q_rem_n, q_div_n, ↓reduceIte, leT, leF, ltT, ltF, eqT, eqF, true_or, or_true, false_or, or_false, true_and, and_true, false_and, and_false, or_self, and_self, Option.bind_some, this, e0, l, hG]
theorem r_days {sh : Int × (Int → Nat × Int)} {h : Int → Int → Int} {c s : Int} {G : Int → Int} (e0 : h 469 0 = 470) (l : (sh.2 470).2 = 1354) (hG : h 470 = G) (wr : WFR G) (c0 : 0 ≤ c) (c1 : c < 8) (s0 : 0 ≤ s) (s1 : s < 8) : q_Cc 238 [(22, 469), (0, c), (0, s)] (sh, h) = some ((0, dF G c 8 0 s), (sh, h)) := by
  rw [c_X12_daysOf, e_X12_daysOf_0]
  exact r_daysL e0 l hG wr c0 c1 8 0 s (by omega) (by omega) s0 s1
theorem st_silence (c s : Int) : Step 139 239 [(0, c), (0, s)] := by
  intro sh h hs ho hi
  obtain ⟨w, G, hw1, iw, ew, hG, hp, hr, wf, hh⟩ := hi.opn
  have wr := wf.1
  have u0 := wr.hour; have u1 := wr.nd; have u2 := wr.nc; have u3 := wr.na
  by_cases v1 : (0 ≤ c ∧ c < G 2) ∧ 0 ≤ s ∧ s ≤ 7
  · by_cases e : dF G c 8 0 s < 0
    · refine ⟨-1000004, (q_up h 468 3 (q_add (h 468 3) 1)), q_up (q_up h 468 3 (q_add (h 468 3) 1)) 474 3 (q_add (h 474 3) 1), ?_, ?_, hi.find 3 (by decide) (by decide), fun k hk => ⟨by rw [q_up_far (by omega), q_up_far (by omega)], by rw [q_up_far (by omega)]⟩⟩
      · simp (disch := omega) only [q_470, q_up_far, q_row_row, q_row_self, q_row_ne, q_up_ne, q_up_eq, q_rowup, ud_eq, ud_ne, q_add_id, q_sub_id, q_mul_id, q_w_eq, q_rem_n, q_div_n, ↓reduceIte, leT, leF, ltT, ltF, eqT, eqF, true_or, or_true, false_or, or_false, true_and, and_true, false_and, and_false, or_self, and_self, Option.bind_some, ew, hp.w4 iw, hp.w5 iw, hp.w6 iw, hp.w7 iw, hp.w8 iw, hp.dish iw, hp.craft iw, hp.ask iw, hp.t6, hs.rains iw, hs.dishes iw, hs.crafts iw, hs.asks iw, hs.k468, hr.hour wr, hr.nd wr, hr.nc wr, hr.na wr, k_X11_outside, k_f3 hp.t6 hs.k468, k_days hs hp iw hr wr, hp.quiet iw, c_X11_silence, e_X11_silence_0, e_X11_silence_5, e_X11_silence_15, e_X11_silence_18, e_X11_silence_24, e_X11_silence_41, e_X11_silence_52, e_X11_silence_56, c_X11_noCraft, e_X11_noCraft_0, e_X11_noCraft_14]
      · simp (disch := omega) only [q_470, q_up_far, q_row_row, q_row_self, q_row_ne, q_up_ne, q_up_eq, q_rowup, ud_eq, ud_ne, q_add_id, q_sub_id, q_mul_id, q_w_eq, q_rem_n, q_div_n, ↓reduceIte, leT, leF, ltT, ltF, eqT, eqF, true_or, or_true, false_or, or_false, true_and, and_true, false_and, and_false, or_self, and_self, Option.bind_some, hp.m0, hp.m6, hs.k470, hs.k474, hG, k_X12_in, k_g3 (sh := sh) (h := (q_up h 468 3 (q_add (h 468 3) 1))) (by rw [q_up_far (by decide)]; exact hp.m6) hs.k474, r_days (sh := sh) (h := q_up h 468 3 (q_add (h 468 3) 1)) (by rw [q_up_far (by decide)]; exact hp.m0) hs.k470 (by rw [q_up_far (by decide)]; exact hG) wr, c_X12_silence, e_X12_silence_0, e_X12_silence_5, e_X12_silence_12, e_X12_silence_15, e_X12_silence_21, e_X12_silence_28, e_X12_silence_39, e_X12_silence_43, c_X12_isCraft, e_X12_isCraft_0, e_X12_isCraft_13, c_X12_isTableState, e_X12_isTableState_0, e_X12_isTableState_7]
    · refine ⟨dF G c 8 0 s, h, h, ?_, ?_, hi, fun k hk => ⟨rfl, rfl⟩⟩
      · simp (disch := omega) only [q_470, q_up_far, q_row_row, q_row_self, q_row_ne, q_up_ne, q_up_eq, q_rowup, ud_eq, ud_ne, q_add_id, q_sub_id, q_mul_id, q_w_eq, q_rem_n, q_div_n, ↓reduceIte, leT, leF, ltT, ltF, eqT, eqF, true_or, or_true, false_or, or_false, true_and, and_true, false_and, and_false, or_self, and_self, Option.bind_some, ew, hp.w4 iw, hp.w5 iw, hp.w6 iw, hp.w7 iw, hp.w8 iw, hp.dish iw, hp.craft iw, hp.ask iw, hp.t6, hs.rains iw, hs.dishes iw, hs.crafts iw, hs.asks iw, hs.k468, hr.hour wr, hr.nd wr, hr.nc wr, hr.na wr, k_days hs hp iw hr wr, hp.quiet iw, k_X11_outside, c_X11_silence, e_X11_silence_0, e_X11_silence_5, e_X11_silence_15, e_X11_silence_18, e_X11_silence_24, e_X11_silence_41, e_X11_silence_52, e_X11_silence_56, c_X11_noCraft, e_X11_noCraft_0, e_X11_noCraft_14]
      · simp (disch := omega) only [q_470, q_up_far, q_row_row, q_row_self, q_row_ne, q_up_ne, q_up_eq, q_rowup, ud_eq, ud_ne, q_add_id, q_sub_id, q_mul_id, q_w_eq, q_rem_n, q_div_n, ↓reduceIte, leT, leF, ltT, ltF, eqT, eqF, true_or, or_true, false_or, or_false, true_and, and_true, false_and, and_false, or_self, and_self, Option.bind_some, hp.m0, hp.m6, hs.k470, hs.k474, hG, r_days hp.m0 hs.k470 hG wr, k_X12_in, c_X12_silence, e_X12_silence_0, e_X12_silence_5, e_X12_silence_12, e_X12_silence_15, e_X12_silence_21, e_X12_silence_28, e_X12_silence_39, e_X12_silence_43, c_X12_isCraft, e_X12_isCraft_0, e_X12_isCraft_13, c_X12_isTableState, e_X12_isTableState_0, e_X12_isTableState_7]
  · by_cases a1 : 0 ≤ c ∧ c < G 2 <;> by_cases a2 : 0 ≤ s ∧ s ≤ 7 <;> first | (exfalso; omega) | skip
    all_goals
      refine ⟨-1000001, (q_up h 468 0 (q_add (h 468 0) 1)), q_up (q_up h 468 0 (q_add (h 468 0) 1)) 474 0 (q_add (h 474 0) 1), ?_, ?_, hi.find 0 (by decide) (by decide), fun k hk => ⟨by rw [q_up_far (by omega), q_up_far (by omega)], by rw [q_up_far (by omega)]⟩⟩
      · simp (disch := omega) only [q_470, q_up_far, q_row_row, q_row_self, q_row_ne, q_up_ne, q_up_eq, q_rowup, ud_eq, ud_ne, q_add_id, q_sub_id, q_mul_id, q_w_eq, q_rem_n, q_div_n, ↓reduceIte, leT, leF, ltT, ltF, eqT, eqF, true_or, or_true, false_or, or_false, true_and, and_true, false_and, and_false, or_self, and_self, Option.bind_some, ew, hp.w4 iw, hp.w5 iw, hp.w6 iw, hp.w7 iw, hp.w8 iw, hp.dish iw, hp.craft iw, hp.ask iw, hp.t6, hs.rains iw, hs.dishes iw, hs.crafts iw, hs.asks iw, hs.k468, hr.hour wr, hr.nd wr, hr.nc wr, hr.na wr, k_X11_outside, k_f0 hp.t6 hs.k468, c_X11_silence, e_X11_silence_0, e_X11_silence_5, e_X11_silence_15, e_X11_silence_18, e_X11_silence_24, e_X11_silence_41, e_X11_silence_52, e_X11_silence_56, c_X11_noCraft, e_X11_noCraft_0, e_X11_noCraft_14]
      · simp (disch := omega) only [q_470, q_up_far, q_row_row, q_row_self, q_row_ne, q_up_ne, q_up_eq, q_rowup, ud_eq, ud_ne, q_add_id, q_sub_id, q_mul_id, q_w_eq, q_rem_n, q_div_n, ↓reduceIte, leT, leF, ltT, ltF, eqT, eqF, true_or, or_true, false_or, or_false, true_and, and_true, false_and, and_false, or_self, and_self, Option.bind_some, hp.m0, hp.m6, hs.k470, hs.k474, hG, k_X12_in, k_g0 (sh := sh) (h := (q_up h 468 0 (q_add (h 468 0) 1))) (by rw [q_up_far (by decide)]; exact hp.m6) hs.k474, c_X12_silence, e_X12_silence_0, e_X12_silence_5, e_X12_silence_12, e_X12_silence_15, e_X12_silence_21, e_X12_silence_28, e_X12_silence_39, e_X12_silence_43, c_X12_isCraft, e_X12_isCraft_0, e_X12_isCraft_13, c_X12_isTableState, e_X12_isTableState_0, e_X12_isTableState_7]
/-- the set of those never heard, those from k on -/
def eF (G : Int → Int) (c : Int) : Nat → Int → Int → Int
  | 0, _, x => x
  | m + 1, k, x => eF G c m (k + 1) (if dF G c 8 0 k < 0 then q_or x (q_shl 1 k) else x)
theorem q_or_zero {x : Int} (hx : q_i32 x) : q_or x 0 = x := by
  unfold q_or
  have e : Int32.ofInt 0 = 0 := rfl
  rw [e, Int32.or_zero]
  exact q_ti hx
theorem q_or_i32 (x y : Int) : q_i32 (q_or x y) := by
  unfold q_or q_i32
  exact ⟨Int32.le_toInt _, Int32.toInt_lt _⟩
theorem l_ever {sh : Int × (Int → Nat × Int)} {h : Int → Int → Int} {w c : Int} {G : Int → Int} (hs : Sh sh) (hp : Ptr h) (iw : isW w) (hr : RelW h w G) (wr : WFR G) (c0 : 0 ≤ c) (c1 : c < G 2) : ∀ (m : Nat) (k x : Int), 0 ≤ k → k + m = 8 → q_L 74 4 [(18, w + 13 + 15 * c + 13), (0, x), (0, k)] [] (sh, h) = some ((0, eF G c m k x), (sh, h)) := by
  intro m
  induction m with
  | zero =>
    intro k x k0 km
    rw [e_X8_neverHeard_4]
    unfold eF
    simp (disch := omega) only [q_470, q_up_far, q_row_row, q_row_self, q_row_ne, q_up_ne, q_up_eq, q_rowup, ud_eq, ud_ne, q_add_id, q_sub_id, q_mul_id, q_w_eq, q_rem_n, q_div_n, ↓reduceIte, leT, leF, ltT, ltF, eqT, eqF, true_or, or_true, false_or, or_false, true_and, and_true, false_and, and_false, or_self, and_self, Option.bind_some, ]
  | succ m ih =>
    intro k x k0 km
    rw [e_X8_neverHeard_4]
    unfold eF
    by_cases e : dF G c 8 0 k < 0 <;> simp (disch := omega) only [q_470, q_up_far, q_row_row, q_row_self, q_row_ne, q_up_ne, q_up_eq, q_rowup, ud_eq, ud_ne, q_add_id, q_sub_id, q_mul_id, q_w_eq, q_rem_n, q_div_n, ↓reduceIte, leT, leF, ltT, ltF, eqT, eqF, true_or, or_true, false_or, or_false, true_and, and_true, false_and, and_false, or_self, and_self, Option.bind_some, ih, k_days hs hp iw hr wr, e_X8_neverHeard_15, e_X8_neverHeard_24]
theorem r_everL {sh : Int × (Int → Nat × Int)} {h : Int → Int → Int} {c : Int} {G : Int → Int} (e0 : h 469 0 = 470) (l : (sh.2 470).2 = 1354) (hG : h 470 = G) (wr : WFR G) (c0 : 0 ≤ c) (c1 : c < 8) : ∀ (m : Nat) (k x : Int), 0 ≤ k → k + m = 8 → q_i32 x → q_L 240 19 [(22, 469), (0, c), (0, x), (0, k)] [] (sh, h) = some ((0, eF G c m k x), (sh, h)) := by
  intro m
  induction m with
  | zero =>
    intro k x k0 km hx
    rw [e_X12_ever_19]
    unfold eF
    simp (disch := omega) only [q_470, q_up_far, q_row_row, q_row_self, q_row_ne, q_up_ne, q_up_eq, q_rowup, ud_eq, ud_ne, q_add_id, q_sub_id, q_mul_id, q_w_eq, q_rem_n, q_div_n, ↓reduceIte, leT, leF, ltT, ltF, eqT, eqF, true_or, or_true, false_or, or_false, true_and, and_true, false_and, and_false, or_self, and_self, Option.bind_some, ]
  | succ m ih =>
    intro k x k0 km hx
    have i1 := ih (k + 1) x (by omega) (by omega) hx
    have i2 := ih (k + 1) (q_or x (q_shl 1 k)) (by omega) (by omega) (q_or_i32 _ _)
    rw [e_X12_ever_19]
    unfold eF
    by_cases e : dF G c 8 0 k < 0 <;> simp (disch := omega) only [q_470, q_up_far, q_row_row, q_row_self, q_row_ne, q_up_ne, q_up_eq, q_rowup, ud_eq, ud_ne, q_add_id, q_sub_id, q_mul_id, q_w_eq, q_rem_n, q_div_n, ↓reduceIte, leT, leF, ltT, ltF, eqT, eqF, true_or, or_true, false_or, or_false, true_and, and_true, false_and, and_false, or_self, and_self, Option.bind_some, i1, i2, r_days e0 l hG wr, e_X12_ever_32, e_X12_ever_42, q_or_zero hx]
theorem st_ever (c : Int) : Step 140 240 [(0, c)] := by
  intro sh h hs ho hi
  obtain ⟨w, G, hw1, iw, ew, hG, hp, hr, wf, hh⟩ := hi.opn
  have wr := wf.1
  have u0 := wr.hour; have u1 := wr.nd; have u2 := wr.nc; have u3 := wr.na
  by_cases v1 : 0 ≤ c ∧ c < G 2
  · have l1 := l_ever hs hp iw hr wr v1.1 v1.2 8 0 0 (by omega) (by omega)
    have l2 := r_everL hp.m0 hs.k470 hG wr v1.1 (by omega) 8 0 0 (by omega) (by omega) ⟨by decide, by decide⟩
    refine ⟨eF G c 8 0 0, h, h, ?_, ?_, hi, fun k hk => ⟨rfl, rfl⟩⟩
    · simp (disch := omega) only [q_470, q_up_far, q_row_row, q_row_self, q_row_ne, q_up_ne, q_up_eq, q_rowup, ud_eq, ud_ne, q_add_id, q_sub_id, q_mul_id, q_w_eq, q_rem_n, q_div_n, ↓reduceIte, leT, leF, ltT, ltF, eqT, eqF, true_or, or_true, false_or, or_false, true_and, and_true, false_and, and_false, or_self, and_self, Option.bind_some, ew, hp.w4 iw, hp.w5 iw, hp.w6 iw, hp.w7 iw, hp.w8 iw, hp.dish iw, hp.craft iw, hp.ask iw, hp.t6, hs.rains iw, hs.dishes iw, hs.crafts iw, hs.asks iw, hs.k468, hr.hour wr, hr.nd wr, hr.nc wr, hr.na wr, l1, hp.quiet iw, k_X11_outside, c_X11_ever, e_X11_ever_0, e_X11_ever_5, e_X11_ever_14, e_X11_ever_30, c_X11_noCraft, e_X11_noCraft_0, e_X11_noCraft_14, c_X8_neverHeard, e_X8_neverHeard_0]
    · simp (disch := omega) only [q_470, q_up_far, q_row_row, q_row_self, q_row_ne, q_up_ne, q_up_eq, q_rowup, ud_eq, ud_ne, q_add_id, q_sub_id, q_mul_id, q_w_eq, q_rem_n, q_div_n, ↓reduceIte, leT, leF, ltT, ltF, eqT, eqF, true_or, or_true, false_or, or_false, true_and, and_true, false_and, and_false, or_self, and_self, Option.bind_some, hp.m0, hp.m6, hs.k470, hs.k474, hG, l2, k_X12_in, c_X12_ever, e_X12_ever_0, e_X12_ever_5, e_X12_ever_14, c_X12_isCraft, e_X12_isCraft_0, e_X12_isCraft_13]
  · refine ⟨-1000001, (q_up h 468 0 (q_add (h 468 0) 1)), q_up (q_up h 468 0 (q_add (h 468 0) 1)) 474 0 (q_add (h 474 0) 1), ?_, ?_, hi.find 0 (by decide) (by decide), fun k hk => ⟨by rw [q_up_far (by omega), q_up_far (by omega)], by rw [q_up_far (by omega)]⟩⟩
    · simp (disch := omega) only [q_470, q_up_far, q_row_row, q_row_self, q_row_ne, q_up_ne, q_up_eq, q_rowup, ud_eq, ud_ne, q_add_id, q_sub_id, q_mul_id, q_w_eq, q_rem_n, q_div_n, ↓reduceIte, leT, leF, ltT, ltF, eqT, eqF, true_or, or_true, false_or, or_false, true_and, and_true, false_and, and_false, or_self, and_self, Option.bind_some, ew, hp.w4 iw, hp.w5 iw, hp.w6 iw, hp.w7 iw, hp.w8 iw, hp.dish iw, hp.craft iw, hp.ask iw, hp.t6, hs.rains iw, hs.dishes iw, hs.crafts iw, hs.asks iw, hs.k468, hr.hour wr, hr.nd wr, hr.nc wr, hr.na wr, k_X11_outside, k_f0 hp.t6 hs.k468, c_X11_ever, e_X11_ever_0, e_X11_ever_5, e_X11_ever_14, e_X11_ever_30, c_X11_noCraft, e_X11_noCraft_0, e_X11_noCraft_14]
    · simp (disch := omega) only [q_470, q_up_far, q_row_row, q_row_self, q_row_ne, q_up_ne, q_up_eq, q_rowup, ud_eq, ud_ne, q_add_id, q_sub_id, q_mul_id, q_w_eq, q_rem_n, q_div_n, ↓reduceIte, leT, leF, ltT, ltF, eqT, eqF, true_or, or_true, false_or, or_false, true_and, and_true, false_and, and_false, or_self, and_self, Option.bind_some, hp.m0, hp.m6, hs.k470, hs.k474, hG, k_X12_in, k_g0 (sh := sh) (h := (q_up h 468 0 (q_add (h 468 0) 1))) (by rw [q_up_far (by decide)]; exact hp.m6) hs.k474, c_X12_ever, e_X12_ever_0, e_X12_ever_5, e_X12_ever_14, c_X12_isCraft, e_X12_isCraft_0, e_X12_isCraft_13]
