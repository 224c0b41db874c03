/-! orders go out -/
/-- an order (by its place in O_WENT) goes out in this hour -/
abbrev goP (G : Int → Int) (y : Int) : Prop := G y < 0 ∧ (G (y - 480) = G 0 ∨ G (y - 384) = G 0)
/-- of craft c the first k orders -/
def goK (G : Int → Int) (c k : Int) : Int → Int := fun y => if 1002 + 12 * c ≤ y ∧ y < 1002 + 12 * c + k ∧ goP G y then G 0 else G y
theorem goK_zero (G : Int → Int) (c : Int) : goK G c 0 = G := by funext y; unfold goK; rw [if_neg (by omega)]
theorem goK_f {G : Int → Int} {c k y : Int} (h : y < 1002 + 12 * c ∨ 1002 + 12 * c + k ≤ y) : goK G c k y = G y := by unfold goK; rw [if_neg (by omega)]
theorem goK_succ {G : Int → Int} {c k : Int} (k0 : 0 ≤ k) : goK G c (k + 1) = if goP G (1002 + 12 * c + k) then ud (goK G c k) (1002 + 12 * c + k) (G 0) else goK G c k := by
  by_cases z : goP G (1002 + 12 * c + k)
  · rw [if_pos z]
    funext y
    by_cases e : y = 1002 + 12 * c + k
    · rw [ud_eq e, e]
      unfold goK
      rw [if_pos ⟨by omega, by omega, z⟩]
    · rw [ud_ne e]
      unfold goK
      by_cases q : 1002 + 12 * c ≤ y ∧ y < 1002 + 12 * c + k ∧ goP G y
      · rw [if_pos q, if_pos ⟨q.1, by omega, q.2.2⟩]
      · rw [if_neg q, if_neg (fun hq => q ⟨hq.1, by omega, hq.2.2⟩)]
  · rw [if_neg z]
    funext y
    unfold goK
    by_cases q : 1002 + 12 * c ≤ y ∧ y < 1002 + 12 * c + k ∧ goP G y
    · rw [if_pos q, if_pos ⟨q.1, by omega, q.2.2⟩]
    · rw [if_neg q, if_neg]
      intro hq
      by_cases e : y = 1002 + 12 * c + k
      · rw [e] at hq; exact z hq.2.2
      · exact q ⟨hq.1, by omega, hq.2.2⟩
theorem WFR.only {G G' : Int → Int} (wr : WFR G) (h : ∀ y, (y < 522 ∨ 1098 ≤ y) → G' y = G y) : WFR G' := by
  have key : ∀ r ∈ RT, r.2.1 ≤ 522 ∨ 1098 ≤ r.1 := by decide
  intro r hr j j0 j1
  have := key r hr
  rw [h j (by omega)]
  exact wr r hr j j0 j1
theorem k_goOut {sh : Int × (Int → Nat × Int)} {h h0 : Int → Int → Int} {w c : Int} {G : Int → Int} (hs : Sh sh) (iw : isW w) (wr : WFR G) (c0 : 0 ≤ c) (c1 : c < G 2) (cw : CW h0 h w G) : ∃ h', q_Cc 33 [(14, w + 13 + 15 * c + 6), (0, G 0)] (sh, h) = some ((9, 0), (sh, h')) ∧ CW h0 h' w (goK G c (G (148 + c))) := by
  have u2 := wr.nc
  have ro := wr.orders (d := c) c0 (by omega)
  have w0 := iw.b
  rw [c_X4_goOut, e_X4_goOut_0]
  refine lp (fun i (g : Int → Int → Int) => q_L 33 2 [(14, w + 13 + 15 * c + 6), (0, G 0), (0, i)] [] (sh, g)) (fun i g => CW h0 g w (goK G c i)) (fun r => ∃ h', r = some ((9, 0), (sh, h')) ∧ CW h0 h' w (goK G c (G (148 + c)))) (G (148 + c)) ?_ ?_ 0 h (by omega) ro.1 (by rw [goK_zero]; exact cw)
  · intro i g i0 i1 hI
    have wk : WFR (goK G c i) := wr.only (fun y hy => goK_f (by omega))
    have hr := hI.1
    have hp := hI.2.1
    have s2 : goK G c i 2 = G 2 := goK_f (by omega)
    have so : goK G c i (148 + c) = G (148 + c) := goK_f (by omega)
    have fo := hr.orders wk c c0 (by rw [s2]; exact c1)
    have fw := hr.owent wk c i c0 (by rw [s2]; exact c1) i0 (by rw [so]; exact i1)
    have fs := hr.osent wk c i c0 (by rw [s2]; exact c1) i0 (by rw [so]; exact i1)
    have fa := hr.oagain wk c i c0 (by rw [s2]; exact c1) i0 (by rw [so]; exact i1)
    rw [so] at fo
    rw [goK_f (by omega)] at fw fs fa
    have ss := goK_succ (G := G) (c := c) i0
    have e1 : 1002 + 12 * c + i - 480 = 522 + 12 * c + i := by omega
    have e2 : 1002 + 12 * c + i - 384 = 618 + 12 * c + i := by omega
    have gp : goP G (1002 + 12 * c + i) ↔ (G (1002 + 12 * c + i) < 0 ∧ (G (522 + 12 * c + i) = G 0 ∨ G (618 + 12 * c + i) = G 0)) := by
      show (G (1002 + 12 * c + i) < 0 ∧ (G (1002 + 12 * c + i - 480) = G 0 ∨ G (1002 + 12 * c + i - 384) = G 0)) ↔ _
      rw [e1, e2]
    left
    show ∃ y, q_L 33 2 [(14, w + 13 + 15 * c + 6), (0, G 0), (0, i)] [] (sh, g) = q_L 33 2 [(14, w + 13 + 15 * c + 6), (0, G 0), (0, i + 1)] [] (sh, y) ∧ CW h0 y w (goK G c (i + 1))
    by_cases z1 : G (1002 + 12 * c + i) < 0
    · by_cases z2 : G (522 + 12 * c + i) = G 0
      · rw [if_pos (gp.mpr ⟨z1, Or.inl z2⟩)] at ss
        rw [ss]
        refine ⟨q_up g (w + 13 + 15 * c + 10) i (G 0), ?_, hI.set wk iw (lo_owent c0 (by omega) i0 (by omega)) (by omega) (VP_cr iw c0 (by omega) (by omega) (by omega) (by omega)) (by omega)⟩
        rw [e_X4_goOut_2]
        simp (disch := omega) only [q_470, q_up_far, q_row_row, q_row_self, q_row_ne, q_up_ne, q_up_eq, q_rowup, ud_eq, ud_ne, q_add_id, q_sub_id, q_mul_id, q_w_eq, q_rem_n, q_div_n, ↓reduceIte, leT, leF, ltT, ltF, eqT, eqF, true_or, or_true, false_or, or_false, true_and, and_true, false_and, and_false, or_self, and_self, Option.bind_some, fo, fw, fs, fa, hp.ord1 iw, hp.ord2 iw, hp.ord4 iw, hs.c7 iw, hs.c8 iw, hs.c10 iw, e_X4_goOut_39, e_X4_goOut_46]
      · by_cases z3 : G (618 + 12 * c + i) = G 0
        · rw [if_pos (gp.mpr ⟨z1, Or.inr z3⟩)] at ss
          rw [ss]
          refine ⟨q_up g (w + 13 + 15 * c + 10) i (G 0), ?_, hI.set wk iw (lo_owent c0 (by omega) i0 (by omega)) (by omega) (VP_cr iw c0 (by omega) (by omega) (by omega) (by omega)) (by omega)⟩
          rw [e_X4_goOut_2]
          simp (disch := omega) only [q_470, q_up_far, q_row_row, q_row_self, q_row_ne, q_up_ne, q_up_eq, q_rowup, ud_eq, ud_ne, q_add_id, q_sub_id, q_mul_id, q_w_eq, q_rem_n, q_div_n, ↓reduceIte, leT, leF, ltT, ltF, eqT, eqF, true_or, or_true, false_or, or_false, true_and, and_true, false_and, and_false, or_self, and_self, Option.bind_some, fo, fw, fs, fa, hp.ord1 iw, hp.ord2 iw, hp.ord4 iw, hs.c7 iw, hs.c8 iw, hs.c10 iw, e_X4_goOut_39, e_X4_goOut_46]
        · rw [if_neg (fun hz => (gp.mp hz).2.elim z2 z3)] at ss
          rw [ss]
          refine ⟨g, ?_, hI⟩
          rw [e_X4_goOut_2]
          simp (disch := omega) only [q_470, q_up_far, q_row_row, q_row_self, q_row_ne, q_up_ne, q_up_eq, q_rowup, ud_eq, ud_ne, q_add_id, q_sub_id, q_mul_id, q_w_eq, q_rem_n, q_div_n, ↓reduceIte, leT, leF, ltT, ltF, eqT, eqF, true_or, or_true, false_or, or_false, true_and, and_true, false_and, and_false, or_self, and_self, Option.bind_some, fo, fw, fs, fa, hp.ord1 iw, hp.ord2 iw, hp.ord4 iw, hs.c7 iw, hs.c8 iw, hs.c10 iw, e_X4_goOut_39, e_X4_goOut_46]
    · rw [if_neg (fun hz => z1 (gp.mp hz).1)] at ss
      rw [ss]
      refine ⟨g, ?_, hI⟩
      rw [e_X4_goOut_2]
      simp (disch := omega) only [q_470, q_up_far, q_row_row, q_row_self, q_row_ne, q_up_ne, q_up_eq, q_rowup, ud_eq, ud_ne, q_add_id, q_sub_id, q_mul_id, q_w_eq, q_rem_n, q_div_n, ↓reduceIte, leT, leF, ltT, ltF, eqT, eqF, true_or, or_true, false_or, or_false, true_and, and_true, false_and, and_false, or_self, and_self, Option.bind_some, fo, fw, fs, fa, hp.ord1 iw, hp.ord2 iw, hp.ord4 iw, hs.c7 iw, hs.c8 iw, hs.c10 iw, e_X4_goOut_39, e_X4_goOut_46]
  · intro g hI
    have wk : WFR (goK G c (G (148 + c))) := wr.only (fun y hy => goK_f (by omega))
    have s2 : goK G c (G (148 + c)) 2 = G 2 := goK_f (by omega)
    have fo := hI.1.orders wk c c0 (by rw [s2]; exact c1)
    rw [goK_f (by omega)] at fo
    refine ⟨g, ?_, hI⟩
    show q_L 33 2 _ _ _ = _
    rw [e_X4_goOut_2]
    simp (disch := omega) only [q_470, q_up_far, q_row_row, q_row_self, q_row_ne, q_up_ne, q_up_eq, q_rowup, ud_eq, ud_ne, q_add_id, q_sub_id, q_mul_id, q_w_eq, q_rem_n, q_div_n, ↓reduceIte, leT, leF, ltT, ltF, eqT, eqF, true_or, or_true, false_or, or_false, true_and, and_true, false_and, and_false, or_self, and_self, Option.bind_some, fo]
/-- the orders of the crafts of a set, those whose places lie below p -/
def goQ (G : Int → Int) (M p : Int) : Int → Int := fun y => if (1002 ≤ y ∧ y < 1002 + p) ∧ ((y - 1002) / 12 < G 2 ∧ (y - 1002) % 12 < G (148 + (y - 1002) / 12)) ∧ ib M ((y - 1002) / 12) = 1 ∧ goP G y then G 0 else G y
def goM (G : Int → Int) (M : Int) : Int → Int := goQ G M 96
theorem goQ_f {G : Int → Int} {M p y : Int} (h : y < 1002 ∨ 1002 + p ≤ y) : goQ G M p y = G y := by unfold goQ; rw [if_neg (by omega)]
theorem goQ_zero (G : Int → Int) (M : Int) : goQ G M 0 = G := by funext y; exact goQ_f (by omega)
theorem goQ_succ {G : Int → Int} {M c k : Int} (c0 : 0 ≤ c) (c1 : c < G 2) (k0 : 0 ≤ k) (k1 : k < G (148 + c)) (k2 : k < 12) (hm : ib M c = 1) : goQ G M (12 * c + k + 1) = ud (goQ G M (12 * c + k)) (1002 + 12 * c + k) (if goP G (1002 + 12 * c + k) then G 0 else G (1002 + 12 * c + k)) := by
  funext y
  by_cases e : y = 1002 + 12 * c + k
  · rw [ud_eq e, e]
    unfold goQ
    rw [show (1002 + 12 * c + k - 1002) / 12 = c by omega, show (1002 + 12 * c + k - 1002) % 12 = k by omega]
    by_cases z : goP G (1002 + 12 * c + k)
    · rw [if_pos ⟨by omega, ⟨c1, k1⟩, hm, z⟩, if_pos z]
    · rw [if_neg (fun hz => z hz.2.2.2), if_neg z]
  · rw [ud_ne e]
    unfold goQ
    by_cases q : (1002 ≤ y ∧ y < 1002 + (12 * c + k)) ∧ ((y - 1002) / 12 < G 2 ∧ (y - 1002) % 12 < G (148 + (y - 1002) / 12)) ∧ ib M ((y - 1002) / 12) = 1 ∧ goP G y
    · rw [if_pos q, if_pos ⟨by omega, q.2⟩]
    · rw [if_neg q, if_neg (fun hq => q ⟨by omega, hq.2⟩)]
theorem goQ_skip {G : Int → Int} {M p p' : Int} (h : p ≤ p') (hs : ∀ y, 1002 + p ≤ y → y < 1002 + p' → ¬ (((y - 1002) / 12 < G 2 ∧ (y - 1002) % 12 < G (148 + (y - 1002) / 12)) ∧ ib M ((y - 1002) / 12) = 1)) : goQ G M p' = goQ G M p := by
  funext y
  unfold goQ
  by_cases q : (1002 ≤ y ∧ y < 1002 + p) ∧ ((y - 1002) / 12 < G 2 ∧ (y - 1002) % 12 < G (148 + (y - 1002) / 12)) ∧ ib M ((y - 1002) / 12) = 1 ∧ goP G y
  · rw [if_pos q, if_pos ⟨by omega, q.2⟩]
  · rw [if_neg q, if_neg]
    intro hq
    by_cases e : y < 1002 + p
    · exact q ⟨⟨hq.1.1, e⟩, hq.2⟩
    · exact hs y (by omega) hq.1.2 ⟨hq.2.1, hq.2.2.1⟩
/-- one craft more -/
theorem goM_or {G : Int → Int} {M c : Int} (wr : WFR G) (c0 : 0 ≤ c) (c1 : c < G 2) : goK (goM G M) c (G (148 + c)) = goM G (q_or M (q_shl 1 c)) := by
  have u0 := wr.hour
  have u2 := wr.nc
  have ro := wr.orders (d := c) c0 (by omega)
  funext y
  have g0 : goM G M 0 = G 0 := goQ_f (by omega)
  by_cases hy : 1002 ≤ y ∧ y < 1098
  · have s1 : goM G M (y - 480) = G (y - 480) := goQ_f (by omega)
    have s2 : goM G M (y - 384) = G (y - 384) := goQ_f (by omega)
    have gq : goP (goM G M) y ↔ (goM G M y < 0 ∧ (G (y - 480) = G 0 ∨ G (y - 384) = G 0)) := by
      show (goM G M y < 0 ∧ (goM G M (y - 480) = goM G M 0 ∨ goM G M (y - 384) = goM G M 0)) ↔ _
      rw [s1, s2, g0]
    have ibo := ib_or (x := M) (s := c) (t := (y - 1002) / 12) c0 (by omega) (by omega) (by omega)
    obtain ⟨e, ee⟩ : ∃ e, (y - 1002) / 12 = e := ⟨_, rfl⟩
    rw [ee] at ibo
    have eM : ∀ N, goM G N y = if (e < G 2 ∧ (y - 1002) % 12 < G (148 + e)) ∧ ib N e = 1 ∧ goP G y then G 0 else G y := by
      intro N
      unfold goM goQ
      rw [ee]
      by_cases q : (e < G 2 ∧ (y - 1002) % 12 < G (148 + e)) ∧ ib N e = 1 ∧ goP G y
      · rw [if_pos q, if_pos ⟨by omega, q⟩]
      · rw [if_neg q, if_neg (fun hq => q hq.2)]
    rw [eM (q_or M (q_shl 1 c)), ibo]
    have eM1 := eM M
    unfold goK
    by_cases ec : e = c
    · subst ec
      rw [if_pos rfl]
      by_cases q : (y - 1002) % 12 < G (148 + e)
      · by_cases p : goP G y
        · rw [if_pos (c := (e < G 2 ∧ (y - 1002) % 12 < G (148 + e)) ∧ (1 : Int) = 1 ∧ goP G y) ⟨⟨c1, q⟩, rfl, p⟩]
          by_cases m : ib M e = 1
          · rw [if_pos ⟨⟨c1, q⟩, m, p⟩] at eM1
            split
            · exact g0
            · exact eM1
          · rw [if_neg (fun hz => m hz.2.1)] at eM1
            rw [if_pos ⟨by omega, by omega, gq.mpr ⟨by rw [eM1]; exact p.1, p.2⟩⟩]
            exact g0
        · rw [if_neg (fun hz => p hz.2.2)] at eM1
          rw [if_neg (c := (e < G 2 ∧ (y - 1002) % 12 < G (148 + e)) ∧ (1 : Int) = 1 ∧ goP G y) (fun hz => p hz.2.2), if_neg (fun hz => p ⟨by have := (gq.mp hz.2.2).1; rw [eM1] at this; exact this, (gq.mp hz.2.2).2⟩)]
          exact eM1
      · rw [if_neg (fun hz => q hz.1.2)] at eM1
        rw [if_neg (c := (e < G 2 ∧ (y - 1002) % 12 < G (148 + e)) ∧ (1 : Int) = 1 ∧ goP G y) (fun hz => q hz.1.2), if_neg (by omega)]
        exact eM1
    · rw [if_neg ec, if_neg (by omega)]
      exact eM1
  · unfold goK
    rw [if_neg (by omega)]
    unfold goM
    rw [goQ_f (by omega), goQ_f (by omega)]
theorem r_ordersGo {sh : Int × (Int → Nat × Int)} {h : Int → Int → Int} {M : Int} {G : Int → Int} (e0 : h 469 0 = 470) (l : (sh.2 470).2 = 1354) (wr : WFR G) : q_Cc 222 [(22, 469), (0, M)] (sh, q_row h 470 G) = some ((9, 0), (sh, q_row h 470 (goM G M))) := by
  have u2 := wr.nc
  rw [c_X12_ordersGo, e_X12_ordersGo_0]
  have := lp (fun c (y : (q_V × q_V × q_V) × (Int → Int)) => q_L 222 2 [(22, 469), (0, M), (0, c), y.1.1, y.1.2.1, y.1.2.2] [] (sh, q_row h 470 y.2)) (fun c y => y.2 = goQ G M (12 * c)) (fun r => r = some ((9, 0), (sh, q_row h 470 (goM G M)))) (G 2) ?_ ?_ 0 (((9, 0), (9, 0), (9, 0)), G) (by omega) u2.1 (by show G = _; rw [show (12 : Int) * 0 = 0 by rfl, goQ_zero])
  · exact this
  · intro c y c0 c1 hI
    obtain ⟨⟨x3, x4, x5⟩, F⟩ := y
    have hI : F = goQ G M (12 * c) := hI
    subst hI
    have ro := wr.orders (d := c) c0 (by omega)
    have g2 : ∀ p, goQ G M p 2 = G 2 := fun p => goQ_f (by omega)
    have go : ∀ p, goQ G M p (148 + c) = G (148 + c) := fun p => goQ_f (by omega)
    left
    -- the orders of craft c
    have inner := lp (fun o (y : (q_V × q_V) × (Int → Int)) => q_L 222 14 [(22, 469), (0, M), (0, c), (0, o), y.1.1, y.1.2] [] (sh, q_row h 470 y.2)) (fun o y => y.2 = goQ G M (12 * c + o)) (fun r => ∃ (x3 x4 x5 : q_V) (F : Int → Int), r = q_L 222 2 [(22, 469), (0, M), (0, c + 1), x3, x4, x5] [] (sh, q_row h 470 F) ∧ F = goQ G M (12 * (c + 1))) (G (148 + c)) ?_ ?_ 0 ((x4, x5), goQ G M (12 * c)) (by omega) ro.1 (by show goQ G M (12 * c) = goQ G M (12 * c + 0); rw [Int.add_zero])
    · obtain ⟨x3', x4', x5', F', i1, i2⟩ := inner
      have i1 : q_L 222 14 [(22, 469), (0, M), (0, c), (0, 0), x4, x5] [] (sh, q_row h 470 (goQ G M (12 * c))) = q_L 222 2 [(22, 469), (0, M), (0, c + 1), x3', x4', x5'] [] (sh, q_row h 470 F') := i1
      refine ⟨((x3', x4', x5'), F'), ?_, i2⟩
      show q_L 222 2 [(22, 469), (0, M), (0, c), x3, x4, x5] [] (sh, q_row h 470 (goQ G M (12 * c))) = q_L 222 2 [(22, 469), (0, M), (0, c + 1), x3', x4', x5'] [] (sh, q_row h 470 F')
      rw [e_X12_ordersGo_2, ← i1]
      simp (disch := omega) only [q_470, q_up_far, q_row_row, q_row_self, q_row_ne, q_up_ne, q_up_eq, q_rowup, ud_eq, ud_ne, q_add_id, q_sub_id, q_mul_id, q_w_eq, q_rem_n, q_div_n, ↓reduceIte, leT, leF, ltT, ltF, eqT, eqF, true_or, or_true, false_or, or_false, true_and, and_true, false_and, and_false, or_self, and_self, Option.bind_some, e0, l, g2]
    · intro o y o0 o1 hI
      obtain ⟨⟨x4, x5⟩, F⟩ := y
      have hI : F = goQ G M (12 * c + o) := hI
      subst hI
      have a1 : ∀ n, n + (12 * c + o) = n + 12 * c + o := fun n => by omega
      have g0 : ∀ p, goQ G M p 0 = G 0 := fun p => goQ_f (by omega)
      have gs : goQ G M (12 * c + o) (522 + 12 * c + o) = G (522 + 12 * c + o) := goQ_f (by omega)
      have ga : goQ G M (12 * c + o) (618 + 12 * c + o) = G (618 + 12 * c + o) := goQ_f (by omega)
      have gw : goQ G M (12 * c + o) (1002 + 12 * c + o) = G (1002 + 12 * c + o) := goQ_f (by omega)
      have e1 : 1002 + 12 * c + o - 480 = 522 + 12 * c + o := by omega
      have e2 : 1002 + 12 * c + o - 384 = 618 + 12 * c + o := by omega
      have gp : goP G (1002 + 12 * c + o) ↔ (G (1002 + 12 * c + o) < 0 ∧ (G (522 + 12 * c + o) = G 0 ∨ G (618 + 12 * c + o) = G 0)) := by
        show (G (1002 + 12 * c + o) < 0 ∧ (G (1002 + 12 * c + o - 480) = G 0 ∨ G (1002 + 12 * c + o - 384) = G 0)) ↔ _
        rw [e1, e2]
      by_cases m : ib M c = 1
      · left
        have m' : q_and (q_shr M c) 1 = 1 := m
        have ss := goQ_succ (G := G) (M := M) (c := c) (k := o) c0 c1 o0 o1 (by omega) m
        rw [Int.add_assoc (12 * c)] at ss
        by_cases z2 : G (522 + 12 * c + o) = G 0
        · by_cases z1 : G (1002 + 12 * c + o) < 0
          · rw [if_pos (gp.mpr ⟨z1, Or.inl z2⟩)] at ss
            refine ⟨(((0, 12 * c + o), (0, 1)), goQ G M (12 * c + (o + 1))), ?_, rfl⟩
            rw [ss, e_X12_ordersGo_14]
            simp (disch := omega) only [q_470, q_up_far, q_row_row, q_row_self, q_row_ne, q_up_ne, q_up_eq, q_rowup, ud_eq, ud_ne, q_add_id, q_sub_id, q_mul_id, q_w_eq, q_rem_n, q_div_n, ↓reduceIte, leT, leF, ltT, ltF, eqT, eqF, true_or, or_true, false_or, or_false, true_and, and_true, false_and, and_false, or_self, and_self, Option.bind_some, e0, l, go, m', g0, gs, ga, gw, a1, e_X12_ordersGo_85, e_X12_ordersGo_90, e_X12_ordersGo_130, e_X12_ordersGo_141]
          · rw [if_neg (fun hz => z1 (gp.mp hz).1)] at ss
            refine ⟨(((0, 12 * c + o), (0, 1)), goQ G M (12 * c + (o + 1))), ?_, rfl⟩
            rw [ss, e_X12_ordersGo_14]
            simp (disch := omega) only [q_470, q_up_far, q_row_row, q_row_self, q_row_ne, q_up_ne, q_up_eq, q_rowup, ud_eq, ud_ne, q_add_id, q_sub_id, q_mul_id, q_w_eq, q_rem_n, q_div_n, ↓reduceIte, leT, leF, ltT, ltF, eqT, eqF, true_or, or_true, false_or, or_false, true_and, and_true, false_and, and_false, or_self, and_self, Option.bind_some, e0, l, go, m', g0, gs, ga, gw, a1, e_X12_ordersGo_85, e_X12_ordersGo_90, e_X12_ordersGo_130, e_X12_ordersGo_141]
        · by_cases z3 : G (618 + 12 * c + o) = G 0
          · by_cases z1 : G (1002 + 12 * c + o) < 0
            · rw [if_pos (gp.mpr ⟨z1, Or.inr z3⟩)] at ss
              refine ⟨(((0, 12 * c + o), (0, 1)), goQ G M (12 * c + (o + 1))), ?_, rfl⟩
              rw [ss, e_X12_ordersGo_14]
              simp (disch := omega) only [q_470, q_up_far, q_row_row, q_row_self, q_row_ne, q_up_ne, q_up_eq, q_rowup, ud_eq, ud_ne, q_add_id, q_sub_id, q_mul_id, q_w_eq, q_rem_n, q_div_n, ↓reduceIte, leT, leF, ltT, ltF, eqT, eqF, true_or, or_true, false_or, or_false, true_and, and_true, false_and, and_false, or_self, and_self, Option.bind_some, e0, l, go, m', g0, gs, ga, gw, a1, e_X12_ordersGo_85, e_X12_ordersGo_90, e_X12_ordersGo_130, e_X12_ordersGo_141]
            · rw [if_neg (fun hz => z1 (gp.mp hz).1)] at ss
              refine ⟨(((0, 12 * c + o), (0, 1)), goQ G M (12 * c + (o + 1))), ?_, rfl⟩
              rw [ss, e_X12_ordersGo_14]
              simp (disch := omega) only [q_470, q_up_far, q_row_row, q_row_self, q_row_ne, q_up_ne, q_up_eq, q_rowup, ud_eq, ud_ne, q_add_id, q_sub_id, q_mul_id, q_w_eq, q_rem_n, q_div_n, ↓reduceIte, leT, leF, ltT, ltF, eqT, eqF, true_or, or_true, false_or, or_false, true_and, and_true, false_and, and_false, or_self, and_self, Option.bind_some, e0, l, go, m', g0, gs, ga, gw, a1, e_X12_ordersGo_85, e_X12_ordersGo_90, e_X12_ordersGo_130, e_X12_ordersGo_141]
          · rw [if_neg (fun hz => (gp.mp hz).2.elim z2 z3)] at ss
            refine ⟨(((0, 12 * c + o), (0, 0)), goQ G M (12 * c + (o + 1))), ?_, rfl⟩
            rw [ss, e_X12_ordersGo_14]
            simp (disch := omega) only [q_470, q_up_far, q_row_row, q_row_self, q_row_ne, q_up_ne, q_up_eq, q_rowup, ud_eq, ud_ne, q_add_id, q_sub_id, q_mul_id, q_w_eq, q_rem_n, q_div_n, ↓reduceIte, leT, leF, ltT, ltF, eqT, eqF, true_or, or_true, false_or, or_false, true_and, and_true, false_and, and_false, or_self, and_self, Option.bind_some, e0, l, go, m', g0, gs, ga, gw, a1, e_X12_ordersGo_85, e_X12_ordersGo_90, e_X12_ordersGo_130, e_X12_ordersGo_141]
      · right
        have m' : ¬ q_and (q_shr M c) 1 = 1 := m
        refine ⟨(0, o), x4, x5, goQ G M (12 * c + o), ?_, ?_⟩
        · show q_L 222 14 _ _ _ = _
          rw [e_X12_ordersGo_14]
          simp (disch := omega) only [q_470, q_up_far, q_row_row, q_row_self, q_row_ne, q_up_ne, q_up_eq, q_rowup, ud_eq, ud_ne, q_add_id, q_sub_id, q_mul_id, q_w_eq, q_rem_n, q_div_n, ↓reduceIte, leT, leF, ltT, ltF, eqT, eqF, true_or, or_true, false_or, or_false, true_and, and_true, false_and, and_false, or_self, and_self, Option.bind_some, e0, l, go, e_X12_ordersGo_148]
        · rw [goQ_skip (p := 12 * c + o) (p' := 12 * (c + 1)) (by omega)]
          intro y y0 y1 hz
          have : (y - 1002) / 12 = c := by omega
          rw [this] at hz
          exact m hz.2
    · intro y hI
      obtain ⟨⟨x4, x5⟩, F⟩ := y
      have hI : F = goQ G M (12 * c + G (148 + c)) := hI
      subst hI
      refine ⟨(0, G (148 + c)), x4, x5, goQ G M (12 * c + G (148 + c)), ?_, ?_⟩
      · show q_L 222 14 _ _ _ = _
        rw [e_X12_ordersGo_14]
        simp (disch := omega) only [q_470, q_up_far, q_row_row, q_row_self, q_row_ne, q_up_ne, q_up_eq, q_rowup, ud_eq, ud_ne, q_add_id, q_sub_id, q_mul_id, q_w_eq, q_rem_n, q_div_n, ↓reduceIte, leT, leF, ltT, ltF, eqT, eqF, true_or, or_true, false_or, or_false, true_and, and_true, false_and, and_false, or_self, and_self, Option.bind_some, e0, l, go, e_X12_ordersGo_148]
      · rw [goQ_skip (p := 12 * c + G (148 + c)) (p' := 12 * (c + 1)) (by omega)]
        intro y y0 y1 hz
        have : (y - 1002) / 12 = c := by omega
        rw [this] at hz
        omega
  · intro y hI
    obtain ⟨⟨x3, x4, x5⟩, F⟩ := y
    have hI : F = goQ G M (12 * G 2) := hI
    have g2 : goQ G M (12 * G 2) 2 = G 2 := goQ_f (by omega)
    have e : goM G M = goQ G M (12 * G 2) := goQ_skip (by omega) (fun y y0 y1 hz => by omega)
    show q_L 222 2 [(22, 469), (0, M), (0, G 2), x3, x4, x5] [] (sh, q_row h 470 F) = _
    rw [hI, e, e_X12_ordersGo_2]
    simp (disch := omega) only [q_470, q_up_far, q_row_row, q_row_self, q_row_ne, q_up_ne, q_up_eq, q_rowup, ud_eq, ud_ne, q_add_id, q_sub_id, q_mul_id, q_w_eq, q_rem_n, q_div_n, ↓reduceIte, leT, leF, ltT, ltF, eqT, eqF, true_or, or_true, false_or, or_false, true_and, and_true, false_and, and_false, or_self, and_self, Option.bind_some, e0, l, g2]
