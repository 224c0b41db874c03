/-! what bars what -/
def PA (lo hi : Int) : Int → Int := fun i => if i = 0 then lo else hi
theorem LK_two {G : Int → Int} {lo hi : Int} (l0 : 0 ≤ lo) (lh : lo < hi) (h3 : hi < G 3) (e1 : G (480 + lo) = 0) (e2 : G (480 + hi) = 0) : LK G 2 (PA lo hi) := by
  refine ⟨by decide, by decide, fun i i0 i1 => ?_, fun i j i0 i1 i2 => ?_⟩
  · unfold PA
    by_cases e : i = 0
    · rw [if_pos e]; exact ⟨l0, by omega, e1⟩
    · rw [if_neg e]; exact ⟨by omega, h3, e2⟩
  · unfold PA
    rw [if_pos (by omega), if_neg (by omega)]
    exact lh
theorem LK_one {G : Int → Int} {a : Int} (a0 : 0 ≤ a) (a1 : a < G 3) (e : G (480 + a) = 0) : LK G 1 (fun _ => a) :=
  ⟨by decide, by decide, fun i _ _ => ⟨a0, a1, e⟩, fun i j i0 i1 i2 => by omega⟩
theorem LC.one {G : Int → Int} {h : Int → Int → Int} {a : Int} : LC (q_up (q_up (q_up (q_up h 442 0 0) 443 0 a) 444 0 (weightF G a (G (466 + a)))) 442 0 1) 1 (fun _ => a) (wtW G (fun _ => a)) := by
  refine ⟨q_up_self _ _ _ _, fun i i0 i1 => ?_⟩
  have e : i = 0 := by omega
  subst e
  exact ⟨by rw [q_up_ne (by decide), q_up_ne (by decide), q_up_self], by rw [q_up_ne (by decide), q_up_self]; rfl⟩
theorem k_pairOne {sh : Int × (Int → Nat × Int)} {h : Int → Int → Int} {w a : Int} {G : Int → Int} (hs : Sh sh) (iw : isW w) (wf : WF G) (hp : Ptr h) (hr : RelW h w G) (a0 : 0 ≤ a) (a1 : a < G 3) (ea : G (480 + a) = 0) : ∃ h', q_Cc 38 [(15, 442), (20, w), (0, a), (0, -1)] (sh, h) = some ((9, 0), (sh, h')) ∧ FP h h' ∧ q_Cc 50 [(15, 442), (0, a)] (sh, h') = some ((0, (plB G 1 (fun _ => a) (wtW G (fun _ => a))).2.2.1 0), (sh, h')) := by
  have wr := wf.1
  have lk := LK_one a0 a1 ea
  have f0 : FP h (q_up h 442 0 0) := fun x y hn => by rw [q_up_ne (by omega)]
  have k1 := k_lookAt (sh := sh) (n := 0) hs iw wf (f0.ptr hp) (f0.rel iw wr hr) (q_up_self _ _ _ _) (by decide) (by decide) a0 a1
  have f1 := f0.trans (FP.look (h := q_up h 442 0 0) (m := 0) (a := a) (v := weightF G a (G (466 + a))) (u := 0 + 1))
  have l1 : LC (q_up (q_up (q_up (q_up h 442 0 0) 443 0 a) 444 0 (weightF G a (G (466 + a)))) 442 0 (0 + 1)) 1 (fun _ => a) (wtW G (fun _ => a)) := LC.one
  obtain ⟨g, eg⟩ : ∃ g, q_up (q_up (q_up (q_up h 442 0 0) 443 0 a) 444 0 (weightF G a (G (466 + a)))) 442 0 (0 + 1) = g := ⟨_, rfl⟩
  rw [eg] at k1 f1 l1
  obtain ⟨h', q2, f2, l2, b2⟩ := k_solve (sh := sh) hs iw wf lk (wtW_b wr lk) (f1.ptr hp) (f1.rel iw wr hr) l1
  have po : PO 1 (fun _ => a) a 0 := Or.inl ⟨by decide, by decide, rfl, fun x x0 x1 _ => by omega⟩
  have kd := k_dishOf (sh := sh) hs ((f1.trans f2).ptr hp) (by decide) (by decide) l2 b2 po
  rw [if_neg (by decide)] at kd
  refine ⟨h', ?_, f1.trans f2, kd⟩
  simp (disch := omega) only [q_470, q_up_far, q_row_row, q_row_self, q_row_ne, q_up_ne, q_up_eq, q_rowup, ud_eq, ud_ne, q_add_id, q_sub_id, q_mul_id, q_w_eq, q_rem_n, q_div_n, ↓reduceIte, leT, leF, ltT, ltF, eqT, eqF, true_or, or_true, false_or, or_false, true_and, and_true, false_and, and_false, or_self, and_self, Option.bind_some, k1, q2, c_X5_planPair, e_X5_planPair_0, e_X5_planPair_11, e_X5_planPair_21, e_X5_planPair_26]
theorem k_pairTwo {sh : Int × (Int → Nat × Int)} {h : Int → Int → Int} {w lo hi : Int} {G : Int → Int} (hs : Sh sh) (iw : isW w) (wf : WF G) (hp : Ptr h) (hr : RelW h w G) (l0 : 0 ≤ lo) (lh : lo < hi) (h3 : hi < G 3) (e1 : G (480 + lo) = 0) (e2 : G (480 + hi) = 0) : ∃ h', q_Cc 38 [(15, 442), (20, w), (0, lo), (0, hi)] (sh, h) = some ((9, 0), (sh, h')) ∧ FP h h' ∧ q_Cc 50 [(15, 442), (0, lo)] (sh, h') = some ((0, (plB G 2 (PA lo hi) (wtW G (PA lo hi))).2.2.1 0), (sh, h')) ∧ q_Cc 50 [(15, 442), (0, hi)] (sh, h') = some ((0, (plB G 2 (PA lo hi) (wtW G (PA lo hi))).2.2.1 1), (sh, h')) := by
  have wr := wf.1
  have lk := LK_two l0 lh h3 e1 e2
  have f0 : FP h (q_up h 442 0 0) := fun x y hn => by rw [q_up_ne (by omega)]
  have k1 := k_lookAt (sh := sh) (n := 0) hs iw wf (f0.ptr hp) (f0.rel iw wr hr) (q_up_self _ _ _ _) (by decide) (by decide) l0 (by omega)
  have f1 := f0.trans (FP.look (h := q_up h 442 0 0) (m := 0) (a := lo) (v := weightF G lo (G (466 + lo))) (u := 0 + 1))
  have l1 : LC (q_up (q_up (q_up (q_up h 442 0 0) 443 0 lo) 444 0 (weightF G lo (G (466 + lo)))) 442 0 (0 + 1)) 1 (fun _ => lo) (wtW G (fun _ => lo)) := LC.one
  obtain ⟨g, eg⟩ : ∃ g, q_up (q_up (q_up (q_up h 442 0 0) 443 0 lo) 444 0 (weightF G lo (G (466 + lo)))) 442 0 (0 + 1) = g := ⟨_, rfl⟩
  rw [eg] at k1 f1 l1
  have k2 := k_lookAt (sh := sh) (n := 1) hs iw wf (f1.ptr hp) (f1.rel iw wr hr) l1.1 (by decide) (by decide) (show 0 ≤ hi by omega) h3
  have f2 := f1.trans (FP.look (h := g) (m := 1) (a := hi) (v := weightF G hi (G (466 + hi))) (u := 1 + 1))
  have l2 := LC.add (G := h) (g := G) (a := hi) (v := weightF G hi (G (466 + hi))) l1 (by decide)
  obtain ⟨g2, eg2⟩ : ∃ g2, q_up (q_up (q_up g 443 1 hi) 444 1 (weightF G hi (G (466 + hi)))) 442 0 (1 + 1) = g2 := ⟨_, rfl⟩
  rw [eg2] at k2 f2 l2
  have l3 : LC g2 2 (PA lo hi) (wtW G (PA lo hi)) := by
    refine ⟨l2.1, fun i i0 i1 => ?_⟩
    obtain ⟨z1, z2⟩ := l2.2 i i0 i1
    have : i = 0 ∨ i = 1 := by omega
    rcases this with e | e
    · subst e; exact ⟨z1, z2⟩
    · subst e; exact ⟨z1, z2⟩
  obtain ⟨h', q2, f3, l4, b4⟩ := k_solve (sh := sh) hs iw wf lk (wtW_b wr lk) (f2.ptr hp) (f2.rel iw wr hr) l3
  have po1 : PO 2 (PA lo hi) lo 0 := Or.inl ⟨by decide, by decide, rfl, fun x x0 x1 e => by
    unfold PA at e
    by_cases z : x = 0
    · exact z
    · rw [if_neg z] at e; omega⟩
  have po2 : PO 2 (PA lo hi) hi 1 := Or.inl ⟨by decide, by decide, rfl, fun x x0 x1 e => by
    unfold PA at e
    by_cases z : x = 0
    · rw [if_pos z] at e; omega
    · omega⟩
  have kd1 := k_dishOf (sh := sh) hs ((f2.trans f3).ptr hp) (by decide) (by decide) l4 b4 po1
  have kd2 := k_dishOf (sh := sh) hs ((f2.trans f3).ptr hp) (by decide) (by decide) l4 b4 po2
  rw [if_neg (by decide)] at kd1 kd2
  refine ⟨h', ?_, f2.trans f3, kd1, kd2⟩
  simp (disch := omega) only [q_470, q_up_far, q_row_row, q_row_self, q_row_ne, q_up_ne, q_up_eq, q_rowup, ud_eq, ud_ne, q_add_id, q_sub_id, q_mul_id, q_w_eq, q_rem_n, q_div_n, ↓reduceIte, leT, leF, ltT, ltF, eqT, eqF, true_or, or_true, false_or, or_false, true_and, and_true, false_and, and_false, or_self, and_self, Option.bind_some, k1, k2, q2, c_X5_planPair, e_X5_planPair_0, e_X5_planPair_11, e_X5_planPair_21, e_X5_planPair_26]
theorem r_isAlone {sh : Int × (Int → Nat × Int)} {h : Int → Int → Int} {a : Int} {G : Int → Int} (hs : Sh sh) (wf : WF G) (hp : Ptr h) (hG : h 470 = G) (a0 : 0 ≤ a) (a1 : a < G 3) (ea : G (480 + a) = 0) : ∃ h', q_Cc 216 [(22, 469), (0, a)] (sh, h) = some ((0, if (plB G 1 (fun _ => a) (wtW G (fun _ => a))).2.2.1 0 < 0 then 0 else 1), (sh, h')) ∧ FQ h h' := by
  have lk := LK_one a0 a1 ea
  obtain ⟨g, eg⟩ : ∃ g, q_up (q_up h 469 18 1) 481 0 a = g := ⟨_, rfl⟩
  have f1 : FQ h g := fun x y hn => by rw [← eg, q_up_ne (by omega), q_up_ne (by omega)]
  have p1 : PR g G 1 (fun _ => a) := by
    refine ⟨f1.ptr hp, by rw [← hG]; funext y; exact f1 470 y (by omega), ?_, fun i i0 i1 => ?_⟩
    · rw [← eg, q_up_ne (by decide), q_up_self]
    · have e : i = 0 := by omega
      rw [e, ← eg, q_up_self]
  obtain ⟨h', q2, f2, b2⟩ := r_plans (sh := sh) hs wf lk p1
  have hp' := f2.ptr p1.1
  have bo := (b2.2.2 0 (by decide) (by decide)).1
  refine ⟨h', ?_, f1.trans f2.fq⟩
  by_cases z : (plB G 1 (fun _ => a) (wtW G (fun _ => a))).2.2.1 0 < 0
  · simp (disch := omega) only [q_470, q_up_far, q_row_row, q_row_self, q_row_ne, q_up_ne, q_up_eq, q_rowup, ud_eq, ud_ne, q_add_id, q_sub_id, q_mul_id, q_w_eq, q_rem_n, q_div_n, ↓reduceIte, leT, leF, ltT, ltF, eqT, eqF, true_or, or_true, false_or, or_false, true_and, and_true, false_and, and_false, or_self, and_self, Option.bind_some, hp.m19, hs.k481, eg, q2, bo, hp'.m22, hs.k484, c_X12_isAlone, e_X12_isAlone_0, e_X12_isAlone_16, e_X12_isAlone_30]
  · simp (disch := omega) only [q_470, q_up_far, q_row_row, q_row_self, q_row_ne, q_up_ne, q_up_eq, q_rowup, ud_eq, ud_ne, q_add_id, q_sub_id, q_mul_id, q_w_eq, q_rem_n, q_div_n, ↓reduceIte, leT, leF, ltT, ltF, eqT, eqF, true_or, or_true, false_or, or_false, true_and, and_true, false_and, and_false, or_self, and_self, Option.bind_some, hp.m19, hs.k481, eg, q2, bo, hp'.m22, hs.k484, c_X12_isAlone, e_X12_isAlone_0, e_X12_isAlone_16, e_X12_isAlone_30]
theorem r_pair {sh : Int × (Int → Nat × Int)} {h : Int → Int → Int} {a b x : Int} {G : Int → Int} (lo hi : Int) (hs : Sh sh) (wf : WF G) (hp : Ptr h) (hG : h 470 = G) (l0 : 0 ≤ lo) (lh : lo < hi) (h3 : hi < G 3) (e1 : G (480 + lo) = 0) (e2 : G (480 + hi) = 0) (hab : (a = lo ∧ b = hi) ∨ (a = hi ∧ b = lo)) : ∃ h', q_L 217 82 [(22, 469), (0, a), (0, b), (9, 0)] [(0, x)] (sh, h) = some ((0, if x = 0 then 0 else if 0 ≤ (plB G 2 (PA lo hi) (wtW G (PA lo hi))).2.2.1 0 ∧ 0 ≤ (plB G 2 (PA lo hi) (wtW G (PA lo hi))).2.2.1 1 then 0 else 1), (sh, h')) ∧ FQ h h' := by
  have lk := LK_two l0 lh h3 e1 e2
  obtain ⟨g, eg⟩ : ∃ g, q_up (q_up (q_up h 469 18 2) 481 0 lo) 481 1 hi = g := ⟨_, rfl⟩
  have f1 : FQ h g := fun x y hn => by rw [← eg, q_up_ne (by omega), q_up_ne (by omega), q_up_ne (by omega)]
  have p1 : PR g G 2 (PA lo hi) := by
    refine ⟨f1.ptr hp, by rw [← hG]; funext y; exact f1 470 y (by omega), ?_, fun i i0 i1 => ?_⟩
    · rw [← eg, q_up_ne (by decide), q_up_ne (by decide), q_up_self]
    · have : i = 0 ∨ i = 1 := by omega
      rcases this with e | e
      · rw [e, ← eg, q_up_ne (by decide), q_up_self]; rfl
      · rw [e, ← eg, q_up_self]; rfl
  obtain ⟨h', q2, f2, b2⟩ := r_plans (sh := sh) hs wf lk p1
  have hp' := f2.ptr p1.1
  have gdB := plB_ok (W := wtW G (PA lo hi)) wf lk
  obtain ⟨B, eB⟩ : ∃ B, plB G 2 (PA lo hi) (wtW G (PA lo hi)) = B := ⟨_, rfl⟩
  rw [eB] at b2 gdB ⊢
  have cnt : B.2.1 = (0 + (if B.2.2.1 0 < 0 then 0 else 1)) + (if B.2.2.1 1 < 0 then 0 else 1) := gdB.2.2
  have b25 := b2.2.1
  refine ⟨h', ?_, f1.trans f2.fq⟩
  have tail : q_L 217 124 [(22, 469), (0, a), (0, b), (0, x)] [] (sh, h') = some ((0, if x = 0 then 0 else if 0 ≤ B.2.2.1 0 ∧ 0 ≤ B.2.2.1 1 then 0 else 1), (sh, h')) := by
    by_cases z : x = 0
    · simp (disch := omega) only [q_470, q_up_far, q_row_row, q_row_self, q_row_ne, q_up_ne, q_up_eq, q_rowup, ud_eq, ud_ne, q_add_id, q_sub_id, q_mul_id, q_w_eq, q_rem_n, q_div_n, ↓reduceIte, leT, leF, ltT, ltF, eqT, eqF, true_or, or_true, false_or, or_false, true_and, and_true, false_and, and_false, or_self, and_self, Option.bind_some, z, e_X12_bars_124, e_X12_bars_140, e_X12_bars_141]
    · rw [if_neg z]
      by_cases z2 : 0 ≤ B.2.2.1 0 ∧ 0 ≤ B.2.2.1 1
      · rw [if_pos z2]
        rw [if_neg (by omega), if_neg (by omega)] at cnt
        simp (disch := omega) only [q_470, q_up_far, q_row_row, q_row_self, q_row_ne, q_up_ne, q_up_eq, q_rowup, ud_eq, ud_ne, q_add_id, q_sub_id, q_mul_id, q_w_eq, q_rem_n, q_div_n, ↓reduceIte, leT, leF, ltT, ltF, eqT, eqF, true_or, or_true, false_or, or_false, true_and, and_true, false_and, and_false, or_self, and_self, Option.bind_some, b25, e_X12_bars_124, e_X12_bars_140, e_X12_bars_141]
      · rw [if_neg z2]
        have : B.2.1 < 2 := by
          rw [cnt]
          split <;> split <;> omega
        simp (disch := omega) only [q_470, q_up_far, q_row_row, q_row_self, q_row_ne, q_up_ne, q_up_eq, q_rowup, ud_eq, ud_ne, q_add_id, q_sub_id, q_mul_id, q_w_eq, q_rem_n, q_div_n, ↓reduceIte, leT, leF, ltT, ltF, eqT, eqF, true_or, or_true, false_or, or_false, true_and, and_true, false_and, and_false, or_self, and_self, Option.bind_some, b25, e_X12_bars_124, e_X12_bars_140, e_X12_bars_141]
  rw [← tail]
  rcases hab with ⟨ea, eb⟩ | ⟨ea, eb⟩ <;> (subst ea; subst eb; simp (disch := omega) only [q_470, q_up_far, q_row_row, q_row_self, q_row_ne, q_up_ne, q_up_eq, q_rowup, ud_eq, ud_ne, q_add_id, q_sub_id, q_mul_id, q_w_eq, q_rem_n, q_div_n, ↓reduceIte, leT, leF, ltT, ltF, eqT, eqF, true_or, or_true, false_or, or_false, true_and, and_true, false_and, and_false, or_self, and_self, Option.bind_some, hp.m19, hs.k481, eg, q2, e_X12_bars_82, e_X12_bars_103, e_X12_bars_119])
theorem st_bars (a b : Int) : Step 127 217 [(0, a), (0, b)] := by
  intro sh h hs ho hi
  obtain ⟨w, G, hw1, iw, ew, hG, hp, hr, wf, hh⟩ := hi.opn
  have wr := wf.1
  have u0 := wr.hour; have u1 := wr.nd; have u2 := wr.nc; have u3 := wr.na
  by_cases v1 : (0 ≤ a ∧ a < G 3) ∧ (0 ≤ b ∧ b < G 3) ∧ ¬ a = b
  · obtain ⟨⟨a0, a1⟩, ⟨b0, b1⟩, ab⟩ := v1
    by_cases v2 : G (480 + a) = 0 ∧ G (480 + b) = 0
    · obtain ⟨sa, sb⟩ := v2
      obtain ⟨lo, hi2, l0, lh, h3, e1, e2, hab⟩ : ∃ lo hi2, 0 ≤ lo ∧ lo < hi2 ∧ hi2 < G 3 ∧ G (480 + lo) = 0 ∧ G (480 + hi2) = 0 ∧ ((a = lo ∧ b = hi2) ∨ (a = hi2 ∧ b = lo)) := by
        by_cases z : a < b
        · exact ⟨a, b, a0, z, b1, sa, sb, Or.inl ⟨rfl, rfl⟩⟩
        · exact ⟨b, a, b0, by omega, a1, sb, sa, Or.inr ⟨rfl, rfl⟩⟩
      obtain ⟨h1, c1, f1, d1, d2⟩ := k_pairTwo (sh := sh) hs iw wf hp hr l0 lh h3 e1 e2
      have hp1 := f1.ptr hp
      have hr1 := f1.rel iw wr hr
      obtain ⟨h2, c2, f2, d3⟩ := k_pairOne (sh := sh) hs iw wf hp1 hr1 a0 a1 sa
      have hp2 := f2.ptr hp1
      have hr2 := f2.rel iw wr hr1
      obtain ⟨h3', c3, f3, d4⟩ := k_pairOne (sh := sh) hs iw wf hp2 hr2 b0 b1 sb
      have hp3 := f3.ptr hp2
      have ff := (f1.trans f2).trans f3
      have ew1 : h1 0 0 = w := by rw [f1 0 0 (by omega)]; exact ew
      have ew2 : h2 0 0 = w := by rw [f2 0 0 (by omega)]; exact ew1
      have hG3 : h3' 470 = G := by rw [← hG]; funext y; exact ff 470 y (by omega)
      obtain ⟨g1, r1, k1⟩ := r_isAlone (sh := sh) hs wf hp3 hG3 a0 a1 sa
      have hq1 := k1.ptr hp3
      have hGq1 : g1 470 = G := by rw [← hG3]; funext y; exact k1 470 y (by omega)
      obtain ⟨xa, exa⟩ : ∃ x, (plB G 1 (fun _ => a) (wtW G (fun _ => a))).2.2.1 0 = x := ⟨_, rfl⟩
      obtain ⟨xb, exb⟩ : ∃ x, (plB G 1 (fun _ => b) (wtW G (fun _ => b))).2.2.1 0 = x := ⟨_, rfl⟩
      rw [exa] at d3 r1
      rw [exb] at d4
      obtain ⟨p0, ep0⟩ : ∃ x, (plB G 2 (PA lo hi2) (wtW G (PA lo hi2))).2.2.1 0 = x := ⟨_, rfl⟩
      obtain ⟨p1, ep1⟩ : ∃ x, (plB G 2 (PA lo hi2) (wtW G (PA lo hi2))).2.2.1 1 = x := ⟨_, rfl⟩
      rw [ep0] at d1
      rw [ep1] at d2
      have cls : ∀ y z, q_Cc 50 [(15, 442), (0, a)] (sh, h1) = some ((0, y), (sh, h1)) → q_Cc 50 [(15, 442), (0, b)] (sh, h1) = some ((0, z), (sh, h1)) → q_Cc 127 [(21, 0), (0, a), (0, b)] (sh, h) = some ((0, if (0 ≤ y ∧ 0 ≤ z) ∨ xa < 0 ∨ xb < 0 then 0 else 1), (sh, h3')) := by
        intro y z dy dz
        have c1' : q_Cc 38 [(15, 442), (20, w), (0, if b < a then b else a), (0, if a < b then b else a)] (sh, h) = some ((9, 0), (sh, h1)) := by
          rcases hab with ⟨ea, eb⟩ | ⟨ea, eb⟩
          · rw [ea, eb, if_neg (by omega), if_pos (by omega)]; exact c1
          · rw [ea, eb, if_pos (by omega), if_neg (by omega)]; exact c1
        have t3 := hp.t3; have t31 := hp1.t3; have t32 := hp2.t3; have t33 := hp3.t3
        have t71 := hp.w7 iw
        have t8 := hp.ask iw
        have t9 := hs.asks iw
        have tA := hr.astate wr
        have tN := hr.na wr
        have tail : ∀ x, q_L 127 113 [(21, 0), (0, a), (0, b), (9, 0), (9, 0), (9, 0)] [(0, x)] (sh, h1) = some ((0, if x = 0 then (if xa < 0 ∨ xb < 0 then 0 else 1) else 0), (sh, h3')) := by
          intro x
          by_cases zx : x = 0
          · rw [if_pos zx, zx]
            by_cases z1 : xa < 0
            · rw [if_pos (Or.inl z1)]
              by_cases z2 : xb < 0 <;> simp (disch := omega) only [q_470, q_up_far, q_row_row, q_row_self, q_row_ne, q_up_ne, q_up_eq, q_rowup, ud_eq, ud_ne, q_add_id, q_sub_id, q_mul_id, q_w_eq, q_rem_n, q_div_n, ↓reduceIte, leT, leF, ltT, ltF, eqT, eqF, true_or, or_true, false_or, or_false, true_and, and_true, false_and, and_false, or_self, and_self, Option.bind_some, t31, t32, t33, ew1, ew2, c2, c3, d3, d4, e_X11_bars_113, e_X11_bars_127, e_X11_bars_135, e_X11_bars_143, e_X11_bars_158, e_X11_bars_166, e_X11_bars_174, e_X11_bars_194, e_X11_bars_195]
            · by_cases z2 : xb < 0
              · rw [if_pos (Or.inr z2)]
                simp (disch := omega) only [q_470, q_up_far, q_row_row, q_row_self, q_row_ne, q_up_ne, q_up_eq, q_rowup, ud_eq, ud_ne, q_add_id, q_sub_id, q_mul_id, q_w_eq, q_rem_n, q_div_n, ↓reduceIte, leT, leF, ltT, ltF, eqT, eqF, true_or, or_true, false_or, or_false, true_and, and_true, false_and, and_false, or_self, and_self, Option.bind_some, t31, t32, t33, ew1, ew2, c2, c3, d3, d4, e_X11_bars_113, e_X11_bars_127, e_X11_bars_135, e_X11_bars_143, e_X11_bars_158, e_X11_bars_166, e_X11_bars_174, e_X11_bars_194, e_X11_bars_195]
              · rw [if_neg (by omega)]
                simp (disch := omega) only [q_470, q_up_far, q_row_row, q_row_self, q_row_ne, q_up_ne, q_up_eq, q_rowup, ud_eq, ud_ne, q_add_id, q_sub_id, q_mul_id, q_w_eq, q_rem_n, q_div_n, ↓reduceIte, leT, leF, ltT, ltF, eqT, eqF, true_or, or_true, false_or, or_false, true_and, and_true, false_and, and_false, or_self, and_self, Option.bind_some, t31, t32, t33, ew1, ew2, c2, c3, d3, d4, e_X11_bars_113, e_X11_bars_127, e_X11_bars_135, e_X11_bars_143, e_X11_bars_158, e_X11_bars_166, e_X11_bars_174, e_X11_bars_194, e_X11_bars_195]
          · rw [if_neg zx]
            by_cases z1 : xa < 0 <;> by_cases z2 : xb < 0 <;> simp (disch := omega) only [q_470, q_up_far, q_row_row, q_row_self, q_row_ne, q_up_ne, q_up_eq, q_rowup, ud_eq, ud_ne, q_add_id, q_sub_id, q_mul_id, q_w_eq, q_rem_n, q_div_n, ↓reduceIte, leT, leF, ltT, ltF, eqT, eqF, true_or, or_true, false_or, or_false, true_and, and_true, false_and, and_false, or_self, and_self, Option.bind_some, t31, t32, t33, ew1, ew2, c2, c3, d3, d4, e_X11_bars_113, e_X11_bars_127, e_X11_bars_135, e_X11_bars_143, e_X11_bars_158, e_X11_bars_166, e_X11_bars_174, e_X11_bars_194, e_X11_bars_195]
        by_cases zy : y < 0
        · have e5 : ((0 ≤ y ∧ 0 ≤ z) ∨ xa < 0 ∨ xb < 0) = (xa < 0 ∨ xb < 0) := propext (by omega)
          have tl := tail 0
          rw [if_pos rfl] at tl
          rw [ite_congr e5 (fun _ => rfl) (fun _ => rfl), ← tl]
          simp (disch := omega) only [q_470, q_up_far, q_row_row, q_row_self, q_row_ne, q_up_ne, q_up_eq, q_rowup, ud_eq, ud_ne, q_add_id, q_sub_id, q_mul_id, q_w_eq, q_rem_n, q_div_n, ↓reduceIte, leT, leF, ltT, ltF, eqT, eqF, true_or, or_true, false_or, or_false, true_and, and_true, false_and, and_false, or_self, and_self, Option.bind_some, sa, sb, ew, t3, t31, t71, t8, t9, tA, tN, c1', dy, dz, k_X11_outside, c_X11_noAsking, e_X11_noAsking_0, e_X11_noAsking_14, c_X11_bars, e_X11_bars_0, e_X11_bars_5, e_X11_bars_13, e_X11_bars_86, e_X11_bars_94, e_X11_bars_105, e_X11_bars_112]
        · by_cases zz : z < 0
          · have e5 : ((0 ≤ y ∧ 0 ≤ z) ∨ xa < 0 ∨ xb < 0) = (xa < 0 ∨ xb < 0) := propext (by omega)
            have tl := tail 0
            rw [if_pos rfl] at tl
            rw [ite_congr e5 (fun _ => rfl) (fun _ => rfl), ← tl]
            simp (disch := omega) only [q_470, q_up_far, q_row_row, q_row_self, q_row_ne, q_up_ne, q_up_eq, q_rowup, ud_eq, ud_ne, q_add_id, q_sub_id, q_mul_id, q_w_eq, q_rem_n, q_div_n, ↓reduceIte, leT, leF, ltT, ltF, eqT, eqF, true_or, or_true, false_or, or_false, true_and, and_true, false_and, and_false, or_self, and_self, Option.bind_some, sa, sb, ew, t3, t31, t71, t8, t9, tA, tN, c1', dy, dz, k_X11_outside, c_X11_noAsking, e_X11_noAsking_0, e_X11_noAsking_14, c_X11_bars, e_X11_bars_0, e_X11_bars_5, e_X11_bars_13, e_X11_bars_86, e_X11_bars_94, e_X11_bars_105, e_X11_bars_112]
          · have tl := tail 1
            rw [if_neg (by decide)] at tl
            rw [if_pos (Or.inl ⟨by omega, by omega⟩), ← tl]
            simp (disch := omega) only [q_470, q_up_far, q_row_row, q_row_self, q_row_ne, q_up_ne, q_up_eq, q_rowup, ud_eq, ud_ne, q_add_id, q_sub_id, q_mul_id, q_w_eq, q_rem_n, q_div_n, ↓reduceIte, leT, leF, ltT, ltF, eqT, eqF, true_or, or_true, false_or, or_false, true_and, and_true, false_and, and_false, or_self, and_self, Option.bind_some, sa, sb, ew, t3, t31, t71, t8, t9, tA, tN, c1', dy, dz, k_X11_outside, c_X11_noAsking, e_X11_noAsking_0, e_X11_noAsking_14, c_X11_bars, e_X11_bars_0, e_X11_bars_5, e_X11_bars_13, e_X11_bars_86, e_X11_bars_94, e_X11_bars_105, e_X11_bars_112]
      have cls2 : q_Cc 127 [(21, 0), (0, a), (0, b)] (sh, h) = some ((0, if (0 ≤ p0 ∧ 0 ≤ p1) ∨ xa < 0 ∨ xb < 0 then 0 else 1), (sh, h3')) := by
        rcases hab with ⟨ea, eb⟩ | ⟨ea, eb⟩
        · exact cls p0 p1 (by rw [ea]; exact d1) (by rw [eb]; exact d2)
        · rw [cls p1 p0 (by rw [ea]; exact d2) (by rw [eb]; exact d1)]
          have e5 : ((0 ≤ p1 ∧ 0 ≤ p0) ∨ xa < 0 ∨ xb < 0) = ((0 ≤ p0 ∧ 0 ≤ p1) ∨ xa < 0 ∨ xb < 0) := propext (by omega)
          rw [ite_congr e5 (fun _ => rfl) (fun _ => rfl)]
      have z0 := hp3.m0
      by_cases za : xa < 0
      · obtain ⟨g2, r2, k2⟩ := r_pair (sh := sh) (a := a) (b := b) (x := 0) lo hi2 hs wf hq1 hGq1 l0 lh h3 e1 e2 hab
        refine ⟨_, h3', g2, cls2, ?_, hi.pq ff (k1.trans k2)⟩
        rw [if_pos (Or.inr (Or.inl za))]
        rw [if_pos za] at r1
        rw [if_pos rfl] at r2
        rw [← r2]
        simp (disch := omega) only [q_470, q_up_far, q_row_row, q_row_self, q_row_ne, q_up_ne, q_up_eq, q_rowup, ud_eq, ud_ne, q_add_id, q_sub_id, q_mul_id, q_w_eq, q_rem_n, q_div_n, ↓reduceIte, leT, leF, ltT, ltF, eqT, eqF, true_or, or_true, false_or, or_false, true_and, and_true, false_and, and_false, or_self, and_self, Option.bind_some, sa, sb, r1, z0, hG3, hs.k470, k_X12_in, c_X12_bars, e_X12_bars_0, e_X12_bars_5, e_X12_bars_13, e_X12_bars_66, e_X12_bars_81, c_X12_isAsking, e_X12_isAsking_0, e_X12_isAsking_13]
      · rw [if_neg za] at r1
        obtain ⟨g3, r3, k3⟩ := r_isAlone (sh := sh) hs wf hq1 hGq1 b0 b1 sb
        have hq3 := k3.ptr hq1
        have hGq3 : g3 470 = G := by rw [← hGq1]; funext y; exact k3 470 y (by omega)
        rw [exb] at r3
        by_cases zb : xb < 0
        · rw [if_pos zb] at r3
          obtain ⟨g2, r2, k2⟩ := r_pair (sh := sh) (a := a) (b := b) (x := 0) lo hi2 hs wf hq3 hGq3 l0 lh h3 e1 e2 hab
          refine ⟨_, h3', g2, cls2, ?_, hi.pq ff ((k1.trans k3).trans k2)⟩
          rw [if_pos (Or.inr (Or.inr zb))]
          rw [if_pos rfl] at r2
          rw [← r2]
          simp (disch := omega) only [q_470, q_up_far, q_row_row, q_row_self, q_row_ne, q_up_ne, q_up_eq, q_rowup, ud_eq, ud_ne, q_add_id, q_sub_id, q_mul_id, q_w_eq, q_rem_n, q_div_n, ↓reduceIte, leT, leF, ltT, ltF, eqT, eqF, true_or, or_true, false_or, or_false, true_and, and_true, false_and, and_false, or_self, and_self, Option.bind_some, sa, sb, r1, r3, z0, hG3, hs.k470, k_X12_in, c_X12_bars, e_X12_bars_0, e_X12_bars_5, e_X12_bars_13, e_X12_bars_66, e_X12_bars_74, e_X12_bars_81, c_X12_isAsking, e_X12_isAsking_0, e_X12_isAsking_13]
        · rw [if_neg zb] at r3
          obtain ⟨g2, r2, k2⟩ := r_pair (sh := sh) (a := a) (b := b) (x := 1) lo hi2 hs wf hq3 hGq3 l0 lh h3 e1 e2 hab
          refine ⟨_, h3', g2, cls2, ?_, hi.pq ff ((k1.trans k3).trans k2)⟩
          rw [if_neg (by decide), ep0, ep1] at r2
          have e5 : ((0 ≤ p0 ∧ 0 ≤ p1) ∨ xa < 0 ∨ xb < 0) = (0 ≤ p0 ∧ 0 ≤ p1) := propext (by omega)
          rw [ite_congr e5 (fun _ => rfl) (fun _ => rfl), ← r2]
          simp (disch := omega) only [q_470, q_up_far, q_row_row, q_row_self, q_row_ne, q_up_ne, q_up_eq, q_rowup, ud_eq, ud_ne, q_add_id, q_sub_id, q_mul_id, q_w_eq, q_rem_n, q_div_n, ↓reduceIte, leT, leF, ltT, ltF, eqT, eqF, true_or, or_true, false_or, or_false, true_and, and_true, false_and, and_false, or_self, and_self, Option.bind_some, sa, sb, r1, r3, z0, hG3, hs.k470, k_X12_in, c_X12_bars, e_X12_bars_0, e_X12_bars_5, e_X12_bars_13, e_X12_bars_66, e_X12_bars_74, e_X12_bars_81, c_X12_isAsking, e_X12_isAsking_0, e_X12_isAsking_13]
    · by_cases sa : G (480 + a) = 0
      · have sb : ¬ G (480 + b) = 0 := fun e => v2 ⟨sa, e⟩
        refine ⟨-1000005, (q_up h 468 4 (q_add (h 468 4) 1)), q_up (q_up h 468 4 (q_add (h 468 4) 1)) 474 4 (q_add (h 474 4) 1), ?_, ?_, hi.find 4 (by decide) (by decide), fun k hk => ⟨by rw [q_up_far (by omega), q_up_far (by omega)], by rw [q_up_far (by omega)]⟩⟩
        · simp (disch := omega) only [q_470, q_up_far, q_row_row, q_row_self, q_row_ne, q_up_ne, q_up_eq, q_rowup, ud_eq, ud_ne, q_add_id, q_sub_id, q_mul_id, q_w_eq, q_rem_n, q_div_n, ↓reduceIte, leT, leF, ltT, ltF, eqT, eqF, true_or, or_true, false_or, or_false, true_and, and_true, false_and, and_false, or_self, and_self, Option.bind_some, ew, hp.w4 iw, hp.w5 iw, hp.w6 iw, hp.w7 iw, hp.w8 iw, hp.dish iw, hp.craft iw, hp.ask iw, hp.t6, hs.rains iw, hs.dishes iw, hs.crafts iw, hs.asks iw, hs.k468, hr.hour wr, hr.nd wr, hr.nc wr, hr.na wr, k_X11_outside, k_f4 hp.t6 hs.k468, sa, hr.astate wr, c_X11_bars, e_X11_bars_0, e_X11_bars_5, e_X11_bars_13, e_X11_bars_58, e_X11_bars_64, c_X11_noAsking, e_X11_noAsking_0, e_X11_noAsking_14]
        · simp (disch := omega) only [q_470, q_up_far, q_row_row, q_row_self, q_row_ne, q_up_ne, q_up_eq, q_rowup, ud_eq, ud_ne, q_add_id, q_sub_id, q_mul_id, q_w_eq, q_rem_n, q_div_n, ↓reduceIte, leT, leF, ltT, ltF, eqT, eqF, true_or, or_true, false_or, or_false, true_and, and_true, false_and, and_false, or_self, and_self, Option.bind_some, hp.m0, hp.m6, hs.k470, hs.k474, hG, k_X12_in, k_g4 (sh := sh) (h := (q_up h 468 4 (q_add (h 468 4) 1))) (by rw [q_up_far (by decide)]; exact hp.m6) hs.k474, sa, c_X12_bars, e_X12_bars_0, e_X12_bars_5, e_X12_bars_13, e_X12_bars_54, e_X12_bars_60, c_X12_isAsking, e_X12_isAsking_0, e_X12_isAsking_13]
      · refine ⟨-1000005, (q_up h 468 4 (q_add (h 468 4) 1)), q_up (q_up h 468 4 (q_add (h 468 4) 1)) 474 4 (q_add (h 474 4) 1), ?_, ?_, hi.find 4 (by decide) (by decide), fun k hk => ⟨by rw [q_up_far (by omega), q_up_far (by omega)], by rw [q_up_far (by omega)]⟩⟩
        · simp (disch := omega) only [q_470, q_up_far, q_row_row, q_row_self, q_row_ne, q_up_ne, q_up_eq, q_rowup, ud_eq, ud_ne, q_add_id, q_sub_id, q_mul_id, q_w_eq, q_rem_n, q_div_n, ↓reduceIte, leT, leF, ltT, ltF, eqT, eqF, true_or, or_true, false_or, or_false, true_and, and_true, false_and, and_false, or_self, and_self, Option.bind_some, ew, hp.w4 iw, hp.w5 iw, hp.w6 iw, hp.w7 iw, hp.w8 iw, hp.dish iw, hp.craft iw, hp.ask iw, hp.t6, hs.rains iw, hs.dishes iw, hs.crafts iw, hs.asks iw, hs.k468, hr.hour wr, hr.nd wr, hr.nc wr, hr.na wr, k_X11_outside, k_f4 hp.t6 hs.k468, hr.astate wr, c_X11_bars, e_X11_bars_0, e_X11_bars_5, e_X11_bars_13, e_X11_bars_58, e_X11_bars_64, c_X11_noAsking, e_X11_noAsking_0, e_X11_noAsking_14]
        · simp (disch := omega) only [q_470, q_up_far, q_row_row, q_row_self, q_row_ne, q_up_ne, q_up_eq, q_rowup, ud_eq, ud_ne, q_add_id, q_sub_id, q_mul_id, q_w_eq, q_rem_n, q_div_n, ↓reduceIte, leT, leF, ltT, ltF, eqT, eqF, true_or, or_true, false_or, or_false, true_and, and_true, false_and, and_false, or_self, and_self, Option.bind_some, hp.m0, hp.m6, hs.k470, hs.k474, hG, k_X12_in, k_g4 (sh := sh) (h := (q_up h 468 4 (q_add (h 468 4) 1))) (by rw [q_up_far (by decide)]; exact hp.m6) hs.k474, c_X12_bars, e_X12_bars_0, e_X12_bars_5, e_X12_bars_13, e_X12_bars_54, e_X12_bars_60, c_X12_isAsking, e_X12_isAsking_0, e_X12_isAsking_13]
  · by_cases a1 : 0 ≤ a ∧ a < G 3
    · by_cases a2 : 0 ≤ b ∧ b < G 3
      · have ab : a = b := by omega
        subst ab
        refine ⟨-1000001, (q_up h 468 0 (q_add (h 468 0) 1)), q_up (q_up h 468 0 (q_add (h 468 0) 1)) 474 0 (q_add (h 474 0) 1), ?_, ?_, hi.find 0 (by decide) (by decide), fun k hk => ⟨by rw [q_up_far (by omega), q_up_far (by omega)], by rw [q_up_far (by omega)]⟩⟩
        · simp (disch := omega) only [q_470, q_up_far, q_row_row, q_row_self, q_row_ne, q_up_ne, q_up_eq, q_rowup, ud_eq, ud_ne, q_add_id, q_sub_id, q_mul_id, q_w_eq, q_rem_n, q_div_n, ↓reduceIte, leT, leF, ltT, ltF, eqT, eqF, true_or, or_true, false_or, or_false, true_and, and_true, false_and, and_false, or_self, and_self, Option.bind_some, ew, hp.w4 iw, hp.w5 iw, hp.w6 iw, hp.w7 iw, hp.w8 iw, hp.dish iw, hp.craft iw, hp.ask iw, hp.t6, hs.rains iw, hs.dishes iw, hs.crafts iw, hs.asks iw, hs.k468, hr.hour wr, hr.nd wr, hr.nc wr, hr.na wr, k_X11_outside, k_f0 hp.t6 hs.k468, c_X11_bars, e_X11_bars_0, e_X11_bars_5, e_X11_bars_13, e_X11_bars_21, e_X11_bars_27, c_X11_noAsking, e_X11_noAsking_0, e_X11_noAsking_14]
        · simp (disch := omega) only [q_470, q_up_far, q_row_row, q_row_self, q_row_ne, q_up_ne, q_up_eq, q_rowup, ud_eq, ud_ne, q_add_id, q_sub_id, q_mul_id, q_w_eq, q_rem_n, q_div_n, ↓reduceIte, leT, leF, ltT, ltF, eqT, eqF, true_or, or_true, false_or, or_false, true_and, and_true, false_and, and_false, or_self, and_self, Option.bind_some, hp.m0, hp.m6, hs.k470, hs.k474, hG, k_X12_in, k_g0 (sh := sh) (h := (q_up h 468 0 (q_add (h 468 0) 1))) (by rw [q_up_far (by decide)]; exact hp.m6) hs.k474, c_X12_bars, e_X12_bars_0, e_X12_bars_5, e_X12_bars_13, e_X12_bars_21, e_X12_bars_27, c_X12_isAsking, e_X12_isAsking_0, e_X12_isAsking_13]
      · refine ⟨-1000001, (q_up h 468 0 (q_add (h 468 0) 1)), q_up (q_up h 468 0 (q_add (h 468 0) 1)) 474 0 (q_add (h 474 0) 1), ?_, ?_, hi.find 0 (by decide) (by decide), fun k hk => ⟨by rw [q_up_far (by omega), q_up_far (by omega)], by rw [q_up_far (by omega)]⟩⟩
        · simp (disch := omega) only [q_470, q_up_far, q_row_row, q_row_self, q_row_ne, q_up_ne, q_up_eq, q_rowup, ud_eq, ud_ne, q_add_id, q_sub_id, q_mul_id, q_w_eq, q_rem_n, q_div_n, ↓reduceIte, leT, leF, ltT, ltF, eqT, eqF, true_or, or_true, false_or, or_false, true_and, and_true, false_and, and_false, or_self, and_self, Option.bind_some, ew, hp.w4 iw, hp.w5 iw, hp.w6 iw, hp.w7 iw, hp.w8 iw, hp.dish iw, hp.craft iw, hp.ask iw, hp.t6, hs.rains iw, hs.dishes iw, hs.crafts iw, hs.asks iw, hs.k468, hr.hour wr, hr.nd wr, hr.nc wr, hr.na wr, k_X11_outside, k_f0 hp.t6 hs.k468, c_X11_bars, e_X11_bars_0, e_X11_bars_5, e_X11_bars_13, e_X11_bars_21, e_X11_bars_27, c_X11_noAsking, e_X11_noAsking_0, e_X11_noAsking_14]
        · simp (disch := omega) only [q_470, q_up_far, q_row_row, q_row_self, q_row_ne, q_up_ne, q_up_eq, q_rowup, ud_eq, ud_ne, q_add_id, q_sub_id, q_mul_id, q_w_eq, q_rem_n, q_div_n, ↓reduceIte, leT, leF, ltT, ltF, eqT, eqF, true_or, or_true, false_or, or_false, true_and, and_true, false_and, and_false, or_self, and_self, Option.bind_some, hp.m0, hp.m6, hs.k470, hs.k474, hG, k_X12_in, k_g0 (sh := sh) (h := (q_up h 468 0 (q_add (h 468 0) 1))) (by rw [q_up_far (by decide)]; exact hp.m6) hs.k474, c_X12_bars, e_X12_bars_0, e_X12_bars_5, e_X12_bars_13, e_X12_bars_21, e_X12_bars_27, c_X12_isAsking, e_X12_isAsking_0, e_X12_isAsking_13]
    · refine ⟨-1000001, (q_up h 468 0 (q_add (h 468 0) 1)), q_up (q_up h 468 0 (q_add (h 468 0) 1)) 474 0 (q_add (h 474 0) 1), ?_, ?_, hi.find 0 (by decide) (by decide), fun k hk => ⟨by rw [q_up_far (by omega), q_up_far (by omega)], by rw [q_up_far (by omega)]⟩⟩
      · simp (disch := omega) only [q_470, q_up_far, q_row_row, q_row_self, q_row_ne, q_up_ne, q_up_eq, q_rowup, ud_eq, ud_ne, q_add_id, q_sub_id, q_mul_id, q_w_eq, q_rem_n, q_div_n, ↓reduceIte, leT, leF, ltT, ltF, eqT, eqF, true_or, or_true, false_or, or_false, true_and, and_true, false_and, and_false, or_self, and_self, Option.bind_some, ew, hp.w4 iw, hp.w5 iw, hp.w6 iw, hp.w7 iw, hp.w8 iw, hp.dish iw, hp.craft iw, hp.ask iw, hp.t6, hs.rains iw, hs.dishes iw, hs.crafts iw, hs.asks iw, hs.k468, hr.hour wr, hr.nd wr, hr.nc wr, hr.na wr, k_X11_outside, k_f0 hp.t6 hs.k468, c_X11_bars, e_X11_bars_0, e_X11_bars_5, e_X11_bars_13, e_X11_bars_21, e_X11_bars_27, c_X11_noAsking, e_X11_noAsking_0, e_X11_noAsking_14]
      · simp (disch := omega) only [q_470, q_up_far, q_row_row, q_row_self, q_row_ne, q_up_ne, q_up_eq, q_rowup, ud_eq, ud_ne, q_add_id, q_sub_id, q_mul_id, q_w_eq, q_rem_n, q_div_n, ↓reduceIte, leT, leF, ltT, ltF, eqT, eqF, true_or, or_true, false_or, or_false, true_and, and_true, false_and, and_false, or_self, and_self, Option.bind_some, hp.m0, hp.m6, hs.k470, hs.k474, hG, k_X12_in, k_g0 (sh := sh) (h := (q_up h 468 0 (q_add (h 468 0) 1))) (by rw [q_up_far (by decide)]; exact hp.m6) hs.k474, c_X12_bars, e_X12_bars_0, e_X12_bars_5, e_X12_bars_13, e_X12_bars_21, e_X12_bars_27, c_X12_isAsking, e_X12_isAsking_0, e_X12_isAsking_13]
