/-! plan, begins, without -/
theorem Inv.pq {h h1 h2 : Int → Int → Int} (hi : Inv h) (f : FP h h1) (g : FQ h1 h2) : Inv h2 ∧ ∀ k, k < 0 → h2 k = h k ∧ h1 k = h k := by
  refine ⟨hi.scr (g.ptr (f.ptr hi.1)) ?_, ?_⟩
  · intro x y hn
    rw [g x y (by unfold Scr at hn; omega), f x y (by unfold Scr at hn; omega)]
  · intro x hx
    exact ⟨by funext y; rw [g x y (by omega), f x y (by omega)], by funext y; rw [f x y (by omega)]⟩
/-- the same, with a finding told -/
theorem Inv.pqf {h h1 h2 : Int → Int → Int} (hi : Inv h) (i : Int) (i0 : 0 ≤ i) (i1 : i < 7) (f : FP h h1) (g : FQ (q_up h1 468 i (q_add (h1 468 i) 1)) h2) : Inv (q_up h2 474 i (q_add (h2 474 i) 1)) ∧ ∀ k, k < 0 → (q_up h2 474 i (q_add (h2 474 i) 1)) k = h k ∧ (q_up h1 468 i (q_add (h1 468 i) 1)) k = h k := by
  have hp2 : Ptr h2 := g.ptr ((f.ptr hi.1).up (by rfl))
  have e4 : h2 474 i = h 474 i := by rw [g 474 i (by omega), q_up_ne (by omega), f 474 i (by omega)]
  have e3 : h1 468 i = h 468 i := f 468 i (by omega)
  refine ⟨(hi.find i i0 i1).scr (hp2.up (by rfl)) ?_, ?_⟩
  · intro x y hn
    by_cases e : x = 474 ∧ y = i
    · rw [e.1, e.2, q_up_self, q_up_self, e4]
    · rw [q_up_ne (by omega), q_up_ne (by omega), g x y (by unfold Scr at hn; omega)]
      by_cases e2 : x = 468 ∧ y = i
      · rw [e2.1, e2.2, q_up_self, q_up_self, e3]
      · rw [q_up_ne (by omega), q_up_ne (by omega), f x y (by unfold Scr at hn; omega)]
  · intro x hx
    exact ⟨by funext y; rw [q_up_ne (by omega), g x y (by omega), q_up_ne (by omega), f x y (by omega)], by funext y; rw [q_up_ne (by omega), f x y (by omega)]⟩
theorem k_dishOf {sh : Int × (Int → Nat × Int)} {h : Int → Int → Int} {m a i : Int} {A W : Int → Int} {B : Int × Int × (Int → Int) × (Int → Int)} (hs : Sh sh) (hp : Ptr h) (m0 : 0 ≤ m) (m5 : m ≤ 5) (lc : LC h m A W) (bc : BC h m B) (po : PO m A a i) : q_Cc 50 [(15, 442), (0, a)] (sh, h) = some ((0, if i < 0 then -1 else B.2.2.1 i), (sh, h)) := by
  have k := k_placeOf (sh := sh) hs hp m0 m5 lc po
  rcases po with ⟨i0, i1, -⟩ | ⟨e, -⟩
  · have b := (bc.2.2 i i0 i1).1
    rw [if_neg (by omega)]
    simp (disch := omega) only [q_470, q_up_far, q_row_row, q_row_self, q_row_ne, q_up_ne, q_up_eq, q_rowup, ud_eq, ud_ne, q_add_id, q_sub_id, q_mul_id, q_w_eq, q_rem_n, q_div_n, ↓reduceIte, leT, leF, ltT, ltF, eqT, eqF, true_or, or_true, false_or, or_false, true_and, and_true, false_and, and_false, or_self, and_self, Option.bind_some, k, b, hp.pl7, hs.k447, c_X5_dishOf, e_X5_dishOf_0, e_X5_dishOf_5, e_X5_dishOf_20]
  · subst e
    simp (disch := omega) only [q_470, q_up_far, q_row_row, q_row_self, q_row_ne, q_up_ne, q_up_eq, q_rowup, ud_eq, ud_ne, q_add_id, q_sub_id, q_mul_id, q_w_eq, q_rem_n, q_div_n, ↓reduceIte, leT, leF, ltT, ltF, eqT, eqF, true_or, or_true, false_or, or_false, true_and, and_true, false_and, and_false, or_self, and_self, Option.bind_some, k, c_X5_dishOf, e_X5_dishOf_0, e_X5_dishOf_5, e_X5_dishOf_20]
theorem k_startOf {sh : Int × (Int → Nat × Int)} {h : Int → Int → Int} {m a i : Int} {A W : Int → Int} {B : Int × Int × (Int → Int) × (Int → Int)} (hs : Sh sh) (hp : Ptr h) (m0 : 0 ≤ m) (m5 : m ≤ 5) (lc : LC h m A W) (bc : BC h m B) (po : PO m A a i) : q_Cc 51 [(15, 442), (0, a)] (sh, h) = some ((0, if i < 0 then -1 else B.2.2.2 i), (sh, h)) := by
  have k := k_placeOf (sh := sh) hs hp m0 m5 lc po
  rcases po with ⟨i0, i1, -⟩ | ⟨e, -⟩
  · have b := (bc.2.2 i i0 i1).2
    rw [if_neg (by omega)]
    simp (disch := omega) only [q_470, q_up_far, q_row_row, q_row_self, q_row_ne, q_up_ne, q_up_eq, q_rowup, ud_eq, ud_ne, q_add_id, q_sub_id, q_mul_id, q_w_eq, q_rem_n, q_div_n, ↓reduceIte, leT, leF, ltT, ltF, eqT, eqF, true_or, or_true, false_or, or_false, true_and, and_true, false_and, and_false, or_self, and_self, Option.bind_some, k, b, hp.pl8, hs.k448, c_X5_startOf, e_X5_startOf_0, e_X5_startOf_5, e_X5_startOf_20]
  · subst e
    simp (disch := omega) only [q_470, q_up_far, q_row_row, q_row_self, q_row_ne, q_up_ne, q_up_eq, q_rowup, ud_eq, ud_ne, q_add_id, q_sub_id, q_mul_id, q_w_eq, q_rem_n, q_div_n, ↓reduceIte, leT, leF, ltT, ltF, eqT, eqF, true_or, or_true, false_or, or_false, true_and, and_true, false_and, and_false, or_self, and_self, Option.bind_some, k, c_X5_startOf, e_X5_startOf_0, e_X5_startOf_5, e_X5_startOf_20]
theorem r_isIn {sh : Int × (Int → Nat × Int)} {h : Int → Int → Int} {m a i : Int} {G A : Int → Int} {B : Int × Int × (Int → Int) × (Int → Int)} (hs : Sh sh) (m0 : 0 ≤ m) (m5 : m ≤ 5) (pr : PR h G m A) (br : BR h m B) (po : PO m A a i) : q_Cc 210 [(22, 469), (0, a)] (sh, h) = some ((0, if i < 0 then 0 else if B.2.2.1 i < 0 then 0 else 1), (sh, h)) := by
  have k := r_placeOf (sh := sh) hs m0 m5 pr po
  have hp := pr.1
  rcases po with ⟨i0, i1, -⟩ | ⟨e, -⟩
  · have b := (br.2.2 i i0 i1).1
    rw [if_neg (by omega)]
    by_cases z : B.2.2.1 i < 0 <;> simp (disch := omega) only [q_470, q_up_far, q_row_row, q_row_self, q_row_ne, q_up_ne, q_up_eq, q_rowup, ud_eq, ud_ne, q_add_id, q_sub_id, q_mul_id, q_w_eq, q_rem_n, q_div_n, ↓reduceIte, leT, leF, ltT, ltF, eqT, eqF, true_or, or_true, false_or, or_false, true_and, and_true, false_and, and_false, or_self, and_self, Option.bind_some, k, b, hp.m22, hs.k484, c_X12_isIn, e_X12_isIn_0, e_X12_isIn_5, e_X12_isIn_23, e_X12_isIn_24]
  · subst e
    simp (disch := omega) only [q_470, q_up_far, q_row_row, q_row_self, q_row_ne, q_up_ne, q_up_eq, q_rowup, ud_eq, ud_ne, q_add_id, q_sub_id, q_mul_id, q_w_eq, q_rem_n, q_div_n, ↓reduceIte, leT, leF, ltT, ltF, eqT, eqF, true_or, or_true, false_or, or_false, true_and, and_true, false_and, and_false, or_self, and_self, Option.bind_some, k, c_X12_isIn, e_X12_isIn_0, e_X12_isIn_5, e_X12_isIn_23, e_X12_isIn_24]
theorem gdI.neg {G A on fr : Int → Int} {i : Int} (g : gdI G A on fr i) (wf : WF G) : (on i < 0 ∧ on i = -1 ∧ fr i < 0 ∧ fr i = -1) ∨ (0 ≤ on i ∧ on i < G 1 ∧ G 0 ≤ fr i ∧ 0 ≤ fr i) := by
  have u0 := wf.1.hour
  have u1 := wf.1.nd
  rcases g with ⟨a, b⟩ | ⟨a, b, c, -⟩
  · left; omega
  · right
    have := frE_b wf a (by omega)
    omega
theorem st_plan (a : Int) : Step 123 211 [(0, a)] := by
  intro sh h hs ho hi
  obtain ⟨w, G, hw1, iw, ew, hG, hp, hr, wf, hh⟩ := hi.opn
  have wr := wf.1
  have u0 := wr.hour; have u1 := wr.nd; have u2 := wr.nc; have u3 := wr.na
  by_cases v1 : a = -1 ∨ (0 ≤ a ∧ a < G 3)
  · obtain ⟨h1, c1, f1, l1, b1⟩ := k_plan (sh := sh) (but := -1) hs iw wf hp hr
    have hp1 := f1.ptr hp
    have hG1 : h1 470 = G := by rw [← hG]; funext y; exact f1 470 y (by omega)
    obtain ⟨h2, r1, g1, p1, q1⟩ := r_plan (sh := sh) hs wf hp1 hG1
    have hp2 := p1.1
    have lk := lk_ok wr (-1)
    have gd1 := plB_ok (W := wtW G (lkA G (-1))) wf lk
    obtain ⟨B, eB⟩ : ∃ B, plB G (lkm G (-1)) (lkA G (-1)) (wtW G (lkA G (-1))) = B := ⟨_, rfl⟩
    rw [eB] at b1 q1 gd1
    by_cases e : a = -1
    · subst e
      refine ⟨B.1, h1, h2, ?_, ?_, hi.pq f1 g1⟩
      · simp (disch := omega) only [q_470, q_up_far, q_row_row, q_row_self, q_row_ne, q_up_ne, q_up_eq, q_rowup, ud_eq, ud_ne, q_add_id, q_sub_id, q_mul_id, q_w_eq, q_rem_n, q_div_n, ↓reduceIte, leT, leF, ltT, ltF, eqT, eqF, true_or, or_true, false_or, or_false, true_and, and_true, false_and, and_false, or_self, and_self, Option.bind_some, ew, hp.w4 iw, hp.w5 iw, hp.w6 iw, hp.w7 iw, hp.w8 iw, hp.dish iw, hp.craft iw, hp.ask iw, hp.t6, hs.rains iw, hs.dishes iw, hs.crafts iw, hs.asks iw, hs.k468, hr.hour wr, hr.nd wr, hr.nc wr, hr.na wr, c1, b1.1, hp.t3, hp1.t3, c_X11_plan, e_X11_plan_0, e_X11_plan_10, e_X11_plan_19, e_X11_plan_20, e_X11_plan_32, e_X11_plan_55]
      · simp (disch := omega) only [q_470, q_up_far, q_row_row, q_row_self, q_row_ne, q_up_ne, q_up_eq, q_rowup, ud_eq, ud_ne, q_add_id, q_sub_id, q_mul_id, q_w_eq, q_rem_n, q_div_n, ↓reduceIte, leT, leF, ltT, ltF, eqT, eqF, true_or, or_true, false_or, or_false, true_and, and_true, false_and, and_false, or_self, and_self, Option.bind_some, r1, q1.1, c_X12_plan, e_X12_plan_0, e_X12_plan_10, e_X12_plan_19, e_X12_plan_20, e_X12_plan_24, e_X12_plan_41, e_X12_plan_53, e_X12_plan_58]
    · have v2 : 0 ≤ a ∧ a < G 3 := by omega
      obtain ⟨i, po⟩ := PO_ex lk a
      have kd := k_dishOf (sh := sh) hs hp1 lk.1 lk.2.1 l1 b1 po
      have ri := r_isIn (sh := sh) hs lk.1 lk.2.1 p1 q1 po
      have rp := r_placeOf (sh := sh) hs lk.1 lk.2.1 p1 po
      by_cases zi : i < 0
      · refine ⟨-1, h1, h2, ?_, ?_, hi.pq f1 g1⟩
        · simp (disch := omega) only [q_470, q_up_far, q_row_row, q_row_self, q_row_ne, q_up_ne, q_up_eq, q_rowup, ud_eq, ud_ne, q_add_id, q_sub_id, q_mul_id, q_w_eq, q_rem_n, q_div_n, ↓reduceIte, leT, leF, ltT, ltF, eqT, eqF, true_or, or_true, false_or, or_false, true_and, and_true, false_and, and_false, or_self, and_self, Option.bind_some, ew, hp.w4 iw, hp.w5 iw, hp.w6 iw, hp.w7 iw, hp.w8 iw, hp.dish iw, hp.craft iw, hp.ask iw, hp.t6, hs.rains iw, hs.dishes iw, hs.crafts iw, hs.asks iw, hs.k468, hr.hour wr, hr.nd wr, hr.nc wr, hr.na wr, c1, kd, hp.t3, hp1.t3, k_X11_outside, c_X11_plan, e_X11_plan_0, e_X11_plan_10, e_X11_plan_19, e_X11_plan_20, e_X11_plan_32, e_X11_plan_55, c_X11_noAsking, e_X11_noAsking_0, e_X11_noAsking_14]
        · simp (disch := omega) only [q_470, q_up_far, q_row_row, q_row_self, q_row_ne, q_up_ne, q_up_eq, q_rowup, ud_eq, ud_ne, q_add_id, q_sub_id, q_mul_id, q_w_eq, q_rem_n, q_div_n, ↓reduceIte, leT, leF, ltT, ltF, eqT, eqF, true_or, or_true, false_or, or_false, true_and, and_true, false_and, and_false, or_self, and_self, Option.bind_some, r1, ri, hp1.m0, hs.k470, hG1, k_X12_in, c_X12_plan, e_X12_plan_0, e_X12_plan_10, e_X12_plan_19, e_X12_plan_20, e_X12_plan_24, e_X12_plan_41, e_X12_plan_53, e_X12_plan_58, c_X12_isAsking, e_X12_isAsking_0, e_X12_isAsking_13]
      · have po2 : 0 ≤ i ∧ i < lkm G (-1) := by
          rcases po with ⟨i0, i1, -⟩ | ⟨e, -⟩
          · exact ⟨i0, i1⟩
          · omega
        have m5 := lk.2.1
        have bo := (q1.2.2 i po2.1 po2.2).1
        rcases (gd1.1 i po2.1 po2.2).neg wf with ⟨o1, o2, -⟩ | ⟨o1, -⟩
        · refine ⟨-1, h1, h2, ?_, ?_, hi.pq f1 g1⟩
          · simp (disch := omega) only [q_470, q_up_far, q_row_row, q_row_self, q_row_ne, q_up_ne, q_up_eq, q_rowup, ud_eq, ud_ne, q_add_id, q_sub_id, q_mul_id, q_w_eq, q_rem_n, q_div_n, ↓reduceIte, leT, leF, ltT, ltF, eqT, eqF, true_or, or_true, false_or, or_false, true_and, and_true, false_and, and_false, or_self, and_self, Option.bind_some, ew, hp.w4 iw, hp.w5 iw, hp.w6 iw, hp.w7 iw, hp.w8 iw, hp.dish iw, hp.craft iw, hp.ask iw, hp.t6, hs.rains iw, hs.dishes iw, hs.crafts iw, hs.asks iw, hs.k468, hr.hour wr, hr.nd wr, hr.nc wr, hr.na wr, c1, kd, o2, hp.t3, hp1.t3, k_X11_outside, c_X11_plan, e_X11_plan_0, e_X11_plan_10, e_X11_plan_19, e_X11_plan_20, e_X11_plan_32, e_X11_plan_55, c_X11_noAsking, e_X11_noAsking_0, e_X11_noAsking_14]
          · simp (disch := omega) only [q_470, q_up_far, q_row_row, q_row_self, q_row_ne, q_up_ne, q_up_eq, q_rowup, ud_eq, ud_ne, q_add_id, q_sub_id, q_mul_id, q_w_eq, q_rem_n, q_div_n, ↓reduceIte, leT, leF, ltT, ltF, eqT, eqF, true_or, or_true, false_or, or_false, true_and, and_true, false_and, and_false, or_self, and_self, Option.bind_some, r1, ri, hp1.m0, hs.k470, hG1, k_X12_in, c_X12_plan, e_X12_plan_0, e_X12_plan_10, e_X12_plan_19, e_X12_plan_20, e_X12_plan_24, e_X12_plan_41, e_X12_plan_53, e_X12_plan_58, c_X12_isAsking, e_X12_isAsking_0, e_X12_isAsking_13]
        · refine ⟨B.2.2.1 i, h1, h2, ?_, ?_, hi.pq f1 g1⟩
          · simp (disch := omega) only [q_470, q_up_far, q_row_row, q_row_self, q_row_ne, q_up_ne, q_up_eq, q_rowup, ud_eq, ud_ne, q_add_id, q_sub_id, q_mul_id, q_w_eq, q_rem_n, q_div_n, ↓reduceIte, leT, leF, ltT, ltF, eqT, eqF, true_or, or_true, false_or, or_false, true_and, and_true, false_and, and_false, or_self, and_self, Option.bind_some, ew, hp.w4 iw, hp.w5 iw, hp.w6 iw, hp.w7 iw, hp.w8 iw, hp.dish iw, hp.craft iw, hp.ask iw, hp.t6, hs.rains iw, hs.dishes iw, hs.crafts iw, hs.asks iw, hs.k468, hr.hour wr, hr.nd wr, hr.nc wr, hr.na wr, c1, kd, hp.t3, hp1.t3, k_X11_outside, c_X11_plan, e_X11_plan_0, e_X11_plan_10, e_X11_plan_19, e_X11_plan_20, e_X11_plan_32, e_X11_plan_55, c_X11_noAsking, e_X11_noAsking_0, e_X11_noAsking_14]
          · simp (disch := omega) only [q_470, q_up_far, q_row_row, q_row_self, q_row_ne, q_up_ne, q_up_eq, q_rowup, ud_eq, ud_ne, q_add_id, q_sub_id, q_mul_id, q_w_eq, q_rem_n, q_div_n, ↓reduceIte, leT, leF, ltT, ltF, eqT, eqF, true_or, or_true, false_or, or_false, true_and, and_true, false_and, and_false, or_self, and_self, Option.bind_some, r1, ri, rp, bo, hp2.m22, hs.k484, hp1.m0, hs.k470, hG1, k_X12_in, c_X12_plan, e_X12_plan_0, e_X12_plan_10, e_X12_plan_19, e_X12_plan_20, e_X12_plan_24, e_X12_plan_41, e_X12_plan_53, e_X12_plan_58, c_X12_isAsking, e_X12_isAsking_0, e_X12_isAsking_13]
  · have v2 : ¬ (0 ≤ a ∧ a < G 3) := by omega
    refine ⟨-1000001, (q_up h 468 0 (q_add (h 468 0) 1)), q_up (q_up h 468 0 (q_add (h 468 0) 1)) 474 0 (q_add (h 474 0) 1), ?_, ?_, hi.find 0 (by decide) (by decide), fun k hk => ⟨by rw [q_up_far (by omega), q_up_far (by omega)], by rw [q_up_far (by omega)]⟩⟩
    · simp (disch := omega) only [q_470, q_up_far, q_row_row, q_row_self, q_row_ne, q_up_ne, q_up_eq, q_rowup, ud_eq, ud_ne, q_add_id, q_sub_id, q_mul_id, q_w_eq, q_rem_n, q_div_n, ↓reduceIte, leT, leF, ltT, ltF, eqT, eqF, true_or, or_true, false_or, or_false, true_and, and_true, false_and, and_false, or_self, and_self, Option.bind_some, ew, hp.w4 iw, hp.w5 iw, hp.w6 iw, hp.w7 iw, hp.w8 iw, hp.dish iw, hp.craft iw, hp.ask iw, hp.t6, hs.rains iw, hs.dishes iw, hs.crafts iw, hs.asks iw, hs.k468, hr.hour wr, hr.nd wr, hr.nc wr, hr.na wr, k_X11_outside, k_f0 hp.t6 hs.k468, c_X11_plan, e_X11_plan_0, e_X11_plan_10, e_X11_plan_19, c_X11_noAsking, e_X11_noAsking_0, e_X11_noAsking_14]
    · simp (disch := omega) only [q_470, q_up_far, q_row_row, q_row_self, q_row_ne, q_up_ne, q_up_eq, q_rowup, ud_eq, ud_ne, q_add_id, q_sub_id, q_mul_id, q_w_eq, q_rem_n, q_div_n, ↓reduceIte, leT, leF, ltT, ltF, eqT, eqF, true_or, or_true, false_or, or_false, true_and, and_true, false_and, and_false, or_self, and_self, Option.bind_some, hp.m0, hp.m6, hs.k470, hs.k474, hG, k_X12_in, k_g0 (sh := sh) (h := (q_up h 468 0 (q_add (h 468 0) 1))) (by rw [q_up_far (by decide)]; exact hp.m6) hs.k474, c_X12_plan, e_X12_plan_0, e_X12_plan_10, e_X12_plan_19, c_X12_isAsking, e_X12_isAsking_0, e_X12_isAsking_13]
theorem st_begins (a : Int) : Step 124 212 [(0, a)] := by
  intro sh h hs ho hi
  obtain ⟨w, G, hw1, iw, ew, hG, hp, hr, wf, hh⟩ := hi.opn
  have wr := wf.1
  have u0 := wr.hour; have u1 := wr.nd; have u2 := wr.nc; have u3 := wr.na
  by_cases v1 : 0 ≤ a ∧ a < G 3
  · obtain ⟨h1, c1, f1, l1, b1⟩ := k_plan (sh := sh) (but := -1) hs iw wf hp hr
    have hp1 := f1.ptr hp
    have lk := lk_ok wr (-1)
    have gd1 := plB_ok (W := wtW G (lkA G (-1))) wf lk
    obtain ⟨B, eB⟩ : ∃ B, plB G (lkm G (-1)) (lkA G (-1)) (wtW G (lkA G (-1))) = B := ⟨_, rfl⟩
    obtain ⟨i, po⟩ := PO_ex lk a
    rw [eB] at b1 gd1
    have ks := k_startOf (sh := sh) hs hp1 lk.1 lk.2.1 l1 b1 po
    have m5 := lk.2.1
    by_cases zi : 0 ≤ i ∧ 0 ≤ B.2.2.1 i
    · have hG1 : h1 470 = G := by rw [← hG]; funext y; exact f1 470 y (by omega)
      obtain ⟨h2, r1, g1, p1, q1⟩ := r_plan (sh := sh) hs wf hp1 hG1
      rw [eB] at q1
      have hp2 := p1.1
      have ri := r_isIn (sh := sh) hs lk.1 lk.2.1 p1 q1 po
      have rp := r_placeOf (sh := sh) hs lk.1 lk.2.1 p1 po
      have po2 : 0 ≤ i ∧ i < lkm G (-1) := by
        rcases po with ⟨i0, i1, -⟩ | ⟨e, -⟩
        · exact ⟨i0, i1⟩
        · omega
      have bo := (q1.2.2 i po2.1 po2.2).2
      rcases (gd1.1 i po2.1 po2.2).neg wf with ⟨o1, -⟩ | ⟨-, -, -, o1⟩
      · omega
      · refine ⟨B.2.2.2 i, h1, h2, ?_, ?_, hi.pq f1 g1⟩
        · simp (disch := omega) only [q_470, q_up_far, q_row_row, q_row_self, q_row_ne, q_up_ne, q_up_eq, q_rowup, ud_eq, ud_ne, q_add_id, q_sub_id, q_mul_id, q_w_eq, q_rem_n, q_div_n, ↓reduceIte, leT, leF, ltT, ltF, eqT, eqF, true_or, or_true, false_or, or_false, true_and, and_true, false_and, and_false, or_self, and_self, Option.bind_some, ew, hp.w4 iw, hp.w5 iw, hp.w6 iw, hp.w7 iw, hp.w8 iw, hp.dish iw, hp.craft iw, hp.ask iw, hp.t6, hs.rains iw, hs.dishes iw, hs.crafts iw, hs.asks iw, hs.k468, hr.hour wr, hr.nd wr, hr.nc wr, hr.na wr, c1, ks, hp.t3, hp1.t3, k_X11_outside, c_X11_begins, e_X11_begins_0, e_X11_begins_5, e_X11_begins_14, e_X11_begins_27, e_X11_begins_35, e_X11_begins_46, e_X11_begins_50, c_X11_noAsking, e_X11_noAsking_0, e_X11_noAsking_14]
        · simp (disch := omega) only [q_470, q_up_far, q_row_row, q_row_self, q_row_ne, q_up_ne, q_up_eq, q_rowup, ud_eq, ud_ne, q_add_id, q_sub_id, q_mul_id, q_w_eq, q_rem_n, q_div_n, ↓reduceIte, leT, leF, ltT, ltF, eqT, eqF, true_or, or_true, false_or, or_false, true_and, and_true, false_and, and_false, or_self, and_self, Option.bind_some, r1, ri, rp, bo, hp2.m23, hs.k485, hp1.m0, hs.k470, hG1, k_X12_in, c_X12_begins, e_X12_begins_0, e_X12_begins_5, e_X12_begins_14, e_X12_begins_19, e_X12_begins_24, e_X12_begins_36, e_X12_begins_46, c_X12_isAsking, e_X12_isAsking_0, e_X12_isAsking_13]
    · have hq1 := hp1.up (k := 468) (j := 3) (v := q_add (h1 468 3) 1) (by rfl)
      have hG1 : (q_up h1 468 3 (q_add (h1 468 3) 1)) 470 = G := by rw [q_up_far (by decide), ← hG]; funext y; exact f1 470 y (by omega)
      obtain ⟨h2, r1, g1, p1, q1⟩ := r_plan (sh := sh) hs wf hq1 hG1
      rw [eB] at q1
      have hp2 := p1.1
      have ri := r_isIn (sh := sh) hs lk.1 lk.2.1 p1 q1 po
      have st0 : (if i < 0 then -1 else B.2.2.2 i) = -1 := by
        by_cases z2 : i < 0
        · rw [if_pos z2]
        · rw [if_neg z2]
          have po2 : 0 ≤ i ∧ i < lkm G (-1) := by
            rcases po with ⟨i0, i1, -⟩ | ⟨e, -⟩
            · exact ⟨i0, i1⟩
            · omega
          rcases (gd1.1 i po2.1 po2.2).neg wf with ⟨-, -, -, o1⟩ | ⟨o1, -⟩
          · exact o1
          · omega
      have in0 : (if i < 0 then (0 : Int) else if B.2.2.1 i < 0 then 0 else 1) = 0 := by
        by_cases z2 : i < 0
        · rw [if_pos z2]
        · rw [if_neg z2, if_pos (by omega)]
      rw [st0] at ks
      rw [in0] at ri
      refine ⟨-1000004, q_up h1 468 3 (q_add (h1 468 3) 1), q_up h2 474 3 (q_add (h2 474 3) 1), ?_, ?_, hi.pqf 3 (by decide) (by decide) f1 g1⟩
      · simp (disch := omega) only [q_470, q_up_far, q_row_row, q_row_self, q_row_ne, q_up_ne, q_up_eq, q_rowup, ud_eq, ud_ne, q_add_id, q_sub_id, q_mul_id, q_w_eq, q_rem_n, q_div_n, ↓reduceIte, leT, leF, ltT, ltF, eqT, eqF, true_or, or_true, false_or, or_false, true_and, and_true, false_and, and_false, or_self, and_self, Option.bind_some, ew, hp.w4 iw, hp.w5 iw, hp.w6 iw, hp.w7 iw, hp.w8 iw, hp.dish iw, hp.craft iw, hp.ask iw, hp.t6, hs.rains iw, hs.dishes iw, hs.crafts iw, hs.asks iw, hs.k468, hr.hour wr, hr.nd wr, hr.nc wr, hr.na wr, c1, ks, hp.t3, hp1.t3, k_f3 hp1.t6 hs.k468, k_X11_outside, c_X11_begins, e_X11_begins_0, e_X11_begins_5, e_X11_begins_14, e_X11_begins_27, e_X11_begins_35, e_X11_begins_46, e_X11_begins_50, c_X11_noAsking, e_X11_noAsking_0, e_X11_noAsking_14]
      · have hG2 : h1 470 = G := by rw [← hG]; funext y; exact f1 470 y (by omega)
        simp (disch := omega) only [q_470, q_up_far, q_row_row, q_row_self, q_row_ne, q_up_ne, q_up_eq, q_rowup, ud_eq, ud_ne, q_add_id, q_sub_id, q_mul_id, q_w_eq, q_rem_n, q_div_n, ↓reduceIte, leT, leF, ltT, ltF, eqT, eqF, true_or, or_true, false_or, or_false, true_and, and_true, false_and, and_false, or_self, and_self, Option.bind_some, r1, ri, k_g3 hp2.m6 hs.k474, hp1.m0, hs.k470, hG1, hG2, k_X12_in, c_X12_begins, e_X12_begins_0, e_X12_begins_5, e_X12_begins_14, e_X12_begins_19, e_X12_begins_24, e_X12_begins_36, e_X12_begins_46, c_X12_isAsking, e_X12_isAsking_0, e_X12_isAsking_13]
  · refine ⟨-1000001, (q_up h 468 0 (q_add (h 468 0) 1)), q_up (q_up h 468 0 (q_add (h 468 0) 1)) 474 0 (q_add (h 474 0) 1), ?_, ?_, hi.find 0 (by decide) (by decide), fun k hk => ⟨by rw [q_up_far (by omega), q_up_far (by omega)], by rw [q_up_far (by omega)]⟩⟩
    · simp (disch := omega) only [q_470, q_up_far, q_row_row, q_row_self, q_row_ne, q_up_ne, q_up_eq, q_rowup, ud_eq, ud_ne, q_add_id, q_sub_id, q_mul_id, q_w_eq, q_rem_n, q_div_n, ↓reduceIte, leT, leF, ltT, ltF, eqT, eqF, true_or, or_true, false_or, or_false, true_and, and_true, false_and, and_false, or_self, and_self, Option.bind_some, ew, hp.w4 iw, hp.w5 iw, hp.w6 iw, hp.w7 iw, hp.w8 iw, hp.dish iw, hp.craft iw, hp.ask iw, hp.t6, hs.rains iw, hs.dishes iw, hs.crafts iw, hs.asks iw, hs.k468, hr.hour wr, hr.nd wr, hr.nc wr, hr.na wr, k_X11_outside, k_f0 hp.t6 hs.k468, c_X11_begins, e_X11_begins_0, e_X11_begins_5, e_X11_begins_14, c_X11_noAsking, e_X11_noAsking_0, e_X11_noAsking_14]
    · simp (disch := omega) only [q_470, q_up_far, q_row_row, q_row_self, q_row_ne, q_up_ne, q_up_eq, q_rowup, ud_eq, ud_ne, q_add_id, q_sub_id, q_mul_id, q_w_eq, q_rem_n, q_div_n, ↓reduceIte, leT, leF, ltT, ltF, eqT, eqF, true_or, or_true, false_or, or_false, true_and, and_true, false_and, and_false, or_self, and_self, Option.bind_some, hp.m0, hp.m6, hs.k470, hs.k474, hG, k_X12_in, k_g0 (sh := sh) (h := (q_up h 468 0 (q_add (h 468 0) 1))) (by rw [q_up_far (by decide)]; exact hp.m6) hs.k474, c_X12_begins, e_X12_begins_0, e_X12_begins_5, e_X12_begins_14, c_X12_isAsking, e_X12_isAsking_0, e_X12_isAsking_13]
theorem st_without (a : Int) : Step 125 213 [(0, a)] := by
  intro sh h hs ho hi
  obtain ⟨w, G, hw1, iw, ew, hG, hp, hr, wf, hh⟩ := hi.opn
  have wr := wf.1
  have u0 := wr.hour; have u1 := wr.nd; have u2 := wr.nc; have u3 := wr.na
  by_cases v1 : 0 ≤ a ∧ a < G 3
  · by_cases v2 : G (480 + a) = 0
    · obtain ⟨h1, c1, f1, l1, b1⟩ := k_plan (sh := sh) (but := a) hs iw wf hp hr
      have hp1 := f1.ptr hp
      have hG1 : h1 470 = G := by rw [← hG]; funext y; exact f1 470 y (by omega)
      have lk := lk_ok wr a
      obtain ⟨h2, r1, g1, p1⟩ := r_lookW (sh := sh) (but := a) hs wf hp1 hG1
      obtain ⟨h3, r2, g2, q1⟩ := r_plans (sh := sh) hs wf lk p1
      refine ⟨(plB G (lkm G a) (lkA G a) (wtW G (lkA G a))).1, h1, h3, ?_, ?_, hi.pq f1 (g1.trans g2.fq)⟩
      · simp (disch := omega) only [q_470, q_up_far, q_row_row, q_row_self, q_row_ne, q_up_ne, q_up_eq, q_rowup, ud_eq, ud_ne, q_add_id, q_sub_id, q_mul_id, q_w_eq, q_rem_n, q_div_n, ↓reduceIte, leT, leF, ltT, ltF, eqT, eqF, true_or, or_true, false_or, or_false, true_and, and_true, false_and, and_false, or_self, and_self, Option.bind_some, ew, hp.w4 iw, hp.w5 iw, hp.w6 iw, hp.w7 iw, hp.w8 iw, hp.dish iw, hp.craft iw, hp.ask iw, hp.t6, hs.rains iw, hs.dishes iw, hs.crafts iw, hs.asks iw, hs.k468, hr.hour wr, hr.nd wr, hr.nc wr, hr.na wr, c1, b1.1, v2, hr.astate wr, hp.t3, hp1.t3, k_X11_outside, c_X11_without, e_X11_without_0, e_X11_without_5, e_X11_without_14, e_X11_without_36, e_X11_without_49, c_X11_noAsking, e_X11_noAsking_0, e_X11_noAsking_14]
      · simp (disch := omega) only [q_470, q_up_far, q_row_row, q_row_self, q_row_ne, q_up_ne, q_up_eq, q_rowup, ud_eq, ud_ne, q_add_id, q_sub_id, q_mul_id, q_w_eq, q_rem_n, q_div_n, ↓reduceIte, leT, leF, ltT, ltF, eqT, eqF, true_or, or_true, false_or, or_false, true_and, and_true, false_and, and_false, or_self, and_self, Option.bind_some, r1, r2, q1.1, v2, hp1.m0, hs.k470, hG1, k_X12_in, c_X12_without, e_X12_without_0, e_X12_without_5, e_X12_without_14, e_X12_without_34, e_X12_without_40, e_X12_without_44, c_X12_isAsking, e_X12_isAsking_0, e_X12_isAsking_13]
    · refine ⟨-1000005, (q_up h 468 4 (q_add (h 468 4) 1)), q_up (q_up h 468 4 (q_add (h 468 4) 1)) 474 4 (q_add (h 474 4) 1), ?_, ?_, hi.find 4 (by decide) (by decide), fun k hk => ⟨by rw [q_up_far (by omega), q_up_far (by omega)], by rw [q_up_far (by omega)]⟩⟩
      · simp (disch := omega) only [q_470, q_up_far, q_row_row, q_row_self, q_row_ne, q_up_ne, q_up_eq, q_rowup, ud_eq, ud_ne, q_add_id, q_sub_id, q_mul_id, q_w_eq, q_rem_n, q_div_n, ↓reduceIte, leT, leF, ltT, ltF, eqT, eqF, true_or, or_true, false_or, or_false, true_and, and_true, false_and, and_false, or_self, and_self, Option.bind_some, ew, hp.w4 iw, hp.w5 iw, hp.w6 iw, hp.w7 iw, hp.w8 iw, hp.dish iw, hp.craft iw, hp.ask iw, hp.t6, hs.rains iw, hs.dishes iw, hs.crafts iw, hs.asks iw, hs.k468, hr.hour wr, hr.nd wr, hr.nc wr, hr.na wr, k_X11_outside, k_f4 hp.t6 hs.k468, hr.astate wr, c_X11_without, e_X11_without_0, e_X11_without_5, e_X11_without_36, c_X11_noAsking, e_X11_noAsking_0, e_X11_noAsking_14]
      · simp (disch := omega) only [q_470, q_up_far, q_row_row, q_row_self, q_row_ne, q_up_ne, q_up_eq, q_rowup, ud_eq, ud_ne, q_add_id, q_sub_id, q_mul_id, q_w_eq, q_rem_n, q_div_n, ↓reduceIte, leT, leF, ltT, ltF, eqT, eqF, true_or, or_true, false_or, or_false, true_and, and_true, false_and, and_false, or_self, and_self, Option.bind_some, hp.m0, hp.m6, hs.k470, hs.k474, hG, k_X12_in, k_g4 (sh := sh) (h := (q_up h 468 4 (q_add (h 468 4) 1))) (by rw [q_up_far (by decide)]; exact hp.m6) hs.k474, c_X12_without, e_X12_without_0, e_X12_without_5, e_X12_without_34, c_X12_isAsking, e_X12_isAsking_0, e_X12_isAsking_13]
  · refine ⟨-1000001, (q_up h 468 0 (q_add (h 468 0) 1)), q_up (q_up h 468 0 (q_add (h 468 0) 1)) 474 0 (q_add (h 474 0) 1), ?_, ?_, hi.find 0 (by decide) (by decide), fun k hk => ⟨by rw [q_up_far (by omega), q_up_far (by omega)], by rw [q_up_far (by omega)]⟩⟩
    · simp (disch := omega) only [q_470, q_up_far, q_row_row, q_row_self, q_row_ne, q_up_ne, q_up_eq, q_rowup, ud_eq, ud_ne, q_add_id, q_sub_id, q_mul_id, q_w_eq, q_rem_n, q_div_n, ↓reduceIte, leT, leF, ltT, ltF, eqT, eqF, true_or, or_true, false_or, or_false, true_and, and_true, false_and, and_false, or_self, and_self, Option.bind_some, ew, hp.w4 iw, hp.w5 iw, hp.w6 iw, hp.w7 iw, hp.w8 iw, hp.dish iw, hp.craft iw, hp.ask iw, hp.t6, hs.rains iw, hs.dishes iw, hs.crafts iw, hs.asks iw, hs.k468, hr.hour wr, hr.nd wr, hr.nc wr, hr.na wr, k_X11_outside, k_f0 hp.t6 hs.k468, c_X11_without, e_X11_without_0, e_X11_without_5, e_X11_without_14, c_X11_noAsking, e_X11_noAsking_0, e_X11_noAsking_14]
    · simp (disch := omega) only [q_470, q_up_far, q_row_row, q_row_self, q_row_ne, q_up_ne, q_up_eq, q_rowup, ud_eq, ud_ne, q_add_id, q_sub_id, q_mul_id, q_w_eq, q_rem_n, q_div_n, ↓reduceIte, leT, leF, ltT, ltF, eqT, eqF, true_or, or_true, false_or, or_false, true_and, and_true, false_and, and_false, or_self, and_self, Option.bind_some, hp.m0, hp.m6, hs.k470, hs.k474, hG, k_X12_in, k_g0 (sh := sh) (h := (q_up h 468 0 (q_add (h 468 0) 1))) (by rw [q_up_far (by decide)]; exact hp.m6) hs.k474, c_X12_without, e_X12_without_0, e_X12_without_5, e_X12_without_14, c_X12_isAsking, e_X12_isAsking_0, e_X12_isAsking_13]
