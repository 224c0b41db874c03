/-! tape, sheets, status -/
theorem Inv.tape {h h2 : Int → Int → Int} (hi : Inv h) (hp : Ptr h2) (hf : ∀ k j, ¬ Scr k j → k ≠ 453 → k ≠ 473 → ¬ (k = 452 ∧ j = 1) → ¬ (k = 469 ∧ j = 5) → h2 k j = h k j) (ht : InvT h2) : Inv h2 := by
  obtain ⟨_, hr, hw, hh, iI, iT, iF, iS, iL⟩ := hi
  have fr : ∀ k, (k < 295 ∨ 459 ≤ k) → k ≠ 469 → k ≠ 473 → k ≠ 472 → k ≠ 478 → k ≠ 479 → (k < 481 ∨ 487 < k) → h2 k = h k := by
    intro k a1 a2 a3 a4 a5 a6 a7
    funext j
    exact hf k j (by unfold Scr; omega) (by omega) (by omega) (by omega) (by omega)
  have e3 : h2 469 3 = h 469 3 := hf 469 3 (by unfold Scr; omega) (by omega) (by omega) (by omega) (by omega)
  refine ⟨hp, ?_, ?_, ?_, ?_, ht, ?_, ?_, ?_⟩
  · rw [fr 470 (by omega) (by omega) (by omega) (by omega) (by omega) (by omega) (by omega)]
    exact hr.frame hw.1 (fun k k0 k1 => fr k (by omega) (by omega) (by omega) (by omega) (by omega) (by omega) (by omega))
  · rw [fr 470 (by omega) (by omega) (by omega) (by omega) (by omega) (by omega) (by omega)]; exact hw
  · rw [fr 470 (by omega) (by omega) (by omega) (by omega) (by omega) (by omega) (by omega)]; exact hh
  · unfold InvI
    rw [fr 0 (by omega) (by omega) (by omega) (by omega) (by omega) (by omega) (by omega), e3, fr 471 (by omega) (by omega) (by omega) (by omega) (by omega) (by omega) (by omega)]
    refine ⟨iI.1, ?_⟩
    rcases iI.2 with z | ⟨z, r, wf, zh⟩
    · exact Or.inl z
    · exact Or.inr ⟨z, r.frame wf.1 (fun k k0 k1 => fr k (by omega) (by omega) (by omega) (by omega) (by omega) (by omega) (by omega)), wf, zh⟩
  · intro j j0 j7
    rw [fr 468 (by omega) (by omega) (by omega) (by omega) (by omega) (by omega) (by omega), fr 474 (by omega) (by omega) (by omega) (by omega) (by omega) (by omega) (by omega)]
    exact iF j j0 j7
  · intro s s0 s1
    rw [fr (460 + 2 * s) (by omega) (by omega) (by omega) (by omega) (by omega) (by omega) (by omega), fr (461 + 2 * s) (by omega) (by omega) (by omega) (by omega) (by omega) (by omega) (by omega), fr 475 (by omega) (by omega) (by omega) (by omega) (by omega) (by omega) (by omega), fr 476 (by omega) (by omega) (by omega) (by omega) (by omega) (by omega) (by omega), fr 477 (by omega) (by omega) (by omega) (by omega) (by omega) (by omega) (by omega)]
    exact iS s s0 s1
  · intro j j0 j1
    rw [fr 480 (by omega) (by omega) (by omega) (by omega) (by omega) (by omega) (by omega)]
    exact iL j j0 j1
theorem Inv.sheets {h h2 : Int → Int → Int} (hi : Inv h) (hp : Ptr h2) (hf : ∀ k j, ¬ Scr k j → (k < 460 ∨ 468 ≤ k) → (k < 475 ∨ 477 < k) → h2 k j = h k j) (hS : InvS h2) : Inv h2 := by
  obtain ⟨_, hr, hw, hh, iI, iT, iF, iS, iL⟩ := hi
  have fr : ∀ k, (k < 295 ∨ 468 ≤ k ∨ k = 453) → k ≠ 469 → k ≠ 472 → (k < 475 ∨ 480 = k ∨ 487 < k) → h2 k = h k := by
    intro k a1 a2 a3 a4
    funext j
    exact hf k j (by unfold Scr; omega) (by omega) (by omega)
  have e3 : h2 469 3 = h 469 3 := hf 469 3 (by unfold Scr; omega) (by omega) (by omega)
  have e5 : h2 469 5 = h 469 5 := hf 469 5 (by unfold Scr; omega) (by omega) (by omega)
  have e1 : h2 452 1 = h 452 1 := hf 452 1 (by unfold Scr; omega) (by omega) (by omega)
  refine ⟨hp, ?_, ?_, ?_, ?_, ?_, ?_, hS, ?_⟩
  · rw [fr 470 (by omega) (by omega) (by omega) (by omega)]
    exact hr.frame hw.1 (fun k k0 k1 => fr k (by omega) (by omega) (by omega) (by omega))
  · rw [fr 470 (by omega) (by omega) (by omega) (by omega)]; exact hw
  · rw [fr 470 (by omega) (by omega) (by omega) (by omega)]; exact hh
  · unfold InvI
    rw [fr 0 (by omega) (by omega) (by omega) (by omega), e3, fr 471 (by omega) (by omega) (by omega) (by omega)]
    refine ⟨iI.1, ?_⟩
    rcases iI.2 with z | ⟨z, r, wf, zh⟩
    · exact Or.inl z
    · exact Or.inr ⟨z, r.frame wf.1 (fun k k0 k1 => fr k (by omega) (by omega) (by omega) (by omega)), wf, zh⟩
  · unfold InvT
    rw [e1, e5, fr 453 (by omega) (by omega) (by omega) (by omega), fr 473 (by omega) (by omega) (by omega) (by omega)]
    exact iT
  · intro j j0 j7
    rw [fr 468 (by omega) (by omega) (by omega) (by omega), fr 474 (by omega) (by omega) (by omega) (by omega)]
    exact iF j j0 j7
  · intro j j0 j1
    rw [fr 480 (by omega) (by omega) (by omega) (by omega)]
    exact iL j j0 j1
theorem VP_452 {j : Int} (hj : j ≠ 0) (h2 : j ≠ 2) : VP0 452 j = none := by
  unfold VP0
  rw [if_neg (by omega), if_neg (by omega), if_neg (by omega), if_pos rfl, if_neg hj, if_neg h2]
theorem VP_453 {j : Int} : VP0 453 j = none := rfl
theorem VP_m {j : Int} (hj : j = 3 ∨ j = 5 ∨ (11 ≤ j ∧ j ≤ 15) ∨ j = 18 ∨ j = 24 ∨ j = 25) : VP0 469 j = none := by
  rcases hj with rfl | rfl | hj | rfl | rfl | rfl
  · rfl
  · rfl
  · have : j = 11 ∨ j = 12 ∨ j = 13 ∨ j = 14 ∨ j = 15 := by omega
    rcases this with rfl | rfl | rfl | rfl | rfl <;> rfl
  · rfl
  · rfl
  · rfl
theorem st_wipe : Step 118 185 [] := by
  intro sh h hs ho hi
  obtain ⟨w, G, hw1, iw, ew, hG, hp, hr, wf, hh⟩ := hi.opn
  have wr := wf.1
  have u0 := wr.hour; have u1 := wr.nd; have u2 := wr.nc; have u3 := wr.na
  obtain ⟨t1, t2, t3, t4⟩ := hi.2.2.2.2.2.1
  refine ⟨h 452 1, q_up h 452 1 0, q_up (q_up h 452 1 0) 469 5 0, ?_, ?_, hi.tape ?_ ?_ ?_, ?_⟩
  · simp (disch := omega) only [q_470, q_up_far, q_row_row, q_row_self, q_row_ne, q_up_ne, q_up_eq, q_rowup, ud_eq, ud_ne, q_add_id, q_sub_id, q_mul_id, q_w_eq, q_rem_n, q_div_n, ↓reduceIte, leT, leF, ltT, ltF, eqT, eqF, true_or, or_true, false_or, or_false, true_and, and_true, false_and, and_false, or_self, and_self, Option.bind_some, ew, hp.w4 iw, hp.w5 iw, hp.w6 iw, hp.w7 iw, hp.w8 iw, hp.dish iw, hp.craft iw, hp.ask iw, hp.t6, hs.rains iw, hs.dishes iw, hs.crafts iw, hs.asks iw, hs.k468, hr.hour wr, hr.nd wr, hr.nc wr, hr.na wr, hp.t4, c_X11_wipe, e_X11_wipe_0, e_X11_wipe_7, c_X9_clear, e_X9_clear_0]
  · simp (disch := omega) only [q_470, q_up_far, q_row_row, q_row_self, q_row_ne, q_up_ne, q_up_eq, q_rowup, ud_eq, ud_ne, q_add_id, q_sub_id, q_mul_id, q_w_eq, q_rem_n, q_div_n, ↓reduceIte, leT, leF, ltT, ltF, eqT, eqF, true_or, or_true, false_or, or_false, true_and, and_true, false_and, and_false, or_self, and_self, Option.bind_some, hp.m0, hp.m6, hs.k470, hs.k474, hG, t1, c_X12_wipe, e_X12_wipe_0]
  · exact (hp.up (VP_452 (by decide) (by decide))).up (VP_m (by omega))
  · intro k j h1 h2 h3 h4 h5
    rw [q_up_ne (by omega), q_up_ne (by omega)]
  · refine ⟨?_, ?_, ?_, ?_⟩
    · simp (disch := omega) only [q_470, q_up_far, q_row_row, q_row_self, q_row_ne, q_up_ne, q_up_eq, q_rowup, ud_eq, ud_ne, q_add_id, q_sub_id, q_mul_id, q_w_eq, q_rem_n, q_div_n, ↓reduceIte, leT, leF, ltT, ltF, eqT, eqF, true_or, or_true, false_or, or_false, true_and, and_true, false_and, and_false, or_self, and_self, Option.bind_some, ]
    · simp (disch := omega) only [q_470, q_up_far, q_row_row, q_row_self, q_row_ne, q_up_ne, q_up_eq, q_rowup, ud_eq, ud_ne, q_add_id, q_sub_id, q_mul_id, q_w_eq, q_rem_n, q_div_n, ↓reduceIte, leT, leF, ltT, ltF, eqT, eqF, true_or, or_true, false_or, or_false, true_and, and_true, false_and, and_false, or_self, and_self, Option.bind_some, ]
    · simp (disch := omega) only [q_470, q_up_far, q_row_row, q_row_self, q_row_ne, q_up_ne, q_up_eq, q_rowup, ud_eq, ud_ne, q_add_id, q_sub_id, q_mul_id, q_w_eq, q_rem_n, q_div_n, ↓reduceIte, leT, leF, ltT, ltF, eqT, eqF, true_or, or_true, false_or, or_false, true_and, and_true, false_and, and_false, or_self, and_self, Option.bind_some, ]
    · intro i i0 i1
      rw [show q_up (q_up h 452 1 0) 469 5 0 452 1 = 0 from by simp (disch := omega) only [q_470, q_up_far, q_row_row, q_row_self, q_row_ne, q_up_ne, q_up_eq, q_rowup, ud_eq, ud_ne, q_add_id, q_sub_id, q_mul_id, q_w_eq, q_rem_n, q_div_n, ↓reduceIte, leT, leF, ltT, ltF, eqT, eqF, true_or, or_true, false_or, or_false, true_and, and_true, false_and, and_false, or_self, and_self, Option.bind_some, ]] at i1
      omega
  · intro k hk; constructor <;> simp (disch := omega) only [q_470, q_up_far, q_row_row, q_row_self, q_row_ne, q_up_ne, q_up_eq, q_rowup, ud_eq, ud_ne, q_add_id, q_sub_id, q_mul_id, q_w_eq, q_rem_n, q_div_n, ↓reduceIte, leT, leF, ltT, ltF, eqT, eqF, true_or, or_true, false_or, or_false, true_and, and_true, false_and, and_false, or_self, and_self, Option.bind_some, ]
theorem and255 (x : Int) : 0 ≤ q_and x 255 ∧ q_and x 255 ≤ 255 := by
  unfold q_and
  have e1 : (Int32.ofInt 255).toBitVec = 255#32 := rfl
  show 0 ≤ (Int32.toBitVec _).toInt ∧ (Int32.toBitVec _).toInt ≤ 255
  rw [Int32.toBitVec_and, e1]
  have h1 : ((Int32.ofInt x).toBitVec &&& 255#32).toNat ≤ 255 := by
    rw [BitVec.toNat_and]
    exact Nat.and_le_right
  rw [BitVec.toInt_eq_toNat_of_lt (by omega)]
  omega
theorem st_feed (b n : Int) : Step 117 184 [(0, b), (0, n)] := by
  intro sh h hs ho hi
  obtain ⟨w, G, hw1, iw, ew, hG, hp, hr, wf, hh⟩ := hi.opn
  have wr := wf.1
  have u0 := wr.hour; have u1 := wr.nd; have u2 := wr.nc; have u3 := wr.na
  obtain ⟨t1, t2, t3, t4⟩ := hi.2.2.2.2.2.1
  obtain ⟨T, eT⟩ : ∃ T, h 452 1 = T := ⟨_, rfl⟩
  rw [eT] at t1 t2 t3 t4
  by_cases v1 : 1 ≤ n ∧ n ≤ 4
  · by_cases v2 : T + n ≤ 110
    · have key : ∀ (F : Int → Int) (hc h2 : Int → Int → Int), q_Cc 117 [(21, 0), (0, b), (0, n)] (sh, h) = some ((0, T + n), (sh, hc)) → q_Cc 184 [(22, 469), (0, b), (0, n)] (sh, hc) = some ((0, T + n), (sh, h2)) → Ptr h2 → (∀ k j, k ≠ 453 → k ≠ 473 → ¬ (k = 452 ∧ j = 1) → ¬ (k = 469 ∧ j = 5) → h2 k j = h k j) → h2 452 1 = T + n → h2 469 5 = T + n → (∀ i, 0 ≤ i → i < T → h2 453 i = h 453 i ∧ h2 473 i = h 473 i) → (∀ i, T ≤ i → i < T + n → h2 453 i = q_and (F i) 255 ∧ h2 473 i = q_and (F i) 255) → (∀ k, k < 0 → hc k = h k) → ∃ v h1 h2, q_Cc 117 [(21, 0), (0, b), (0, n)] (sh, h) = some ((0, v), (sh, h1)) ∧ q_Cc 184 [(22, 469), (0, b), (0, n)] (sh, h1) = some ((0, v), (sh, h2)) ∧ Inv h2 ∧ ∀ k, k < 0 → h2 k = h k ∧ h1 k = h k := by
        intro F hc h2 r1 r2 p2 f2 l1 l2 o1 o2 lo
        refine ⟨T + n, hc, h2, r1, r2, hi.tape p2 (fun k j _ a b c d => f2 k j a b c d) ?_, ?_⟩
        · refine ⟨by rw [l1, l2], by omega, by omega, ?_⟩
          intro i i0 i1
          by_cases e : i < T
          · obtain ⟨x1, x2⟩ := o1 i i0 e
            rw [x1, x2]; exact t4 i i0 e
          · obtain ⟨x1, x2⟩ := o2 i (by omega) (by omega)
            rw [x1, x2]
            exact ⟨rfl, and255 _⟩
        · intro k hk
          refine ⟨?_, lo k hk⟩
          funext j
          exact f2 k j (by omega) (by omega) (by omega) (by omega)
      have : n = 1 ∨ n = 2 ∨ n = 3 ∨ n = 4 := by omega
      rcases this with rfl | rfl | rfl | rfl
      · refine key (fun i => q_shr b (8 * (T + 1 - 1 - i))) (q_up (q_up (h) 453 (T) (q_and (q_shr b 0) 255)) 452 1 (T + 1)) (q_up (q_up (q_up (q_up (h) 453 (T) (q_and (q_shr b 0) 255)) 452 1 (T + 1)) 473 (T) (q_and (q_shr b 0) 255)) 469 5 (T + 1)) ?_ ?_ ?_ ?_ ?_ ?_ ?_ ?_ (fun k hk => by simp (disch := omega) only [q_470, q_up_far, q_row_row, q_row_self, q_row_ne, q_up_ne, q_up_eq, q_rowup, ud_eq, ud_ne, q_add_id, q_sub_id, q_mul_id, q_w_eq, q_rem_n, q_div_n, ↓reduceIte, leT, leF, ltT, ltF, eqT, eqF, true_or, or_true, false_or, or_false, true_and, and_true, false_and, and_false, or_self, and_self, Option.bind_some, ])
        · have e9 : T + 1 = T + 1 := by omega
          simp (disch := omega) only [q_470, q_up_far, q_row_row, q_row_self, q_row_ne, q_up_ne, q_up_eq, q_rowup, ud_eq, ud_ne, q_add_id, q_sub_id, q_mul_id, q_w_eq, q_rem_n, q_div_n, ↓reduceIte, leT, leF, ltT, ltF, eqT, eqF, true_or, or_true, false_or, or_false, true_and, and_true, false_and, and_false, or_self, and_self, Option.bind_some, ew, hp.w4 iw, hp.w5 iw, hp.w6 iw, hp.w7 iw, hp.w8 iw, hp.dish iw, hp.craft iw, hp.ask iw, hp.t6, hs.rains iw, hs.dishes iw, hs.crafts iw, hs.asks iw, hs.k468, hr.hour wr, hr.nd wr, hr.nc wr, hr.na wr, hp.t4, hp.tx0, hs.k453, eT, k_X11_outside, c_X11_feed, e_X11_feed_0, e_X11_feed_6, e_X11_feed_15, e_X11_feed_36, e_X11_feed_46, c_X9_append, e_X9_append_0, e_X9_append_4, Int.reduceMul, Int.reduceSub, Int.reduceAdd, Int.reduceNeg, e9]
        · have e9 : T + 1 = T + 1 := by omega
          simp (disch := omega) only [q_470, q_up_far, q_row_row, q_row_self, q_row_ne, q_up_ne, q_up_eq, q_rowup, ud_eq, ud_ne, q_add_id, q_sub_id, q_mul_id, q_w_eq, q_rem_n, q_div_n, ↓reduceIte, leT, leF, ltT, ltF, eqT, eqF, true_or, or_true, false_or, or_false, true_and, and_true, false_and, and_false, or_self, and_self, Option.bind_some, hp.m0, hp.m6, hs.k470, hs.k474, hG, t1.symm, hp.m4, hs.k473, eT, k_X12_in, c_X12_feed, e_X12_feed_0, e_X12_feed_6, e_X12_feed_15, e_X12_feed_33, e_X12_feed_38, Int.reduceMul, Int.reduceSub, Int.reduceAdd, Int.reduceNeg, e9]
        · exact ((((hp).up VP_453).up (VP_452 (by decide) (by decide))).up (VP_ref (by decide))).up (VP_m (by omega))
        · intro k j a1 a2 a3 a4
          simp (disch := omega) only [q_470, q_up_far, q_row_row, q_row_self, q_row_ne, q_up_ne, q_up_eq, q_rowup, ud_eq, ud_ne, q_add_id, q_sub_id, q_mul_id, q_w_eq, q_rem_n, q_div_n, ↓reduceIte, leT, leF, ltT, ltF, eqT, eqF, true_or, or_true, false_or, or_false, true_and, and_true, false_and, and_false, or_self, and_self, Option.bind_some, ]
        · have e9 : T + 1 = T + 1 := by omega
          simp (disch := omega) only [q_470, q_up_far, q_row_row, q_row_self, q_row_ne, q_up_ne, q_up_eq, q_rowup, ud_eq, ud_ne, q_add_id, q_sub_id, q_mul_id, q_w_eq, q_rem_n, q_div_n, ↓reduceIte, leT, leF, ltT, ltF, eqT, eqF, true_or, or_true, false_or, or_false, true_and, and_true, false_and, and_false, or_self, and_self, Option.bind_some, e9]
        · have e9 : T + 1 = T + 1 := by omega
          simp (disch := omega) only [q_470, q_up_far, q_row_row, q_row_self, q_row_ne, q_up_ne, q_up_eq, q_rowup, ud_eq, ud_ne, q_add_id, q_sub_id, q_mul_id, q_w_eq, q_rem_n, q_div_n, ↓reduceIte, leT, leF, ltT, ltF, eqT, eqF, true_or, or_true, false_or, or_false, true_and, and_true, false_and, and_false, or_self, and_self, Option.bind_some, e9]
        · intro i i0 i1
          simp (disch := omega) only [q_470, q_up_far, q_row_row, q_row_self, q_row_ne, q_up_ne, q_up_eq, q_rowup, ud_eq, ud_ne, q_add_id, q_sub_id, q_mul_id, q_w_eq, q_rem_n, q_div_n, ↓reduceIte, leT, leF, ltT, ltF, eqT, eqF, true_or, or_true, false_or, or_false, true_and, and_true, false_and, and_false, or_self, and_self, Option.bind_some, ]
        · intro i i0 i1
          have : i = T := by omega
          subst this
          have e0 : 8 * (i + 1 - 1 - (i)) = 0 := by omega
          simp (disch := omega) only [q_470, q_up_far, q_row_row, q_row_self, q_row_ne, q_up_ne, q_up_eq, q_rowup, ud_eq, ud_ne, q_add_id, q_sub_id, q_mul_id, q_w_eq, q_rem_n, q_div_n, ↓reduceIte, leT, leF, ltT, ltF, eqT, eqF, true_or, or_true, false_or, or_false, true_and, and_true, false_and, and_false, or_self, and_self, Option.bind_some, e0]
      · refine key (fun i => q_shr b (8 * (T + 2 - 1 - i))) (q_up (q_up (q_up (q_up (h) 453 (T) (q_and (q_shr b 8) 255)) 452 1 (T + 1)) 453 (T + 1) (q_and (q_shr b 0) 255)) 452 1 (T + 1 + 1)) (q_up (q_up (q_up (q_up (q_up (q_up (q_up (q_up (h) 453 (T) (q_and (q_shr b 8) 255)) 452 1 (T + 1)) 453 (T + 1) (q_and (q_shr b 0) 255)) 452 1 (T + 1 + 1)) 473 (T) (q_and (q_shr b 8) 255)) 469 5 (T + 1)) 473 (T + 1) (q_and (q_shr b 0) 255)) 469 5 (T + 1 + 1)) ?_ ?_ ?_ ?_ ?_ ?_ ?_ ?_ (fun k hk => by simp (disch := omega) only [q_470, q_up_far, q_row_row, q_row_self, q_row_ne, q_up_ne, q_up_eq, q_rowup, ud_eq, ud_ne, q_add_id, q_sub_id, q_mul_id, q_w_eq, q_rem_n, q_div_n, ↓reduceIte, leT, leF, ltT, ltF, eqT, eqF, true_or, or_true, false_or, or_false, true_and, and_true, false_and, and_false, or_self, and_self, Option.bind_some, ])
        · have e9 : T + 1 + 1 = T + 2 := by omega
          simp (disch := omega) only [q_470, q_up_far, q_row_row, q_row_self, q_row_ne, q_up_ne, q_up_eq, q_rowup, ud_eq, ud_ne, q_add_id, q_sub_id, q_mul_id, q_w_eq, q_rem_n, q_div_n, ↓reduceIte, leT, leF, ltT, ltF, eqT, eqF, true_or, or_true, false_or, or_false, true_and, and_true, false_and, and_false, or_self, and_self, Option.bind_some, ew, hp.w4 iw, hp.w5 iw, hp.w6 iw, hp.w7 iw, hp.w8 iw, hp.dish iw, hp.craft iw, hp.ask iw, hp.t6, hs.rains iw, hs.dishes iw, hs.crafts iw, hs.asks iw, hs.k468, hr.hour wr, hr.nd wr, hr.nc wr, hr.na wr, hp.t4, hp.tx0, hs.k453, eT, k_X11_outside, c_X11_feed, e_X11_feed_0, e_X11_feed_6, e_X11_feed_15, e_X11_feed_36, e_X11_feed_46, c_X9_append, e_X9_append_0, e_X9_append_4, Int.reduceMul, Int.reduceSub, Int.reduceAdd, Int.reduceNeg, e9]
        · have e9 : T + 1 + 1 = T + 2 := by omega
          simp (disch := omega) only [q_470, q_up_far, q_row_row, q_row_self, q_row_ne, q_up_ne, q_up_eq, q_rowup, ud_eq, ud_ne, q_add_id, q_sub_id, q_mul_id, q_w_eq, q_rem_n, q_div_n, ↓reduceIte, leT, leF, ltT, ltF, eqT, eqF, true_or, or_true, false_or, or_false, true_and, and_true, false_and, and_false, or_self, and_self, Option.bind_some, hp.m0, hp.m6, hs.k470, hs.k474, hG, t1.symm, hp.m4, hs.k473, eT, k_X12_in, c_X12_feed, e_X12_feed_0, e_X12_feed_6, e_X12_feed_15, e_X12_feed_33, e_X12_feed_38, Int.reduceMul, Int.reduceSub, Int.reduceAdd, Int.reduceNeg, e9]
        · exact ((((((((hp).up VP_453).up (VP_452 (by decide) (by decide))).up VP_453).up (VP_452 (by decide) (by decide))).up (VP_ref (by decide))).up (VP_m (by omega))).up (VP_ref (by decide))).up (VP_m (by omega))
        · intro k j a1 a2 a3 a4
          simp (disch := omega) only [q_470, q_up_far, q_row_row, q_row_self, q_row_ne, q_up_ne, q_up_eq, q_rowup, ud_eq, ud_ne, q_add_id, q_sub_id, q_mul_id, q_w_eq, q_rem_n, q_div_n, ↓reduceIte, leT, leF, ltT, ltF, eqT, eqF, true_or, or_true, false_or, or_false, true_and, and_true, false_and, and_false, or_self, and_self, Option.bind_some, ]
        · have e9 : T + 1 + 1 = T + 2 := by omega
          simp (disch := omega) only [q_470, q_up_far, q_row_row, q_row_self, q_row_ne, q_up_ne, q_up_eq, q_rowup, ud_eq, ud_ne, q_add_id, q_sub_id, q_mul_id, q_w_eq, q_rem_n, q_div_n, ↓reduceIte, leT, leF, ltT, ltF, eqT, eqF, true_or, or_true, false_or, or_false, true_and, and_true, false_and, and_false, or_self, and_self, Option.bind_some, e9]
        · have e9 : T + 1 + 1 = T + 2 := by omega
          simp (disch := omega) only [q_470, q_up_far, q_row_row, q_row_self, q_row_ne, q_up_ne, q_up_eq, q_rowup, ud_eq, ud_ne, q_add_id, q_sub_id, q_mul_id, q_w_eq, q_rem_n, q_div_n, ↓reduceIte, leT, leF, ltT, ltF, eqT, eqF, true_or, or_true, false_or, or_false, true_and, and_true, false_and, and_false, or_self, and_self, Option.bind_some, e9]
        · intro i i0 i1
          simp (disch := omega) only [q_470, q_up_far, q_row_row, q_row_self, q_row_ne, q_up_ne, q_up_eq, q_rowup, ud_eq, ud_ne, q_add_id, q_sub_id, q_mul_id, q_w_eq, q_rem_n, q_div_n, ↓reduceIte, leT, leF, ltT, ltF, eqT, eqF, true_or, or_true, false_or, or_false, true_and, and_true, false_and, and_false, or_self, and_self, Option.bind_some, ]
        · intro i i0 i1
          have : i = T ∨ i = T + 1 := by omega
          rcases this with rfl | rfl
          · have e0 : 8 * (i + 2 - 1 - (i)) = 8 := by omega
            simp (disch := omega) only [q_470, q_up_far, q_row_row, q_row_self, q_row_ne, q_up_ne, q_up_eq, q_rowup, ud_eq, ud_ne, q_add_id, q_sub_id, q_mul_id, q_w_eq, q_rem_n, q_div_n, ↓reduceIte, leT, leF, ltT, ltF, eqT, eqF, true_or, or_true, false_or, or_false, true_and, and_true, false_and, and_false, or_self, and_self, Option.bind_some, e0]
          · have e0 : 8 * (T + 2 - 1 - (T + 1)) = 0 := by omega
            simp (disch := omega) only [q_470, q_up_far, q_row_row, q_row_self, q_row_ne, q_up_ne, q_up_eq, q_rowup, ud_eq, ud_ne, q_add_id, q_sub_id, q_mul_id, q_w_eq, q_rem_n, q_div_n, ↓reduceIte, leT, leF, ltT, ltF, eqT, eqF, true_or, or_true, false_or, or_false, true_and, and_true, false_and, and_false, or_self, and_self, Option.bind_some, e0]
      · refine key (fun i => q_shr b (8 * (T + 3 - 1 - i))) (q_up (q_up (q_up (q_up (q_up (q_up (h) 453 (T) (q_and (q_shr b 16) 255)) 452 1 (T + 1)) 453 (T + 1) (q_and (q_shr b 8) 255)) 452 1 (T + 1 + 1)) 453 (T + 1 + 1) (q_and (q_shr b 0) 255)) 452 1 (T + 1 + 1 + 1)) (q_up (q_up (q_up (q_up (q_up (q_up (q_up (q_up (q_up (q_up (q_up (q_up (h) 453 (T) (q_and (q_shr b 16) 255)) 452 1 (T + 1)) 453 (T + 1) (q_and (q_shr b 8) 255)) 452 1 (T + 1 + 1)) 453 (T + 1 + 1) (q_and (q_shr b 0) 255)) 452 1 (T + 1 + 1 + 1)) 473 (T) (q_and (q_shr b 16) 255)) 469 5 (T + 1)) 473 (T + 1) (q_and (q_shr b 8) 255)) 469 5 (T + 1 + 1)) 473 (T + 1 + 1) (q_and (q_shr b 0) 255)) 469 5 (T + 1 + 1 + 1)) ?_ ?_ ?_ ?_ ?_ ?_ ?_ ?_ (fun k hk => by simp (disch := omega) only [q_470, q_up_far, q_row_row, q_row_self, q_row_ne, q_up_ne, q_up_eq, q_rowup, ud_eq, ud_ne, q_add_id, q_sub_id, q_mul_id, q_w_eq, q_rem_n, q_div_n, ↓reduceIte, leT, leF, ltT, ltF, eqT, eqF, true_or, or_true, false_or, or_false, true_and, and_true, false_and, and_false, or_self, and_self, Option.bind_some, ])
        · have e9 : T + 1 + 1 + 1 = T + 3 := by omega
          simp (disch := omega) only [q_470, q_up_far, q_row_row, q_row_self, q_row_ne, q_up_ne, q_up_eq, q_rowup, ud_eq, ud_ne, q_add_id, q_sub_id, q_mul_id, q_w_eq, q_rem_n, q_div_n, ↓reduceIte, leT, leF, ltT, ltF, eqT, eqF, true_or, or_true, false_or, or_false, true_and, and_true, false_and, and_false, or_self, and_self, Option.bind_some, ew, hp.w4 iw, hp.w5 iw, hp.w6 iw, hp.w7 iw, hp.w8 iw, hp.dish iw, hp.craft iw, hp.ask iw, hp.t6, hs.rains iw, hs.dishes iw, hs.crafts iw, hs.asks iw, hs.k468, hr.hour wr, hr.nd wr, hr.nc wr, hr.na wr, hp.t4, hp.tx0, hs.k453, eT, k_X11_outside, c_X11_feed, e_X11_feed_0, e_X11_feed_6, e_X11_feed_15, e_X11_feed_36, e_X11_feed_46, c_X9_append, e_X9_append_0, e_X9_append_4, Int.reduceMul, Int.reduceSub, Int.reduceAdd, Int.reduceNeg, e9]
        · have e9 : T + 1 + 1 + 1 = T + 3 := by omega
          simp (disch := omega) only [q_470, q_up_far, q_row_row, q_row_self, q_row_ne, q_up_ne, q_up_eq, q_rowup, ud_eq, ud_ne, q_add_id, q_sub_id, q_mul_id, q_w_eq, q_rem_n, q_div_n, ↓reduceIte, leT, leF, ltT, ltF, eqT, eqF, true_or, or_true, false_or, or_false, true_and, and_true, false_and, and_false, or_self, and_self, Option.bind_some, hp.m0, hp.m6, hs.k470, hs.k474, hG, t1.symm, hp.m4, hs.k473, eT, k_X12_in, c_X12_feed, e_X12_feed_0, e_X12_feed_6, e_X12_feed_15, e_X12_feed_33, e_X12_feed_38, Int.reduceMul, Int.reduceSub, Int.reduceAdd, Int.reduceNeg, e9]
        · exact ((((((((((((hp).up VP_453).up (VP_452 (by decide) (by decide))).up VP_453).up (VP_452 (by decide) (by decide))).up VP_453).up (VP_452 (by decide) (by decide))).up (VP_ref (by decide))).up (VP_m (by omega))).up (VP_ref (by decide))).up (VP_m (by omega))).up (VP_ref (by decide))).up (VP_m (by omega))
        · intro k j a1 a2 a3 a4
          simp (disch := omega) only [q_470, q_up_far, q_row_row, q_row_self, q_row_ne, q_up_ne, q_up_eq, q_rowup, ud_eq, ud_ne, q_add_id, q_sub_id, q_mul_id, q_w_eq, q_rem_n, q_div_n, ↓reduceIte, leT, leF, ltT, ltF, eqT, eqF, true_or, or_true, false_or, or_false, true_and, and_true, false_and, and_false, or_self, and_self, Option.bind_some, ]
        · have e9 : T + 1 + 1 + 1 = T + 3 := by omega
          simp (disch := omega) only [q_470, q_up_far, q_row_row, q_row_self, q_row_ne, q_up_ne, q_up_eq, q_rowup, ud_eq, ud_ne, q_add_id, q_sub_id, q_mul_id, q_w_eq, q_rem_n, q_div_n, ↓reduceIte, leT, leF, ltT, ltF, eqT, eqF, true_or, or_true, false_or, or_false, true_and, and_true, false_and, and_false, or_self, and_self, Option.bind_some, e9]
        · have e9 : T + 1 + 1 + 1 = T + 3 := by omega
          simp (disch := omega) only [q_470, q_up_far, q_row_row, q_row_self, q_row_ne, q_up_ne, q_up_eq, q_rowup, ud_eq, ud_ne, q_add_id, q_sub_id, q_mul_id, q_w_eq, q_rem_n, q_div_n, ↓reduceIte, leT, leF, ltT, ltF, eqT, eqF, true_or, or_true, false_or, or_false, true_and, and_true, false_and, and_false, or_self, and_self, Option.bind_some, e9]
        · intro i i0 i1
          simp (disch := omega) only [q_470, q_up_far, q_row_row, q_row_self, q_row_ne, q_up_ne, q_up_eq, q_rowup, ud_eq, ud_ne, q_add_id, q_sub_id, q_mul_id, q_w_eq, q_rem_n, q_div_n, ↓reduceIte, leT, leF, ltT, ltF, eqT, eqF, true_or, or_true, false_or, or_false, true_and, and_true, false_and, and_false, or_self, and_self, Option.bind_some, ]
        · intro i i0 i1
          have : i = T ∨ i = T + 1 ∨ i = T + 1 + 1 := by omega
          rcases this with rfl | rfl | rfl
          · have e0 : 8 * (i + 3 - 1 - (i)) = 16 := by omega
            simp (disch := omega) only [q_470, q_up_far, q_row_row, q_row_self, q_row_ne, q_up_ne, q_up_eq, q_rowup, ud_eq, ud_ne, q_add_id, q_sub_id, q_mul_id, q_w_eq, q_rem_n, q_div_n, ↓reduceIte, leT, leF, ltT, ltF, eqT, eqF, true_or, or_true, false_or, or_false, true_and, and_true, false_and, and_false, or_self, and_self, Option.bind_some, e0]
          · have e0 : 8 * (T + 3 - 1 - (T + 1)) = 8 := by omega
            simp (disch := omega) only [q_470, q_up_far, q_row_row, q_row_self, q_row_ne, q_up_ne, q_up_eq, q_rowup, ud_eq, ud_ne, q_add_id, q_sub_id, q_mul_id, q_w_eq, q_rem_n, q_div_n, ↓reduceIte, leT, leF, ltT, ltF, eqT, eqF, true_or, or_true, false_or, or_false, true_and, and_true, false_and, and_false, or_self, and_self, Option.bind_some, e0]
          · have e0 : 8 * (T + 3 - 1 - (T + 1 + 1)) = 0 := by omega
            simp (disch := omega) only [q_470, q_up_far, q_row_row, q_row_self, q_row_ne, q_up_ne, q_up_eq, q_rowup, ud_eq, ud_ne, q_add_id, q_sub_id, q_mul_id, q_w_eq, q_rem_n, q_div_n, ↓reduceIte, leT, leF, ltT, ltF, eqT, eqF, true_or, or_true, false_or, or_false, true_and, and_true, false_and, and_false, or_self, and_self, Option.bind_some, e0]
      · refine key (fun i => q_shr b (8 * (T + 4 - 1 - i))) (q_up (q_up (q_up (q_up (q_up (q_up (q_up (q_up (h) 453 (T) (q_and (q_shr b 24) 255)) 452 1 (T + 1)) 453 (T + 1) (q_and (q_shr b 16) 255)) 452 1 (T + 1 + 1)) 453 (T + 1 + 1) (q_and (q_shr b 8) 255)) 452 1 (T + 1 + 1 + 1)) 453 (T + 1 + 1 + 1) (q_and (q_shr b 0) 255)) 452 1 (T + 1 + 1 + 1 + 1)) (q_up (q_up (q_up (q_up (q_up (q_up (q_up (q_up (q_up (q_up (q_up (q_up (q_up (q_up (q_up (q_up (h) 453 (T) (q_and (q_shr b 24) 255)) 452 1 (T + 1)) 453 (T + 1) (q_and (q_shr b 16) 255)) 452 1 (T + 1 + 1)) 453 (T + 1 + 1) (q_and (q_shr b 8) 255)) 452 1 (T + 1 + 1 + 1)) 453 (T + 1 + 1 + 1) (q_and (q_shr b 0) 255)) 452 1 (T + 1 + 1 + 1 + 1)) 473 (T) (q_and (q_shr b 24) 255)) 469 5 (T + 1)) 473 (T + 1) (q_and (q_shr b 16) 255)) 469 5 (T + 1 + 1)) 473 (T + 1 + 1) (q_and (q_shr b 8) 255)) 469 5 (T + 1 + 1 + 1)) 473 (T + 1 + 1 + 1) (q_and (q_shr b 0) 255)) 469 5 (T + 1 + 1 + 1 + 1)) ?_ ?_ ?_ ?_ ?_ ?_ ?_ ?_ (fun k hk => by simp (disch := omega) only [q_470, q_up_far, q_row_row, q_row_self, q_row_ne, q_up_ne, q_up_eq, q_rowup, ud_eq, ud_ne, q_add_id, q_sub_id, q_mul_id, q_w_eq, q_rem_n, q_div_n, ↓reduceIte, leT, leF, ltT, ltF, eqT, eqF, true_or, or_true, false_or, or_false, true_and, and_true, false_and, and_false, or_self, and_self, Option.bind_some, ])
        · have e9 : T + 1 + 1 + 1 + 1 = T + 4 := by omega
          simp (disch := omega) only [q_470, q_up_far, q_row_row, q_row_self, q_row_ne, q_up_ne, q_up_eq, q_rowup, ud_eq, ud_ne, q_add_id, q_sub_id, q_mul_id, q_w_eq, q_rem_n, q_div_n, ↓reduceIte, leT, leF, ltT, ltF, eqT, eqF, true_or, or_true, false_or, or_false, true_and, and_true, false_and, and_false, or_self, and_self, Option.bind_some, ew, hp.w4 iw, hp.w5 iw, hp.w6 iw, hp.w7 iw, hp.w8 iw, hp.dish iw, hp.craft iw, hp.ask iw, hp.t6, hs.rains iw, hs.dishes iw, hs.crafts iw, hs.asks iw, hs.k468, hr.hour wr, hr.nd wr, hr.nc wr, hr.na wr, hp.t4, hp.tx0, hs.k453, eT, k_X11_outside, c_X11_feed, e_X11_feed_0, e_X11_feed_6, e_X11_feed_15, e_X11_feed_36, e_X11_feed_46, c_X9_append, e_X9_append_0, e_X9_append_4, Int.reduceMul, Int.reduceSub, Int.reduceAdd, Int.reduceNeg, e9]
        · have e9 : T + 1 + 1 + 1 + 1 = T + 4 := by omega
          simp (disch := omega) only [q_470, q_up_far, q_row_row, q_row_self, q_row_ne, q_up_ne, q_up_eq, q_rowup, ud_eq, ud_ne, q_add_id, q_sub_id, q_mul_id, q_w_eq, q_rem_n, q_div_n, ↓reduceIte, leT, leF, ltT, ltF, eqT, eqF, true_or, or_true, false_or, or_false, true_and, and_true, false_and, and_false, or_self, and_self, Option.bind_some, hp.m0, hp.m6, hs.k470, hs.k474, hG, t1.symm, hp.m4, hs.k473, eT, k_X12_in, c_X12_feed, e_X12_feed_0, e_X12_feed_6, e_X12_feed_15, e_X12_feed_33, e_X12_feed_38, Int.reduceMul, Int.reduceSub, Int.reduceAdd, Int.reduceNeg, e9]
        · exact ((((((((((((((((hp).up VP_453).up (VP_452 (by decide) (by decide))).up VP_453).up (VP_452 (by decide) (by decide))).up VP_453).up (VP_452 (by decide) (by decide))).up VP_453).up (VP_452 (by decide) (by decide))).up (VP_ref (by decide))).up (VP_m (by omega))).up (VP_ref (by decide))).up (VP_m (by omega))).up (VP_ref (by decide))).up (VP_m (by omega))).up (VP_ref (by decide))).up (VP_m (by omega))
        · intro k j a1 a2 a3 a4
          simp (disch := omega) only [q_470, q_up_far, q_row_row, q_row_self, q_row_ne, q_up_ne, q_up_eq, q_rowup, ud_eq, ud_ne, q_add_id, q_sub_id, q_mul_id, q_w_eq, q_rem_n, q_div_n, ↓reduceIte, leT, leF, ltT, ltF, eqT, eqF, true_or, or_true, false_or, or_false, true_and, and_true, false_and, and_false, or_self, and_self, Option.bind_some, ]
        · have e9 : T + 1 + 1 + 1 + 1 = T + 4 := by omega
          simp (disch := omega) only [q_470, q_up_far, q_row_row, q_row_self, q_row_ne, q_up_ne, q_up_eq, q_rowup, ud_eq, ud_ne, q_add_id, q_sub_id, q_mul_id, q_w_eq, q_rem_n, q_div_n, ↓reduceIte, leT, leF, ltT, ltF, eqT, eqF, true_or, or_true, false_or, or_false, true_and, and_true, false_and, and_false, or_self, and_self, Option.bind_some, e9]
        · have e9 : T + 1 + 1 + 1 + 1 = T + 4 := by omega
          simp (disch := omega) only [q_470, q_up_far, q_row_row, q_row_self, q_row_ne, q_up_ne, q_up_eq, q_rowup, ud_eq, ud_ne, q_add_id, q_sub_id, q_mul_id, q_w_eq, q_rem_n, q_div_n, ↓reduceIte, leT, leF, ltT, ltF, eqT, eqF, true_or, or_true, false_or, or_false, true_and, and_true, false_and, and_false, or_self, and_self, Option.bind_some, e9]
        · intro i i0 i1
          simp (disch := omega) only [q_470, q_up_far, q_row_row, q_row_self, q_row_ne, q_up_ne, q_up_eq, q_rowup, ud_eq, ud_ne, q_add_id, q_sub_id, q_mul_id, q_w_eq, q_rem_n, q_div_n, ↓reduceIte, leT, leF, ltT, ltF, eqT, eqF, true_or, or_true, false_or, or_false, true_and, and_true, false_and, and_false, or_self, and_self, Option.bind_some, ]
        · intro i i0 i1
          have : i = T ∨ i = T + 1 ∨ i = T + 1 + 1 ∨ i = T + 1 + 1 + 1 := by omega
          rcases this with rfl | rfl | rfl | rfl
          · have e0 : 8 * (i + 4 - 1 - (i)) = 24 := by omega
            simp (disch := omega) only [q_470, q_up_far, q_row_row, q_row_self, q_row_ne, q_up_ne, q_up_eq, q_rowup, ud_eq, ud_ne, q_add_id, q_sub_id, q_mul_id, q_w_eq, q_rem_n, q_div_n, ↓reduceIte, leT, leF, ltT, ltF, eqT, eqF, true_or, or_true, false_or, or_false, true_and, and_true, false_and, and_false, or_self, and_self, Option.bind_some, e0]
          · have e0 : 8 * (T + 4 - 1 - (T + 1)) = 16 := by omega
            simp (disch := omega) only [q_470, q_up_far, q_row_row, q_row_self, q_row_ne, q_up_ne, q_up_eq, q_rowup, ud_eq, ud_ne, q_add_id, q_sub_id, q_mul_id, q_w_eq, q_rem_n, q_div_n, ↓reduceIte, leT, leF, ltT, ltF, eqT, eqF, true_or, or_true, false_or, or_false, true_and, and_true, false_and, and_false, or_self, and_self, Option.bind_some, e0]
          · have e0 : 8 * (T + 4 - 1 - (T + 1 + 1)) = 8 := by omega
            simp (disch := omega) only [q_470, q_up_far, q_row_row, q_row_self, q_row_ne, q_up_ne, q_up_eq, q_rowup, ud_eq, ud_ne, q_add_id, q_sub_id, q_mul_id, q_w_eq, q_rem_n, q_div_n, ↓reduceIte, leT, leF, ltT, ltF, eqT, eqF, true_or, or_true, false_or, or_false, true_and, and_true, false_and, and_false, or_self, and_self, Option.bind_some, e0]
          · have e0 : 8 * (T + 4 - 1 - (T + 1 + 1 + 1)) = 0 := by omega
            simp (disch := omega) only [q_470, q_up_far, q_row_row, q_row_self, q_row_ne, q_up_ne, q_up_eq, q_rowup, ud_eq, ud_ne, q_add_id, q_sub_id, q_mul_id, q_w_eq, q_rem_n, q_div_n, ↓reduceIte, leT, leF, ltT, ltF, eqT, eqF, true_or, or_true, false_or, or_false, true_and, and_true, false_and, and_false, or_self, and_self, Option.bind_some, e0]
    · refine ⟨-1000002, (q_up h 468 1 (q_add (h 468 1) 1)), q_up (q_up h 468 1 (q_add (h 468 1) 1)) 474 1 (q_add (h 474 1) 1), ?_, ?_, hi.find 1 (by decide) (by decide), fun k hk => ⟨by rw [q_up_far (by omega), q_up_far (by omega)], by rw [q_up_far (by omega)]⟩⟩
      · simp (disch := omega) only [q_470, q_up_far, q_row_row, q_row_self, q_row_ne, q_up_ne, q_up_eq, q_rowup, ud_eq, ud_ne, q_add_id, q_sub_id, q_mul_id, q_w_eq, q_rem_n, q_div_n, ↓reduceIte, leT, leF, ltT, ltF, eqT, eqF, true_or, or_true, false_or, or_false, true_and, and_true, false_and, and_false, or_self, and_self, Option.bind_some, ew, hp.w4 iw, hp.w5 iw, hp.w6 iw, hp.w7 iw, hp.w8 iw, hp.dish iw, hp.craft iw, hp.ask iw, hp.t6, hs.rains iw, hs.dishes iw, hs.crafts iw, hs.asks iw, hs.k468, hr.hour wr, hr.nd wr, hr.nc wr, hr.na wr, k_X11_outside, k_f1 hp.t6 hs.k468, hp.t4, eT, c_X11_feed, e_X11_feed_0, e_X11_feed_6, e_X11_feed_15, e_X11_feed_36, e_X11_feed_46]
      · simp (disch := omega) only [q_470, q_up_far, q_row_row, q_row_self, q_row_ne, q_up_ne, q_up_eq, q_rowup, ud_eq, ud_ne, q_add_id, q_sub_id, q_mul_id, q_w_eq, q_rem_n, q_div_n, ↓reduceIte, leT, leF, ltT, ltF, eqT, eqF, true_or, or_true, false_or, or_false, true_and, and_true, false_and, and_false, or_self, and_self, Option.bind_some, hp.m0, hp.m6, hs.k470, hs.k474, hG, k_X12_in, k_g1 (sh := sh) (h := (q_up h 468 1 (q_add (h 468 1) 1))) (by rw [q_up_far (by decide)]; exact hp.m6) hs.k474, t1.symm, c_X12_feed, e_X12_feed_0, e_X12_feed_6, e_X12_feed_15, e_X12_feed_33, e_X12_feed_38]
  · refine ⟨-1000001, (q_up h 468 0 (q_add (h 468 0) 1)), q_up (q_up h 468 0 (q_add (h 468 0) 1)) 474 0 (q_add (h 474 0) 1), ?_, ?_, hi.find 0 (by decide) (by decide), fun k hk => ⟨by rw [q_up_far (by omega), q_up_far (by omega)], by rw [q_up_far (by omega)]⟩⟩
    · simp (disch := omega) only [q_470, q_up_far, q_row_row, q_row_self, q_row_ne, q_up_ne, q_up_eq, q_rowup, ud_eq, ud_ne, q_add_id, q_sub_id, q_mul_id, q_w_eq, q_rem_n, q_div_n, ↓reduceIte, leT, leF, ltT, ltF, eqT, eqF, true_or, or_true, false_or, or_false, true_and, and_true, false_and, and_false, or_self, and_self, Option.bind_some, ew, hp.w4 iw, hp.w5 iw, hp.w6 iw, hp.w7 iw, hp.w8 iw, hp.dish iw, hp.craft iw, hp.ask iw, hp.t6, hs.rains iw, hs.dishes iw, hs.crafts iw, hs.asks iw, hs.k468, hr.hour wr, hr.nd wr, hr.nc wr, hr.na wr, k_X11_outside, k_f0 hp.t6 hs.k468, c_X11_feed, e_X11_feed_0, e_X11_feed_6, e_X11_feed_15, e_X11_feed_36, e_X11_feed_46]
    · simp (disch := omega) only [q_470, q_up_far, q_row_row, q_row_self, q_row_ne, q_up_ne, q_up_eq, q_rowup, ud_eq, ud_ne, q_add_id, q_sub_id, q_mul_id, q_w_eq, q_rem_n, q_div_n, ↓reduceIte, leT, leF, ltT, ltF, eqT, eqF, true_or, or_true, false_or, or_false, true_and, and_true, false_and, and_false, or_self, and_self, Option.bind_some, hp.m0, hp.m6, hs.k470, hs.k474, hG, k_X12_in, k_g0 (sh := sh) (h := (q_up h 468 0 (q_add (h 468 0) 1))) (by rw [q_up_far (by decide)]; exact hp.m6) hs.k474, c_X12_feed, e_X12_feed_0, e_X12_feed_6, e_X12_feed_15, e_X12_feed_33, e_X12_feed_38]
