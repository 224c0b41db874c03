theorem sh8 (v : Int) : q_shr (q_shl v 24) 24 = q_i2b v := by
  unfold q_shr q_shl q_i2b
  rw [Int32.ofInt_toInt]
  refine congrArg Int32.toInt ?_
  apply Int32.toBitVec_inj.mp
  rw [Int32.toBitVec_shiftRight, Int32.toBitVec_shiftLeft]
  have e1 : (Int32.ofInt 24 &&& 31).toBitVec.smod 32 = 24#32 := by decide
  rw [e1]
  have e2 : ((Int32.ofInt v).toInt8.toInt32).toBitVec = ((Int32.ofInt v).toBitVec.setWidth 8).signExtend 32 := by
    generalize Int32.ofInt v = y
    rw [Int8.toBitVec_toInt32, Int32.toBitVec_toInt8]
    rw [BitVec.signExtend_eq_setWidth_of_le y.toBitVec (v := 8) (by decide)]
  rw [e2]
  generalize (Int32.ofInt v).toBitVec = x
  apply BitVec.eq_of_getLsbD_eq
  intro i hi
  rw [BitVec.sshiftRight_eq', BitVec.shiftLeft_eq', BitVec.getLsbD_sshiftRight, BitVec.getLsbD_signExtend]
  have e3 : (24#32).toNat = 24 := rfl
  rw [e3]
  by_cases h8 : i < 8
  · have h1 : 24 + i < 32 := by omega
    have h2 : ¬ 32 ≤ i := by omega
    simp [h8, h1, h2, hi]
  · have h1 : ¬ 24 + i < 32 := by omega
    have h2 : ¬ 32 ≤ i := by omega
    simp [h8, h1, h2, hi, BitVec.msb_eq_getLsbD_last]
theorem sh16 (v : Int) : q_shr (q_shl v 16) 16 = q_i2s v := by
  unfold q_shr q_shl q_i2s
  rw [Int32.ofInt_toInt]
  refine congrArg Int32.toInt ?_
  apply Int32.toBitVec_inj.mp
  rw [Int32.toBitVec_shiftRight, Int32.toBitVec_shiftLeft]
  have e1 : (Int32.ofInt 16 &&& 31).toBitVec.smod 32 = 16#32 := by decide
  rw [e1]
  have e2 : ((Int32.ofInt v).toInt16.toInt32).toBitVec = ((Int32.ofInt v).toBitVec.setWidth 16).signExtend 32 := by
    generalize Int32.ofInt v = y
    rw [Int16.toBitVec_toInt32, Int32.toBitVec_toInt16]
    rw [BitVec.signExtend_eq_setWidth_of_le y.toBitVec (v := 16) (by decide)]
  rw [e2]
  generalize (Int32.ofInt v).toBitVec = x
  apply BitVec.eq_of_getLsbD_eq
  intro i hi
  rw [BitVec.sshiftRight_eq', BitVec.shiftLeft_eq', BitVec.getLsbD_sshiftRight, BitVec.getLsbD_signExtend]
  have e3 : (16#32).toNat = 16 := rfl
  rw [e3]
  by_cases h8 : i < 16
  · have h1 : 16 + i < 32 := by omega
    have h2 : ¬ 32 ≤ i := by omega
    simp [h8, h1, h2, hi]
  · have h1 : ¬ 16 + i < 32 := by omega
    have h2 : ¬ 32 ≤ i := by omega
    simp [h8, h1, h2, hi, BitVec.msb_eq_getLsbD_last]
theorem sh32z {v : Int} (hv : q_i32 v) : q_shr (q_shl v 0) 0 = v := by
  unfold q_shr q_shl
  rw [Int32.ofInt_toInt]
  have e0 : Int32.ofInt 0 &&& 31 = 0 := by decide
  rw [e0]
  have e1 : ((Int32.ofInt v <<< (0 : Int32)) >>> (0 : Int32)) = Int32.ofInt v := by
    apply Int32.toBitVec_inj.mp
    rw [Int32.toBitVec_shiftRight, Int32.toBitVec_shiftLeft]
    have e1 : (0 : Int32).toBitVec.smod 32 = 0#32 := by decide
    rw [e1]
    simp
  rw [e1]
  exact q_ti hv
theorem VP_sheet {s j : Int} (s0 : 0 ≤ s) (s1 : s < 4) (hj : j < 2) : VP0 (460 + 2 * s) j = none := by
  have : s = 0 ∨ s = 1 ∨ s = 2 ∨ s = 3 := by omega
  unfold VP0
  rw [if_neg (by omega), if_neg (by omega), if_neg (by omega), if_neg (by omega), if_neg (by omega), if_neg (by omega), if_pos (by omega), if_neg (by omega)]
theorem VP_nums {s j : Int} (s0 : 0 ≤ s) (s1 : s < 4) : VP0 (461 + 2 * s) j = none := by
  unfold VP0
  rw [if_neg (by omega), if_neg (by omega), if_neg (by omega), if_neg (by omega), if_neg (by omega), if_neg (by omega), if_neg (by omega), if_neg (by omega)]
theorem st_write (s i v : Int) (hv : q_i32 v) : Step 146 248 [(0, s), (0, i), (0, v)] := by
  intro sh h hs ho hi
  obtain ⟨w, G, hw1, iw, ew, hG, hp, hr, wf, hh⟩ := hi.opn
  have wr := wf.1
  have u0 := wr.hour; have u1 := wr.nd; have u2 := wr.nc; have u3 := wr.na
  by_cases v1 : 0 ≤ s ∧ s < 4
  · obtain ⟨s1, s2, s3, s4, s5, s6⟩ := hi.2.2.2.2.2.2.2.1 s (by omega) (by omega)
    by_cases v2 : h 475 s = 0
    · refine ⟨-1000006, (q_up h 468 5 (q_add (h 468 5) 1)), q_up (q_up h 468 5 (q_add (h 468 5) 1)) 474 5 (q_add (h 474 5) 1), ?_, ?_, hi.find 5 (by decide) (by decide), fun k hk => ⟨by rw [q_up_far (by omega), q_up_far (by omega)], by rw [q_up_far (by omega)]⟩⟩
      · simp (disch := omega) only [q_470, q_up_far, q_row_row, q_row_self, q_row_ne, q_up_ne, q_up_eq, q_rowup, ud_eq, ud_ne, q_add_id, q_sub_id, q_mul_id, q_w_eq, q_rem_n, q_div_n, ↓reduceIte, leT, leF, ltT, ltF, eqT, eqF, true_or, or_true, false_or, or_false, true_and, and_true, false_and, and_false, or_self, and_self, Option.bind_some, ew, hp.w4 iw, hp.w5 iw, hp.w6 iw, hp.w7 iw, hp.w8 iw, hp.dish iw, hp.craft iw, hp.ask iw, hp.t6, hs.rains iw, hs.dishes iw, hs.crafts iw, hs.asks iw, hs.k468, hr.hour wr, hr.nd wr, hr.nc wr, hr.na wr, k_X11_outside, k_f5 hp.t6 hs.k468, s1, v2, hp.t5, hp.sheet, hs.k459, c_X11_write, e_X11_write_0, e_X11_write_4, e_X11_write_13, e_X11_write_27, e_X11_write_37, e_X11_write_50, e_X11_write_59, e_X11_write_67, c_X11_noSheet, e_X11_noSheet_0, e_X11_noSheet_6, c_X7_isMissing, e_X7_isMissing_0, e_X7_isMissing_12]
      · simp (disch := omega) only [q_470, q_up_far, q_row_row, q_row_self, q_row_ne, q_up_ne, q_up_eq, q_rowup, ud_eq, ud_ne, q_add_id, q_sub_id, q_mul_id, q_w_eq, q_rem_n, q_div_n, ↓reduceIte, leT, leF, ltT, ltF, eqT, eqF, true_or, or_true, false_or, or_false, true_and, and_true, false_and, and_false, or_self, and_self, Option.bind_some, hp.m0, hp.m6, hs.k470, hs.k474, hG, k_X12_in, k_g5 (sh := sh) (h := (q_up h 468 5 (q_add (h 468 5) 1))) (by rw [q_up_far (by decide)]; exact hp.m6) hs.k474, v2, hp.m7, hs.k475, c_X12_write, e_X12_write_0, e_X12_write_4, e_X12_write_13, e_X12_write_29, e_X12_write_43, e_X12_write_52, e_X12_write_96, c_X12_isSheet, e_X12_isSheet_0, e_X12_isSheet_6]
    · by_cases v3 : 0 ≤ i ∧ i < h 476 s
      · have key : ∀ x, q_shr (q_shl v (32 - h 475 s)) (32 - h 475 s) = x → (∀ hc, (∀ k, 469 ≤ k → hc k = h k) → q_Cc 248 [(22, 469), (0, s), (0, i), (0, v)] (sh, hc) = some ((0, 1), (sh, q_up hc 477 (24 * s + i) x))) → ∃ v' h1 h2, q_Cc 146 [(21, 0), (0, s), (0, i), (0, v)] (sh, h) = some ((0, v'), (sh, h1)) ∧ q_Cc 248 [(22, 469), (0, s), (0, i), (0, v)] (sh, h1) = some ((0, v'), (sh, h2)) ∧ Inv h2 ∧ ∀ k, k < 0 → h2 k = h k ∧ h1 k = h k := by
          intro x ex hrf
          refine ⟨1, q_up h (461 + 2 * s) i x, q_up (q_up h (461 + 2 * s) i x) 477 (24 * s + i) x, ?_, hrf _ (fun k hk => q_up_far (by omega)), hi.sheets ?_ ?_ ?_, ?_⟩
          · simp (disch := omega) only [q_470, q_up_far, q_row_row, q_row_self, q_row_ne, q_up_ne, q_up_eq, q_rowup, ud_eq, ud_ne, q_add_id, q_sub_id, q_mul_id, q_w_eq, q_rem_n, q_div_n, ↓reduceIte, leT, leF, ltT, ltF, eqT, eqF, true_or, or_true, false_or, or_false, true_and, and_true, false_and, and_false, or_self, and_self, Option.bind_some, ew, hp.w4 iw, hp.w5 iw, hp.w6 iw, hp.w7 iw, hp.w8 iw, hp.dish iw, hp.craft iw, hp.ask iw, hp.t6, hs.rains iw, hs.dishes iw, hs.crafts iw, hs.asks iw, hs.k468, hr.hour wr, hr.nd wr, hr.nc wr, hr.na wr, s1, s2, ex, hp.t5, hp.sheet, hp.nums, hs.k459, hs.nums, k_X11_outside, c_X11_write, e_X11_write_0, e_X11_write_4, e_X11_write_13, e_X11_write_27, e_X11_write_37, e_X11_write_50, e_X11_write_59, e_X11_write_67, c_X11_noSheet, e_X11_noSheet_0, e_X11_noSheet_6, c_X7_isMissing, e_X7_isMissing_0, e_X7_isMissing_12, c_X7_set, e_X7_set_0]
          · exact (hp.up (VP_nums (by omega) (by omega))).up (VP_ref (by decide))
          · intro k j _ h1 h2
            simp (disch := omega) only [q_470, q_up_far, q_row_row, q_row_self, q_row_ne, q_up_ne, q_up_eq, q_rowup, ud_eq, ud_ne, q_add_id, q_sub_id, q_mul_id, q_w_eq, q_rem_n, q_div_n, ↓reduceIte, leT, leF, ltT, ltF, eqT, eqF, true_or, or_true, false_or, or_false, true_and, and_true, false_and, and_false, or_self, and_self, Option.bind_some, ]
          · intro t t0 t1
            obtain ⟨q1, q2, q3, q4, q5, q6⟩ := hi.2.2.2.2.2.2.2.1 t t0 t1
            have f0 : q_up (q_up h (461 + 2 * s) i x) 477 (24 * s + i) x (460 + 2 * t) = h (460 + 2 * t) := by rw [q_up_far (by omega), q_up_far (by omega)]
            have f1 : q_up (q_up h (461 + 2 * s) i x) 477 (24 * s + i) x 475 = h 475 := by rw [q_up_far (by omega), q_up_far (by omega)]
            have f2 : q_up (q_up h (461 + 2 * s) i x) 477 (24 * s + i) x 476 = h 476 := by rw [q_up_far (by omega), q_up_far (by omega)]
            rw [f0, f1, f2]
            refine ⟨q1, q2, q3, q4, q5, ?_⟩
            intro y y0 y1
            have q7 := q6 y y0 y1
            by_cases e : t = s ∧ y = i
            · obtain ⟨e1, e2⟩ := e
              subst e1 e2
              simp (disch := omega) only [q_470, q_up_far, q_row_row, q_row_self, q_row_ne, q_up_ne, q_up_eq, q_rowup, ud_eq, ud_ne, q_add_id, q_sub_id, q_mul_id, q_w_eq, q_rem_n, q_div_n, ↓reduceIte, leT, leF, ltT, ltF, eqT, eqF, true_or, or_true, false_or, or_false, true_and, and_true, false_and, and_false, or_self, and_self, Option.bind_some, ]
            · simp (disch := omega) only [q_470, q_up_far, q_row_row, q_row_self, q_row_ne, q_up_ne, q_up_eq, q_rowup, ud_eq, ud_ne, q_add_id, q_sub_id, q_mul_id, q_w_eq, q_rem_n, q_div_n, ↓reduceIte, leT, leF, ltT, ltF, eqT, eqF, true_or, or_true, false_or, or_false, true_and, and_true, false_and, and_false, or_self, and_self, Option.bind_some, ]
          · intro k hk; constructor <;> simp (disch := omega) only [q_470, q_up_far, q_row_row, q_row_self, q_row_ne, q_up_ne, q_up_eq, q_rowup, ud_eq, ud_ne, q_add_id, q_sub_id, q_mul_id, q_w_eq, q_rem_n, q_div_n, ↓reduceIte, leT, leF, ltT, ltF, eqT, eqF, true_or, or_true, false_or, or_false, true_and, and_true, false_and, and_false, or_self, and_self, Option.bind_some, ]
        rcases s3 with z | z | z | z
        · exact absurd z v2
        · rw [z] at key
          refine key (q_i2b v) (sh8 v) ?_
          intro hc hf
          simp (disch := omega) only [q_470, q_up_far, q_row_row, q_row_self, q_row_ne, q_up_ne, q_up_eq, q_rowup, ud_eq, ud_ne, q_add_id, q_sub_id, q_mul_id, q_w_eq, q_rem_n, q_div_n, ↓reduceIte, leT, leF, ltT, ltF, eqT, eqF, true_or, or_true, false_or, or_false, true_and, and_true, false_and, and_false, or_self, and_self, Option.bind_some, hf, z, hp.m7, hp.m8, hp.m9, hs.k475, hs.k476, hs.k477, k_X12_in, c_X12_write, e_X12_write_0, e_X12_write_4, e_X12_write_13, e_X12_write_29, e_X12_write_43, e_X12_write_52, e_X12_write_96, c_X12_isSheet, e_X12_isSheet_0, e_X12_isSheet_6]
        · rw [z] at key
          refine key (q_i2s v) (sh16 v) ?_
          intro hc hf
          simp (disch := omega) only [q_470, q_up_far, q_row_row, q_row_self, q_row_ne, q_up_ne, q_up_eq, q_rowup, ud_eq, ud_ne, q_add_id, q_sub_id, q_mul_id, q_w_eq, q_rem_n, q_div_n, ↓reduceIte, leT, leF, ltT, ltF, eqT, eqF, true_or, or_true, false_or, or_false, true_and, and_true, false_and, and_false, or_self, and_self, Option.bind_some, hf, z, hp.m7, hp.m8, hp.m9, hs.k475, hs.k476, hs.k477, k_X12_in, c_X12_write, e_X12_write_0, e_X12_write_4, e_X12_write_13, e_X12_write_29, e_X12_write_43, e_X12_write_52, e_X12_write_96, c_X12_isSheet, e_X12_isSheet_0, e_X12_isSheet_6]
        · rw [z] at key
          refine key v (sh32z hv) ?_
          intro hc hf
          simp (disch := omega) only [q_470, q_up_far, q_row_row, q_row_self, q_row_ne, q_up_ne, q_up_eq, q_rowup, ud_eq, ud_ne, q_add_id, q_sub_id, q_mul_id, q_w_eq, q_rem_n, q_div_n, ↓reduceIte, leT, leF, ltT, ltF, eqT, eqF, true_or, or_true, false_or, or_false, true_and, and_true, false_and, and_false, or_self, and_self, Option.bind_some, hf, z, hp.m7, hp.m8, hp.m9, hs.k475, hs.k476, hs.k477, k_X12_in, c_X12_write, e_X12_write_0, e_X12_write_4, e_X12_write_13, e_X12_write_29, e_X12_write_43, e_X12_write_52, e_X12_write_96, c_X12_isSheet, e_X12_isSheet_0, e_X12_isSheet_6]
      · refine ⟨-1000001, (q_up h 468 0 (q_add (h 468 0) 1)), q_up (q_up h 468 0 (q_add (h 468 0) 1)) 474 0 (q_add (h 474 0) 1), ?_, ?_, hi.find 0 (by decide) (by decide), fun k hk => ⟨by rw [q_up_far (by omega), q_up_far (by omega)], by rw [q_up_far (by omega)]⟩⟩
        · simp (disch := omega) only [q_470, q_up_far, q_row_row, q_row_self, q_row_ne, q_up_ne, q_up_eq, q_rowup, ud_eq, ud_ne, q_add_id, q_sub_id, q_mul_id, q_w_eq, q_rem_n, q_div_n, ↓reduceIte, leT, leF, ltT, ltF, eqT, eqF, true_or, or_true, false_or, or_false, true_and, and_true, false_and, and_false, or_self, and_self, Option.bind_some, ew, hp.w4 iw, hp.w5 iw, hp.w6 iw, hp.w7 iw, hp.w8 iw, hp.dish iw, hp.craft iw, hp.ask iw, hp.t6, hs.rains iw, hs.dishes iw, hs.crafts iw, hs.asks iw, hs.k468, hr.hour wr, hr.nd wr, hr.nc wr, hr.na wr, k_X11_outside, k_f0 hp.t6 hs.k468, s1, s2, hp.t5, hp.sheet, hs.k459, c_X11_write, e_X11_write_0, e_X11_write_4, e_X11_write_13, e_X11_write_27, e_X11_write_37, e_X11_write_50, e_X11_write_59, e_X11_write_67, c_X11_noSheet, e_X11_noSheet_0, e_X11_noSheet_6, c_X7_isMissing, e_X7_isMissing_0, e_X7_isMissing_12]
        · simp (disch := omega) only [q_470, q_up_far, q_row_row, q_row_self, q_row_ne, q_up_ne, q_up_eq, q_rowup, ud_eq, ud_ne, q_add_id, q_sub_id, q_mul_id, q_w_eq, q_rem_n, q_div_n, ↓reduceIte, leT, leF, ltT, ltF, eqT, eqF, true_or, or_true, false_or, or_false, true_and, and_true, false_and, and_false, or_self, and_self, Option.bind_some, hp.m0, hp.m6, hs.k470, hs.k474, hG, k_X12_in, k_g0 (sh := sh) (h := (q_up h 468 0 (q_add (h 468 0) 1))) (by rw [q_up_far (by decide)]; exact hp.m6) hs.k474, hp.m7, hp.m8, hs.k475, hs.k476, c_X12_write, e_X12_write_0, e_X12_write_4, e_X12_write_13, e_X12_write_29, e_X12_write_43, e_X12_write_52, e_X12_write_96, c_X12_isSheet, e_X12_isSheet_0, e_X12_isSheet_6]
  · refine ⟨-1000001, (q_up h 468 0 (q_add (h 468 0) 1)), q_up (q_up h 468 0 (q_add (h 468 0) 1)) 474 0 (q_add (h 474 0) 1), ?_, ?_, hi.find 0 (by decide) (by decide), fun k hk => ⟨by rw [q_up_far (by omega), q_up_far (by omega)], by rw [q_up_far (by omega)]⟩⟩
    · simp (disch := omega) only [q_470, q_up_far, q_row_row, q_row_self, q_row_ne, q_up_ne, q_up_eq, q_rowup, ud_eq, ud_ne, q_add_id, q_sub_id, q_mul_id, q_w_eq, q_rem_n, q_div_n, ↓reduceIte, leT, leF, ltT, ltF, eqT, eqF, true_or, or_true, false_or, or_false, true_and, and_true, false_and, and_false, or_self, and_self, Option.bind_some, ew, hp.w4 iw, hp.w5 iw, hp.w6 iw, hp.w7 iw, hp.w8 iw, hp.dish iw, hp.craft iw, hp.ask iw, hp.t6, hs.rains iw, hs.dishes iw, hs.crafts iw, hs.asks iw, hs.k468, hr.hour wr, hr.nd wr, hr.nc wr, hr.na wr, k_X11_outside, k_f0 hp.t6 hs.k468, c_X11_write, e_X11_write_0, e_X11_write_4, e_X11_write_13, e_X11_write_27, e_X11_write_37, e_X11_write_50, e_X11_write_59, e_X11_write_67, c_X11_noSheet, e_X11_noSheet_0, e_X11_noSheet_6]
    · simp (disch := omega) only [q_470, q_up_far, q_row_row, q_row_self, q_row_ne, q_up_ne, q_up_eq, q_rowup, ud_eq, ud_ne, q_add_id, q_sub_id, q_mul_id, q_w_eq, q_rem_n, q_div_n, ↓reduceIte, leT, leF, ltT, ltF, eqT, eqF, true_or, or_true, false_or, or_false, true_and, and_true, false_and, and_false, or_self, and_self, Option.bind_some, hp.m0, hp.m6, hs.k470, hs.k474, hG, k_X12_in, k_g0 (sh := sh) (h := (q_up h 468 0 (q_add (h 468 0) 1))) (by rw [q_up_far (by decide)]; exact hp.m6) hs.k474, c_X12_write, e_X12_write_0, e_X12_write_4, e_X12_write_13, e_X12_write_29, e_X12_write_43, e_X12_write_52, e_X12_write_96, c_X12_isSheet, e_X12_isSheet_0, e_X12_isSheet_6]
/-- rows of a sheet are emptied -/
theorem l_zero {sh : Int × (Int → Nat × Int)} {h : Int → Int → Int} {b a1 a2 : Int} (b0 : 0 ≤ b) (p2 : h b 2 = b + 1) (l2 : (sh.2 (b + 1)).2 = 24) : ∀ (i : Int) (F : Int → Int), 0 ≤ i → i ≤ 24 → (∀ x, 0 ≤ x → x < i → F x = 0) → ∃ F' : Int → Int, q_L 66 20 [(17, b), (0, a1), (0, a2), (0, i)] [] (sh, q_row h (b + 1) F) = some ((0, h b 1), (sh, q_row h (b + 1) F')) ∧ ∀ x, 0 ≤ x → x < 24 → F' x = 0 := by
  refine lp (fun i F => q_L 66 20 [(17, b), (0, a1), (0, a2), (0, i)] [] (sh, q_row h (b + 1) F)) (fun i F => ∀ x, 0 ≤ x → x < i → F x = 0) (fun r => ∃ F' : Int → Int, r = some ((0, h b 1), (sh, q_row h (b + 1) F')) ∧ ∀ x, 0 ≤ x → x < 24 → F' x = 0) 24 ?_ ?_
  · intro i F i0 i1 hI
    refine Or.inl ⟨ud F i 0, ?_, ?_⟩
    · rw [e_X7_begin_20]
      simp (disch := omega) only [q_470, q_up_far, q_row_row, q_row_self, q_row_ne, q_up_ne, q_up_eq, q_rowup, ud_eq, ud_ne, q_add_id, q_sub_id, q_mul_id, q_w_eq, q_rem_n, q_div_n, ↓reduceIte, leT, leF, ltT, ltF, eqT, eqF, true_or, or_true, false_or, or_false, true_and, and_true, false_and, and_false, or_self, and_self, Option.bind_some, p2, l2]
    · intro x x0 x1
      by_cases e : x = i
      · rw [ud_eq e]
      · rw [ud_ne e]; exact hI x x0 (by omega)
  · intro F hI
    refine ⟨F, ?_, hI⟩
    show q_L 66 20 _ _ _ = _
    rw [e_X7_begin_20]
    simp (disch := omega) only [q_470, q_up_far, q_row_row, q_row_self, q_row_ne, q_up_ne, q_up_eq, q_rowup, ud_eq, ud_ne, q_add_id, q_sub_id, q_mul_id, q_w_eq, q_rem_n, q_div_n, ↓reduceIte, leT, leF, ltT, ltF, eqT, eqF, true_or, or_true, false_or, or_false, true_and, and_true, false_and, and_false, or_self, and_self, Option.bind_some, ]
theorem l_zero2 {sh : Int × (Int → Nat × Int)} {h : Int → Int → Int} {s a2 a3 z : Int} (s0 : 0 ≤ s) (s1 : s < 4) (p9 : h 469 9 = 477) (p8 : h 469 8 = 476) (l9 : (sh.2 477).2 = 96) (l8 : (sh.2 476).2 = 4) (hz : h 476 s = z) (F0 : Int → Int) : ∀ (i : Int) (F : Int → Int), 0 ≤ i → i ≤ 24 → (∀ x, F x = if 24 * s ≤ x ∧ x < 24 * s + i then 0 else F0 x) → ∃ F' : Int → Int, q_L 247 85 [(22, 469), (0, s), (0, a2), (0, a3), (0, i)] [] (sh, q_row h 477 F) = some ((0, z), (sh, q_row h 477 F')) ∧ ∀ x, F' x = if 24 * s ≤ x ∧ x < 24 * s + 24 then 0 else F0 x := by
  refine lp (fun i F => q_L 247 85 [(22, 469), (0, s), (0, a2), (0, a3), (0, i)] [] (sh, q_row h 477 F)) (fun i F => ∀ x, F x = if 24 * s ≤ x ∧ x < 24 * s + i then 0 else F0 x) (fun r => ∃ F' : Int → Int, r = some ((0, z), (sh, q_row h 477 F')) ∧ ∀ x, F' x = if 24 * s ≤ x ∧ x < 24 * s + 24 then 0 else F0 x) 24 ?_ ?_
  · intro i F i0 i1 hI
    refine Or.inl ⟨ud F (24 * s + i) 0, ?_, ?_⟩
    · rw [e_X12_sheet_85]
      simp (disch := omega) only [q_470, q_up_far, q_row_row, q_row_self, q_row_ne, q_up_ne, q_up_eq, q_rowup, ud_eq, ud_ne, q_add_id, q_sub_id, q_mul_id, q_w_eq, q_rem_n, q_div_n, ↓reduceIte, leT, leF, ltT, ltF, eqT, eqF, true_or, or_true, false_or, or_false, true_and, and_true, false_and, and_false, or_self, and_self, Option.bind_some, p9, l9]
    · intro x
      by_cases e : x = 24 * s + i
      · rw [ud_eq e, if_pos (by omega)]
      · rw [ud_ne e, hI x]
        by_cases e2 : 24 * s ≤ x ∧ x < 24 * s + i
        · rw [if_pos e2, if_pos (by omega)]
        · rw [if_neg e2, if_neg (by omega)]
  · intro F hI
    refine ⟨F, ?_, hI⟩
    show q_L 247 85 _ _ _ = _
    rw [e_X12_sheet_85]
    simp (disch := omega) only [q_470, q_up_far, q_row_row, q_row_self, q_row_ne, q_up_ne, q_up_eq, q_rowup, ud_eq, ud_ne, q_add_id, q_sub_id, q_mul_id, q_w_eq, q_rem_n, q_div_n, ↓reduceIte, leT, leF, ltT, ltF, eqT, eqF, true_or, or_true, false_or, or_false, true_and, and_true, false_and, and_false, or_self, and_self, Option.bind_some, p9, p8, l8, hz]
theorem st_sheet (s b n : Int) : Step 145 247 [(0, s), (0, b), (0, n)] := by
  intro sh h hs ho hi
  obtain ⟨w, G, hw1, iw, ew, hG, hp, hr, wf, hh⟩ := hi.opn
  have wr := wf.1
  have u0 := wr.hour; have u1 := wr.nd; have u2 := wr.nc; have u3 := wr.na
  by_cases v1 : (0 ≤ s ∧ s < 4) ∧ (b = 0 ∨ b = 8 ∨ b = 16 ∨ b = 32)
  · obtain ⟨v1, vb⟩ := v1
    by_cases v2 : n < 0
    · rcases vb with rfl | rfl | rfl | rfl
      all_goals
        refine ⟨-1000007, (q_up h 468 6 (q_add (h 468 6) 1)), q_up (q_up h 468 6 (q_add (h 468 6) 1)) 474 6 (q_add (h 474 6) 1), ?_, ?_, hi.find 6 (by decide) (by decide), fun k hk => ⟨by rw [q_up_far (by omega), q_up_far (by omega)], by rw [q_up_far (by omega)]⟩⟩
        · simp (disch := omega) only [q_470, q_up_far, q_row_row, q_row_self, q_row_ne, q_up_ne, q_up_eq, q_rowup, ud_eq, ud_ne, q_add_id, q_sub_id, q_mul_id, q_w_eq, q_rem_n, q_div_n, ↓reduceIte, leT, leF, ltT, ltF, eqT, eqF, true_or, or_true, false_or, or_false, true_and, and_true, false_and, and_false, or_self, and_self, Option.bind_some, ew, hp.w4 iw, hp.w5 iw, hp.w6 iw, hp.w7 iw, hp.w8 iw, hp.dish iw, hp.craft iw, hp.ask iw, hp.t6, hs.rains iw, hs.dishes iw, hs.crafts iw, hs.asks iw, hs.k468, hr.hour wr, hr.nd wr, hr.nc wr, hr.na wr, k_X11_outside, k_f6 hp.t6 hs.k468, c_X11_sheet, e_X11_sheet_0, e_X11_sheet_4, e_X11_sheet_29, e_X11_sheet_35, e_X11_sheet_36, e_X11_sheet_47, e_X11_sheet_60, e_X11_sheet_72, c_X11_noSheet, e_X11_noSheet_0, e_X11_noSheet_6]
        · simp (disch := omega) only [q_470, q_up_far, q_row_row, q_row_self, q_row_ne, q_up_ne, q_up_eq, q_rowup, ud_eq, ud_ne, q_add_id, q_sub_id, q_mul_id, q_w_eq, q_rem_n, q_div_n, ↓reduceIte, leT, leF, ltT, ltF, eqT, eqF, true_or, or_true, false_or, or_false, true_and, and_true, false_and, and_false, or_self, and_self, Option.bind_some, hp.m0, hp.m6, hs.k470, hs.k474, hG, k_X12_in, k_g6 (sh := sh) (h := (q_up h 468 6 (q_add (h 468 6) 1))) (by rw [q_up_far (by decide)]; exact hp.m6) hs.k474, c_X12_sheet, e_X12_sheet_0, e_X12_sheet_4, e_X12_sheet_29, e_X12_sheet_35, e_X12_sheet_36, e_X12_sheet_46, e_X12_sheet_59, e_X12_sheet_81, e_X12_sheet_85, c_X12_isSheet, e_X12_isSheet_0, e_X12_isSheet_6]
    · by_cases v3 : 24 < n
      · rcases vb with rfl | rfl | rfl | rfl
        all_goals
          refine ⟨-1000001, (q_up h 468 0 (q_add (h 468 0) 1)), q_up (q_up h 468 0 (q_add (h 468 0) 1)) 474 0 (q_add (h 474 0) 1), ?_, ?_, hi.find 0 (by decide) (by decide), fun k hk => ⟨by rw [q_up_far (by omega), q_up_far (by omega)], by rw [q_up_far (by omega)]⟩⟩
          · simp (disch := omega) only [q_470, q_up_far, q_row_row, q_row_self, q_row_ne, q_up_ne, q_up_eq, q_rowup, ud_eq, ud_ne, q_add_id, q_sub_id, q_mul_id, q_w_eq, q_rem_n, q_div_n, ↓reduceIte, leT, leF, ltT, ltF, eqT, eqF, true_or, or_true, false_or, or_false, true_and, and_true, false_and, and_false, or_self, and_self, Option.bind_some, ew, hp.w4 iw, hp.w5 iw, hp.w6 iw, hp.w7 iw, hp.w8 iw, hp.dish iw, hp.craft iw, hp.ask iw, hp.t6, hs.rains iw, hs.dishes iw, hs.crafts iw, hs.asks iw, hs.k468, hr.hour wr, hr.nd wr, hr.nc wr, hr.na wr, k_X11_outside, k_f0 hp.t6 hs.k468, c_X11_sheet, e_X11_sheet_0, e_X11_sheet_4, e_X11_sheet_29, e_X11_sheet_35, e_X11_sheet_36, e_X11_sheet_47, e_X11_sheet_60, e_X11_sheet_72, c_X11_noSheet, e_X11_noSheet_0, e_X11_noSheet_6]
          · simp (disch := omega) only [q_470, q_up_far, q_row_row, q_row_self, q_row_ne, q_up_ne, q_up_eq, q_rowup, ud_eq, ud_ne, q_add_id, q_sub_id, q_mul_id, q_w_eq, q_rem_n, q_div_n, ↓reduceIte, leT, leF, ltT, ltF, eqT, eqF, true_or, or_true, false_or, or_false, true_and, and_true, false_and, and_false, or_self, and_self, Option.bind_some, hp.m0, hp.m6, hs.k470, hs.k474, hG, k_X12_in, k_g0 (sh := sh) (h := (q_up h 468 0 (q_add (h 468 0) 1))) (by rw [q_up_far (by decide)]; exact hp.m6) hs.k474, c_X12_sheet, e_X12_sheet_0, e_X12_sheet_4, e_X12_sheet_29, e_X12_sheet_35, e_X12_sheet_36, e_X12_sheet_46, e_X12_sheet_59, e_X12_sheet_81, e_X12_sheet_85, c_X12_isSheet, e_X12_isSheet_0, e_X12_isSheet_6]
      · obtain ⟨z, ez, z0, z1⟩ : ∃ z, (if b = 0 then 0 else n) = z ∧ 0 ≤ z ∧ z ≤ 24 := ⟨_, rfl, by split <;> omega, by split <;> omega⟩
        obtain ⟨F1, c1, c2⟩ := l_zero (sh := sh) (h := q_up (q_up h (460 + 2 * s) 0 b) (460 + 2 * s) 1 z) (b := 460 + 2 * s) (a1 := b) (a2 := n) (by omega) (by rw [q_up_ne (by omega), q_up_ne (by omega), hp.nums s (by omega) (by omega)]; omega) (by have := hs.nums s (by omega) (by omega); rw [show 460 + 2 * s + 1 = 461 + 2 * s by omega]; exact this) 0 (q_up (q_up h (460 + 2 * s) 0 b) (460 + 2 * s) 1 z (460 + 2 * s + 1)) (by omega) (by omega) (fun x a b => by omega)
        rw [q_row_id, q_up_self] at c1
        obtain ⟨hc, ehc⟩ : ∃ hc, q_row (q_up (q_up h (460 + 2 * s) 0 b) (460 + 2 * s) 1 z) (460 + 2 * s + 1) F1 = hc := ⟨_, rfl⟩
        have hfc : ∀ k, (k ≠ 460 + 2 * s) → k ≠ 460 + 2 * s + 1 → hc k = h k := by
          intro k k1 k2
          rw [← ehc, q_row_ne k2, q_up_far k1, q_up_far k1]
        rw [ehc] at c1
        obtain ⟨F2, d1, d2⟩ := l_zero2 (sh := sh) (h := q_up (q_up hc 475 s b) 476 s z) (s := s) (a2 := b) (a3 := n) (z := z) (by omega) (by omega) (by rw [q_up_far (by omega), q_up_far (by omega), hfc _ (by omega) (by omega)]; exact hp.m9) (by rw [q_up_far (by omega), q_up_far (by omega), hfc _ (by omega) (by omega)]; exact hp.m8) hs.k477 hs.k476 (q_up_self _ _ _ _) (h 477) 0 (q_up (q_up hc 475 s b) 476 s z 477) (by omega) (by omega) (fun x => by rw [if_neg (by omega), q_up_far (by omega), q_up_far (by omega), hfc _ (by omega) (by omega)])
        rw [q_row_id] at d1
        have p8 : hc 469 8 = 476 := by rw [hfc _ (by omega) (by omega)]; exact hp.m8
        have p7 : hc 469 7 = 475 := by rw [hfc _ (by omega) (by omega)]; exact hp.m7
        refine ⟨z, hc, q_row (q_up (q_up hc 475 s b) 476 s z) 477 F2, ?_, ?_, hi.sheets ?_ ?_ ?_, ?_⟩
        · rcases vb with rfl | rfl | rfl | rfl
          all_goals
            simp only [↓reduceIte, eqF (show ¬ (8 : Int) = 0 by decide), eqF (show ¬ (16 : Int) = 0 by decide), eqF (show ¬ (32 : Int) = 0 by decide)] at ez
            subst ez
            simp (disch := omega) only [q_470, q_up_far, q_row_row, q_row_self, q_row_ne, q_up_ne, q_up_eq, q_rowup, ud_eq, ud_ne, q_add_id, q_sub_id, q_mul_id, q_w_eq, q_rem_n, q_div_n, ↓reduceIte, leT, leF, ltT, ltF, eqT, eqF, true_or, or_true, false_or, or_false, true_and, and_true, false_and, and_false, or_self, and_self, Option.bind_some, ew, hp.w4 iw, hp.w5 iw, hp.w6 iw, hp.w7 iw, hp.w8 iw, hp.dish iw, hp.craft iw, hp.ask iw, hp.t6, hs.rains iw, hs.dishes iw, hs.crafts iw, hs.asks iw, hs.k468, hr.hour wr, hr.nd wr, hr.nc wr, hr.na wr, c1, hp.t5, hp.sheet, hs.k459, k_X11_outside, c_X11_sheet, e_X11_sheet_0, e_X11_sheet_4, e_X11_sheet_29, e_X11_sheet_35, e_X11_sheet_36, e_X11_sheet_47, e_X11_sheet_60, e_X11_sheet_72, c_X11_noSheet, e_X11_noSheet_0, e_X11_noSheet_6, c_X7_begin, e_X7_begin_0, e_X7_begin_15]
        · rcases vb with rfl | rfl | rfl | rfl
          all_goals
            simp only [↓reduceIte, eqF (show ¬ (8 : Int) = 0 by decide), eqF (show ¬ (16 : Int) = 0 by decide), eqF (show ¬ (32 : Int) = 0 by decide)] at ez
            subst ez
            simp (disch := omega) only [q_470, q_up_far, q_row_row, q_row_self, q_row_ne, q_up_ne, q_up_eq, q_rowup, ud_eq, ud_ne, q_add_id, q_sub_id, q_mul_id, q_w_eq, q_rem_n, q_div_n, ↓reduceIte, leT, leF, ltT, ltF, eqT, eqF, true_or, or_true, false_or, or_false, true_and, and_true, false_and, and_false, or_self, and_self, Option.bind_some, hp.m0, hp.m6, hs.k470, hs.k474, hG, d1, p7, p8, hs.k475, hs.k476, k_X12_in, c_X12_sheet, e_X12_sheet_0, e_X12_sheet_4, e_X12_sheet_36, e_X12_sheet_81, c_X12_isSheet, e_X12_isSheet_0, e_X12_isSheet_6]
        · have pc : Ptr hc := by
            rw [← ehc]
            refine ((hp.up (VP_sheet (by omega) (by omega) (by omega))).up (VP_sheet (by omega) (by omega) (by omega))).row (fun j => ?_)
            rw [show 460 + 2 * s + 1 = 461 + 2 * s by omega]
            exact VP_nums (by omega) (by omega)
          exact ((pc.up (VP_ref (by decide))).up (VP_ref (by decide))).row (fun j => VP_ref (by decide))
        · intro k j _ h1 h2
          rw [q_row_ne (by omega), q_up_far (by omega), q_up_far (by omega), hfc _ (by omega) (by omega)]
        · intro t t0 t1
          obtain ⟨q1, q2, q3, q4, q5, q6⟩ := hi.2.2.2.2.2.2.2.1 t t0 t1
          have f0 : ∀ k, k ≠ 475 → k ≠ 476 → k ≠ 477 → q_row (q_up (q_up hc 475 s b) 476 s z) 477 F2 k = hc k := fun k a b c => by rw [q_row_ne c, q_up_far b, q_up_far a]
          rw [f0 (460 + 2 * t) (by omega) (by omega) (by omega), f0 (461 + 2 * t) (by omega) (by omega) (by omega), q_row_ne (by omega), q_row_ne (by omega), q_row_self]
          by_cases e : t = s
          · subst e
            have g0 : hc (460 + 2 * t) 0 = b := by rw [← ehc]; simp (disch := omega) only [q_470, q_up_far, q_row_row, q_row_self, q_row_ne, q_up_ne, q_up_eq, q_rowup, ud_eq, ud_ne, q_add_id, q_sub_id, q_mul_id, q_w_eq, q_rem_n, q_div_n, ↓reduceIte, leT, leF, ltT, ltF, eqT, eqF, true_or, or_true, false_or, or_false, true_and, and_true, false_and, and_false, or_self, and_self, Option.bind_some, ]
            have g1 : hc (460 + 2 * t) 1 = z := by rw [← ehc]; simp (disch := omega) only [q_470, q_up_far, q_row_row, q_row_self, q_row_ne, q_up_ne, q_up_eq, q_rowup, ud_eq, ud_ne, q_add_id, q_sub_id, q_mul_id, q_w_eq, q_rem_n, q_div_n, ↓reduceIte, leT, leF, ltT, ltF, eqT, eqF, true_or, or_true, false_or, or_false, true_and, and_true, false_and, and_false, or_self, and_self, Option.bind_some, ]
            have g2 : hc (461 + 2 * t) = F1 := by rw [← ehc, show 461 + 2 * t = 460 + 2 * t + 1 by omega, q_row_self]
            have g3 : q_up (q_up hc 475 t b) 476 t z 475 t = b := by simp (disch := omega) only [q_470, q_up_far, q_row_row, q_row_self, q_row_ne, q_up_ne, q_up_eq, q_rowup, ud_eq, ud_ne, q_add_id, q_sub_id, q_mul_id, q_w_eq, q_rem_n, q_div_n, ↓reduceIte, leT, leF, ltT, ltF, eqT, eqF, true_or, or_true, false_or, or_false, true_and, and_true, false_and, and_false, or_self, and_self, Option.bind_some, ]
            have g4 : q_up (q_up hc 475 t b) 476 t z 476 t = z := by simp (disch := omega) only [q_470, q_up_far, q_row_row, q_row_self, q_row_ne, q_up_ne, q_up_eq, q_rowup, ud_eq, ud_ne, q_add_id, q_sub_id, q_mul_id, q_w_eq, q_rem_n, q_div_n, ↓reduceIte, leT, leF, ltT, ltF, eqT, eqF, true_or, or_true, false_or, or_false, true_and, and_true, false_and, and_false, or_self, and_self, Option.bind_some, ]
            rw [g0, g1, g2, g3, g4]
            refine ⟨rfl, rfl, vb, z0, z1, ?_⟩
            intro y y0 y1
            rw [c2 y y0 y1, d2, if_pos (by omega)]
          · have g3 : q_up (q_up hc 475 s b) 476 s z 475 t = h 475 t := by simp (disch := omega) only [q_470, q_up_far, q_row_row, q_row_self, q_row_ne, q_up_ne, q_up_eq, q_rowup, ud_eq, ud_ne, q_add_id, q_sub_id, q_mul_id, q_w_eq, q_rem_n, q_div_n, ↓reduceIte, leT, leF, ltT, ltF, eqT, eqF, true_or, or_true, false_or, or_false, true_and, and_true, false_and, and_false, or_self, and_self, Option.bind_some, ]; rw [hfc _ (by omega) (by omega)]
            have g4 : q_up (q_up hc 475 s b) 476 s z 476 t = h 476 t := by simp (disch := omega) only [q_470, q_up_far, q_row_row, q_row_self, q_row_ne, q_up_ne, q_up_eq, q_rowup, ud_eq, ud_ne, q_add_id, q_sub_id, q_mul_id, q_w_eq, q_rem_n, q_div_n, ↓reduceIte, leT, leF, ltT, ltF, eqT, eqF, true_or, or_true, false_or, or_false, true_and, and_true, false_and, and_false, or_self, and_self, Option.bind_some, ]; rw [hfc _ (by omega) (by omega)]
            rw [g3, g4, hfc (460 + 2 * t) (by omega) (by omega), hfc (461 + 2 * t) (by omega) (by omega)]
            refine ⟨q1, q2, q3, q4, q5, ?_⟩
            intro y y0 y1
            rw [d2, if_neg (by omega)]
            exact q6 y y0 y1
        · intro k hk
          exact ⟨by rw [q_row_ne (by omega), q_up_far (by omega), q_up_far (by omega), hfc _ (by omega) (by omega)], hfc _ (by omega) (by omega)⟩
  · by_cases a1 : 0 ≤ s ∧ s < 4
    · have a2 : ¬ b = 0 := fun e => v1 ⟨a1, Or.inl e⟩
      have a3 : ¬ b = 8 := fun e => v1 ⟨a1, Or.inr (Or.inl e)⟩
      have a4 : ¬ b = 16 := fun e => v1 ⟨a1, Or.inr (Or.inr (Or.inl e))⟩
      have a5 : ¬ b = 32 := fun e => v1 ⟨a1, Or.inr (Or.inr (Or.inr e))⟩
      refine ⟨-1000001, (q_up h 468 0 (q_add (h 468 0) 1)), q_up (q_up h 468 0 (q_add (h 468 0) 1)) 474 0 (q_add (h 474 0) 1), ?_, ?_, hi.find 0 (by decide) (by decide), fun k hk => ⟨by rw [q_up_far (by omega), q_up_far (by omega)], by rw [q_up_far (by omega)]⟩⟩
      · simp (disch := omega) only [q_470, q_up_far, q_row_row, q_row_self, q_row_ne, q_up_ne, q_up_eq, q_rowup, ud_eq, ud_ne, q_add_id, q_sub_id, q_mul_id, q_w_eq, q_rem_n, q_div_n, ↓reduceIte, leT, leF, ltT, ltF, eqT, eqF, true_or, or_true, false_or, or_false, true_and, and_true, false_and, and_false, or_self, and_self, Option.bind_some, ew, hp.w4 iw, hp.w5 iw, hp.w6 iw, hp.w7 iw, hp.w8 iw, hp.dish iw, hp.craft iw, hp.ask iw, hp.t6, hs.rains iw, hs.dishes iw, hs.crafts iw, hs.asks iw, hs.k468, hr.hour wr, hr.nd wr, hr.nc wr, hr.na wr, k_X11_outside, k_f0 hp.t6 hs.k468, c_X11_sheet, e_X11_sheet_0, e_X11_sheet_4, e_X11_sheet_29, e_X11_sheet_35, e_X11_sheet_36, e_X11_sheet_47, e_X11_sheet_60, e_X11_sheet_72, c_X11_noSheet, e_X11_noSheet_0, e_X11_noSheet_6]
      · simp (disch := omega) only [q_470, q_up_far, q_row_row, q_row_self, q_row_ne, q_up_ne, q_up_eq, q_rowup, ud_eq, ud_ne, q_add_id, q_sub_id, q_mul_id, q_w_eq, q_rem_n, q_div_n, ↓reduceIte, leT, leF, ltT, ltF, eqT, eqF, true_or, or_true, false_or, or_false, true_and, and_true, false_and, and_false, or_self, and_self, Option.bind_some, hp.m0, hp.m6, hs.k470, hs.k474, hG, k_X12_in, k_g0 (sh := sh) (h := (q_up h 468 0 (q_add (h 468 0) 1))) (by rw [q_up_far (by decide)]; exact hp.m6) hs.k474, c_X12_sheet, e_X12_sheet_0, e_X12_sheet_4, e_X12_sheet_29, e_X12_sheet_35, e_X12_sheet_36, e_X12_sheet_46, e_X12_sheet_59, e_X12_sheet_81, e_X12_sheet_85, c_X12_isSheet, e_X12_isSheet_0, e_X12_isSheet_6]
    · refine ⟨-1000001, (q_up h 468 0 (q_add (h 468 0) 1)), q_up (q_up h 468 0 (q_add (h 468 0) 1)) 474 0 (q_add (h 474 0) 1), ?_, ?_, hi.find 0 (by decide) (by decide), fun k hk => ⟨by rw [q_up_far (by omega), q_up_far (by omega)], by rw [q_up_far (by omega)]⟩⟩
      · simp (disch := omega) only [q_470, q_up_far, q_row_row, q_row_self, q_row_ne, q_up_ne, q_up_eq, q_rowup, ud_eq, ud_ne, q_add_id, q_sub_id, q_mul_id, q_w_eq, q_rem_n, q_div_n, ↓reduceIte, leT, leF, ltT, ltF, eqT, eqF, true_or, or_true, false_or, or_false, true_and, and_true, false_and, and_false, or_self, and_self, Option.bind_some, ew, hp.w4 iw, hp.w5 iw, hp.w6 iw, hp.w7 iw, hp.w8 iw, hp.dish iw, hp.craft iw, hp.ask iw, hp.t6, hs.rains iw, hs.dishes iw, hs.crafts iw, hs.asks iw, hs.k468, hr.hour wr, hr.nd wr, hr.nc wr, hr.na wr, k_X11_outside, k_f0 hp.t6 hs.k468, c_X11_sheet, e_X11_sheet_0, e_X11_sheet_4, e_X11_sheet_29, e_X11_sheet_35, e_X11_sheet_36, e_X11_sheet_47, e_X11_sheet_60, e_X11_sheet_72, c_X11_noSheet, e_X11_noSheet_0, e_X11_noSheet_6]
      · simp (disch := omega) only [q_470, q_up_far, q_row_row, q_row_self, q_row_ne, q_up_ne, q_up_eq, q_rowup, ud_eq, ud_ne, q_add_id, q_sub_id, q_mul_id, q_w_eq, q_rem_n, q_div_n, ↓reduceIte, leT, leF, ltT, ltF, eqT, eqF, true_or, or_true, false_or, or_false, true_and, and_true, false_and, and_false, or_self, and_self, Option.bind_some, hp.m0, hp.m6, hs.k470, hs.k474, hG, k_X12_in, k_g0 (sh := sh) (h := (q_up h 468 0 (q_add (h 468 0) 1))) (by rw [q_up_far (by decide)]; exact hp.m6) hs.k474, c_X12_sheet, e_X12_sheet_0, e_X12_sheet_4, e_X12_sheet_29, e_X12_sheet_35, e_X12_sheet_36, e_X12_sheet_46, e_X12_sheet_59, e_X12_sheet_81, e_X12_sheet_85, c_X12_isSheet, e_X12_isSheet_0, e_X12_isSheet_6]
