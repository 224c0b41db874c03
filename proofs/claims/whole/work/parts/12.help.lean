/-! the first contracts: small helpers -/
theorem k_X11_outside (v lo hi : Int) (sh : Int × (Int → Nat × Int)) (h : Int → Int → Int) : q_Cc 153 [(0, v), (0, lo), (0, hi)] (sh, h) = some ((0, if v < lo ∨ hi < v then 1 else 0), (sh, h)) := by
  rw [c_X11_outside, e_X11_outside_0, e_X11_outside_10, e_X11_outside_15, e_X11_outside_15]
  by_cases h1 : v < lo <;> by_cases h2 : hi < v <;> simp [h1, h2]
theorem k_X12_in (v lo hi : Int) (sh : Int × (Int → Nat × Int)) (h : Int → Int → Int) : q_Cc 162 [(0, v), (0, lo), (0, hi)] (sh, h) = some ((0, if v < lo ∨ hi < v then 0 else 1), (sh, h)) := by
  rw [c_X12_in, e_X12_in_0, e_X12_in_14, e_X12_in_15, e_X12_in_15]
  by_cases h1 : v < lo <;> by_cases h2 : hi < v <;> simp [h1, h2]
/-- finding(-1000001 - i): the count i grows -/
theorem k_X11_finding (i : Int) (h0 : 0 ≤ i) (h7 : i < 7) (sh : Int × (Int → Nat × Int)) (h : Int → Int → Int) (p6 : h 0 6 = 468) (hs : (sh.2 468).2 = 7) : q_Cc 159 [(21, 0), (0, -1000001 - i)] (sh, h) = some ((0, -1000001 - i), (sh, q_up h 468 i (q_add (h 468 i) 1))) := by
  have e : q_sub (-1000001) (-1000001 - i) = i := by rw [q_sub_id (by omega) (by omega)]; omega
  rw [c_X11_finding, e_X11_finding_0]
  simp only [e, p6, hs]
  rw [if_neg (by omega), if_pos h7, if_pos (by decide), if_pos ⟨h0, h7⟩, if_pos ⟨h0, h7, by decide⟩, e_X11_finding_25]
theorem k_X12_finds (i : Int) (h0 : 0 ≤ i) (h7 : i < 7) (sh : Int × (Int → Nat × Int)) (h : Int → Int → Int) (p6 : h 469 6 = 474) (hs : (sh.2 474).2 = 7) : q_Cc 161 [(22, 469), (0, -1000001 - i)] (sh, h) = some ((0, -1000001 - i), (sh, q_up h 474 i (q_add (h 474 i) 1))) := by
  have e : q_sub (-1000001) (-1000001 - i) = i := by rw [q_sub_id (by omega) (by omega)]; omega
  rw [c_X12_finds, e_X12_finds_0]
  simp only [e, p6, hs]
  rw [if_pos (by decide), if_pos ⟨h0, h7⟩, if_pos ⟨h0, h7, by decide⟩]
/-- rain of the class -/
theorem k_X11_rain (p r v : Int) (sh : Int × (Int → Nat × Int)) (h : Int → Int → Int) (p0 : h 0 0 = 1) (p6 : h 0 6 = 468) (p4 : h 1 4 = 2) (hs : (sh.2 468).2 = 7) (hs2 : (sh.2 2).2 = 42) :
    q_Cc 107 [(21, 0), (0, p), (0, r), (0, v)] (sh, h) = if (0 ≤ p ∧ p ≤ 2) ∧ (0 ≤ r ∧ r ≤ 13) ∧ 0 ≤ v ∧ v ≤ 9 then some ((0, h 2 (p * 14 + r)), (sh, q_up h 2 (p * 14 + r) v)) else some ((0, -1000001), (sh, q_up h 468 0 (q_add (h 468 0) 1))) := by
  have hf := k_X11_finding 0 (by decide) (by decide) sh h p6 hs
  simp only [Int.sub_zero] at hf
  have hE : q_L 107 29 [(21, 0), (0, p), (0, r), (0, v)] [] (sh, h) = some ((0, -1000001), (sh, q_up h 468 0 (q_add (h 468 0) 1))) := by
    rw [e_X11_rain_29, hf, Option.bind_some, e_X11_rain_35]
  rw [c_X11_rain, e_X11_rain_0, k_X11_outside, Option.bind_some, e_X11_rain_6]
  by_cases h1 : p < 0 ∨ 2 < p
  · rw [if_pos h1, if_neg (by decide), hE, if_neg (by omega)]
  · rw [if_neg h1, if_pos rfl, k_X11_outside, Option.bind_some, e_X11_rain_16]
    by_cases h2 : r < 0 ∨ 13 < r
    · rw [if_pos h2, if_neg (by decide), hE, if_neg (by omega)]
    · rw [if_neg h2, if_pos rfl, k_X11_outside, Option.bind_some, e_X11_rain_26]
      by_cases h3 : v < 0 ∨ 9 < v
      · rw [if_pos h3, if_neg (by decide), hE, if_neg (by omega)]
      · rw [if_neg h3, if_pos rfl, p0, if_pos (by decide), c_X10_setRain, e_X10_setRain_0]
        have e1 : q_add (q_mul p 14) r = p * 14 + r := by rw [q_mul_id (by omega) (by omega), q_add_id (by omega) (by omega)]
        simp only [p4, e1, hs2]
        rw [if_pos (by decide), if_pos (by omega), if_pos (by decide), if_pos (by omega), Option.bind_some, e_X11_rain_46, if_pos (by omega)]
