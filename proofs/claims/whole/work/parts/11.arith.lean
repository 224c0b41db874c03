/-! the machine's numbers, where nothing overflows -/
theorem q_add_id {a b : Int} (h1 : -2147483648 ≤ a + b) (h2 : a + b < 2147483648) : q_add a b = a + b := q_w_id ⟨h1, h2⟩
theorem q_sub_id {a b : Int} (h1 : -2147483648 ≤ a - b) (h2 : a - b < 2147483648) : q_sub a b = a - b := q_w_id ⟨h1, h2⟩
theorem q_mul_id {a b : Int} (h1 : -2147483648 ≤ a * b) (h2 : a * b < 2147483648) : q_mul a b = a * b := q_w_id ⟨h1, h2⟩
theorem q_w_eq {a : Int} (h1 : -2147483648 ≤ a) (h2 : a < 2147483648) : q_w a = a := q_w_id ⟨h1, h2⟩
theorem q_tdiv_b {a b : Int} (ha : q_i32 a) (hb : 0 < b) : q_i32 (a.tdiv b) := by
  unfold q_i32 at ha ⊢
  by_cases h : 0 ≤ a
  · rw [Int.tdiv_eq_ediv_of_nonneg h]
    have h1 : 0 ≤ a / b := Int.ediv_nonneg h (by omega)
    have h2 : a / b ≤ a := Int.ediv_le_self _ h
    omega
  · have e : a = -(-a) := by omega
    rw [e, Int.neg_tdiv, Int.tdiv_eq_ediv_of_nonneg (by omega)]
    have h1 : 0 ≤ (-a) / b := Int.ediv_nonneg (by omega) (by omega)
    have h2 : (-a) / b ≤ -a := Int.ediv_le_self _ (by omega)
    omega
theorem q_div_t {a b : Int} (ha : q_i32 a) (hb : 0 < b) (hb2 : b < 2147483648) : q_div a b = a.tdiv b := by
  unfold q_div
  rw [Int32.toInt_div, q_ti ha, q_ti ⟨by omega, hb2⟩, ← q_w_bmod]
  exact q_w_id (q_tdiv_b ha hb)
theorem q_div_n {a b : Int} (h0 : 0 ≤ a) (ha : a < 2147483648) (hb : 0 < b) (hb2 : b < 2147483648) : q_div a b = a / b := by
  rw [q_div_t ⟨by omega, ha⟩ hb hb2, Int.tdiv_eq_ediv_of_nonneg h0]
theorem q_rem_t {a b : Int} (ha : q_i32 a) (hb : 0 < b) (hb2 : b < 2147483648) : q_rem a b = a - a.tdiv b * b := by
  have h0 := q_div_t ha hb hb2
  unfold q_div at h0
  unfold q_rem
  rw [Int32.toInt_sub, Int32.toInt_mul, h0, q_ti ha, q_ti ⟨by omega, hb2⟩, ← q_w_bmod, ← q_w_bmod]
  have e1 : q_w (a - q_w (a.tdiv b * b)) = q_w (a - a.tdiv b * b) := by unfold q_w; omega
  rw [e1]
  apply q_w_id
  have e2 : a - a.tdiv b * b = a.tmod b := by rw [Int.tmod_def, Int.mul_comm]
  rw [e2]
  have h3 := Int.tmod_lt_of_pos a hb
  have h4 : -b < a.tmod b := by
    have := Int.tmod_lt_of_pos (-a) hb
    rw [Int.neg_tmod] at this
    omega
  unfold q_i32
  omega
theorem q_rem_n {a b : Int} (h0 : 0 ≤ a) (ha : a < 2147483648) (hb : 0 < b) (hb2 : b < 2147483648) : q_rem a b = a % b := by
  rw [q_rem_t ⟨by omega, ha⟩ hb hb2, Int.tdiv_eq_ediv_of_nonneg h0, Int.mul_comm, ← Int.emod_def]
