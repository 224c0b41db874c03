theorem bv_and1 {w : Nat} (v : BitVec (w + 2)) : (v &&& 1#(w + 2)).toInt = if v.getLsbD 0 then 1 else 0 := by
  rw [BitVec.and_one_eq_setWidth_ofBool_getLsbD]
  cases v.getLsbD 0
  · simp
  · simp only [BitVec.ofBool_true, if_true]
    rw [BitVec.toInt_eq_toNat_of_lt]
    · simp
    · have h1 : BitVec.toNat (1 : BitVec 1) = 1 := rfl
      rw [BitVec.toNat_setWidth, h1, Nat.mod_eq_of_lt (Nat.one_lt_two_pow (by omega))]
      have : 2 ^ (w + 2) = 4 * 2 ^ w := by rw [Nat.pow_add, Nat.mul_comm]
      have := Nat.two_pow_pos w
      omega
theorem sh32 : ∀ n : Nat, n < 32 → (Int32.ofInt (n : Int) &&& 31).toBitVec.smod 32 = BitVec.ofNat 32 n := by decide
theorem sh64 : ∀ n : Nat, n < 64 → ((Int32.ofInt (n : Int)).toInt64 &&& 63).toBitVec.smod 64 = BitVec.ofNat 64 n := by decide
theorem ib_eq {x : Int} {n : Nat} (hn : n < 32) : ib x n = if (Int32.ofInt x).toBitVec.getLsbD n then 1 else 0 := by
  unfold ib q_and q_shr
  rw [Int32.ofInt_toInt]
  show (Int32.toBitVec _).toInt = _
  rw [Int32.toBitVec_and, Int32.toBitVec_shiftRight, sh32 n hn]
  have e1 : (Int32.ofInt 1).toBitVec = 1#32 := rfl
  rw [e1, bv_and1]
  congr 2
  rw [BitVec.sshiftRight_eq', BitVec.toNat_ofNat, Nat.mod_eq_of_lt (by omega), BitVec.getLsbD_sshiftRight]
  simp [hn]
theorem lb_eq {x : Int} {n : Nat} (hn : n < 64) : lb x n = if (Int64.ofInt x).toBitVec.getLsbD n then 1 else 0 := by
  unfold lb q_land q_lshr
  rw [Int64.ofInt_toInt]
  show (Int64.toBitVec _).toInt = _
  rw [Int64.toBitVec_and, Int64.toBitVec_shiftRight, sh64 n hn]
  have e1 : (Int64.ofInt 1).toBitVec = 1#64 := rfl
  rw [e1, bv_and1]
  congr 2
  rw [BitVec.sshiftRight_eq', BitVec.toNat_ofNat, Nat.mod_eq_of_lt (by omega), BitVec.getLsbD_sshiftRight]
  simp [hn]
theorem one32 {n m : Nat} (hn : n < 32) (hm : m < 32) : (Int32.ofInt (q_shl 1 n)).toBitVec.getLsbD m = decide (m = n) := by
  unfold q_shl
  rw [Int32.ofInt_toInt, Int32.toBitVec_shiftLeft, sh32 n hn]
  have e1 : (Int32.ofInt 1).toBitVec = 1#32 := rfl
  rw [e1, BitVec.shiftLeft_eq', BitVec.toNat_ofNat, Nat.mod_eq_of_lt (by omega), BitVec.getLsbD_shiftLeft, BitVec.getLsbD_one]
  simp [hm]
  rw [Bool.eq_iff_iff]
  simp
  omega
theorem one64 {n m : Nat} (hn : n < 64) (hm : m < 64) : (Int64.ofInt (q_lshl 1 n)).toBitVec.getLsbD m = decide (m = n) := by
  unfold q_lshl
  rw [Int64.ofInt_toInt, Int64.toBitVec_shiftLeft, sh64 n hn]
  have e1 : (Int64.ofInt 1).toBitVec = 1#64 := rfl
  rw [e1, BitVec.shiftLeft_eq', BitVec.toNat_ofNat, Nat.mod_eq_of_lt (by omega), BitVec.getLsbD_shiftLeft, BitVec.getLsbD_one]
  simp [hm]
  rw [Bool.eq_iff_iff]
  simp
  omega
theorem ib_or {x s t : Int} (s0 : 0 ≤ s) (s1 : s < 32) (t0 : 0 ≤ t) (t1 : t < 32) : ib (q_or x (q_shl 1 s)) t = if t = s then 1 else ib x t := by
  obtain ⟨n, rfl⟩ := Int.eq_ofNat_of_zero_le s0
  obtain ⟨m, rfl⟩ := Int.eq_ofNat_of_zero_le t0
  rw [ib_eq (by omega), ib_eq (by omega)]
  unfold q_or
  rw [Int32.ofInt_toInt, Int32.toBitVec_or, BitVec.getLsbD_or, one32 (by omega) (by omega)]
  by_cases e : m = n
  · subst e; simp
  · have : ¬ ((m : Int) = (n : Int)) := by omega
    simp [e, this]
theorem lb_or {x s t : Int} (s0 : 0 ≤ s) (s1 : s < 64) (t0 : 0 ≤ t) (t1 : t < 64) : lb (q_lor x (q_lshl 1 s)) t = if t = s then 1 else lb x t := by
  obtain ⟨n, rfl⟩ := Int.eq_ofNat_of_zero_le s0
  obtain ⟨m, rfl⟩ := Int.eq_ofNat_of_zero_le t0
  rw [lb_eq (by omega), lb_eq (by omega)]
  unfold q_lor
  rw [Int64.ofInt_toInt, Int64.toBitVec_or, BitVec.getLsbD_or, one64 (by omega) (by omega)]
  by_cases e : m = n
  · subst e; simp
  · have : ¬ ((m : Int) = (n : Int)) := by omega
    simp [e, this]
theorem ib_not {x s t : Int} (s0 : 0 ≤ s) (s1 : s < 32) (t0 : 0 ≤ t) (t1 : t < 32) : ib (q_and x (q_xor (q_shl 1 s) (-1))) t = if t = s then 0 else ib x t := by
  obtain ⟨n, rfl⟩ := Int.eq_ofNat_of_zero_le s0
  obtain ⟨m, rfl⟩ := Int.eq_ofNat_of_zero_le t0
  rw [ib_eq (by omega), ib_eq (by omega)]
  unfold q_and q_xor
  have e1 : (Int32.ofInt (-1)).toBitVec = BitVec.allOnes 32 := rfl
  rw [Int32.ofInt_toInt, Int32.ofInt_toInt, Int32.toBitVec_and, Int32.toBitVec_xor, BitVec.getLsbD_and, BitVec.getLsbD_xor, one32 (by omega) (by omega), e1, BitVec.getLsbD_allOnes]
  have hm : m < 32 := by omega
  by_cases e : m = n
  · subst e; simp [hm]
  · have : ¬ ((m : Int) = (n : Int)) := by omega
    simp [e, this, hm]
theorem lb_not {x s t : Int} (s0 : 0 ≤ s) (s1 : s < 64) (t0 : 0 ≤ t) (t1 : t < 64) : lb (q_land x (q_lxor (q_lshl 1 s) (-1))) t = if t = s then 0 else lb x t := by
  obtain ⟨n, rfl⟩ := Int.eq_ofNat_of_zero_le s0
  obtain ⟨m, rfl⟩ := Int.eq_ofNat_of_zero_le t0
  rw [lb_eq (by omega), lb_eq (by omega)]
  unfold q_land q_lxor
  have e1 : (Int64.ofInt (-1)).toBitVec = BitVec.allOnes 64 := rfl
  rw [Int64.ofInt_toInt, Int64.ofInt_toInt, Int64.toBitVec_and, Int64.toBitVec_xor, BitVec.getLsbD_and, BitVec.getLsbD_xor, one64 (by omega) (by omega), e1, BitVec.getLsbD_allOnes]
  have hm : m < 64 := by omega
  by_cases e : m = n
  · subst e; simp [hm]
  · have : ¬ ((m : Int) = (n : Int)) := by omega
    simp [e, this, hm]
theorem ib_01 {x s : Int} (s0 : 0 ≤ s) (s1 : s < 32) : ib x s = 0 ∨ ib x s = 1 := by
  obtain ⟨n, rfl⟩ := Int.eq_ofNat_of_zero_le s0
  rw [ib_eq (by omega)]
  cases (Int32.ofInt x).toBitVec.getLsbD n <;> simp
theorem lb_01 {x s : Int} (s0 : 0 ≤ s) (s1 : s < 64) : lb x s = 0 ∨ lb x s = 1 := by
  obtain ⟨n, rfl⟩ := Int.eq_ofNat_of_zero_le s0
  rw [lb_eq (by omega)]
  cases (Int64.ofInt x).toBitVec.getLsbD n <;> simp
theorem ib_zero {s : Int} (s0 : 0 ≤ s) (s1 : s < 32) : ib 0 s = 0 := by
  obtain ⟨n, rfl⟩ := Int.eq_ofNat_of_zero_le s0
  rw [ib_eq (by omega)]
  have e1 : (Int32.ofInt 0).toBitVec = 0#32 := rfl
  rw [e1]; simp
theorem lb_zero {s : Int} (s0 : 0 ≤ s) (s1 : s < 64) : lb 0 s = 0 := by
  obtain ⟨n, rfl⟩ := Int.eq_ofNat_of_zero_le s0
  rw [lb_eq (by omega)]
  have e1 : (Int64.ofInt 0).toBitVec = 0#64 := rfl
  rw [e1]; simp
