/-! numbers -/
theorem q_w_bmod (x : Int) : q_w x = x.bmod (2 ^ 32) := by
  unfold q_w Int.bmod
  have e : ((2 ^ 32 : Nat) : Int) = 4294967296 := by decide
  rw [e]
  show _ = if x % 4294967296 < (4294967296 + 1) / 2 then x % 4294967296 else x % 4294967296 - 4294967296
  split <;> omega
theorem q_w_in (x : Int) : q_i32 (q_w x) := by unfold q_w q_i32; omega
theorem q_w_id {x : Int} (h : q_i32 x) : q_w x = x := by unfold q_w; unfold q_i32 at h; omega
theorem q_ti {v : Int} (h : q_i32 v) : (Int32.ofInt v).toInt = v := by
  rw [Int32.toInt_ofInt, ← q_w_bmod]; exact q_w_id h
theorem q_of_w (x : Int) : Int32.ofInt (q_w x) = Int32.ofInt x := by
  apply Int32.toInt_inj.mp
  rw [Int32.toInt_ofInt, Int32.toInt_ofInt, ← q_w_bmod, ← q_w_bmod]
  exact q_w_id (q_w_in x)
theorem q_toin (x : Int32) : q_i32 x.toInt := by
  have h1 := Int32.le_toInt x
  have h2 := Int32.toInt_lt x
  unfold q_i32; omega
theorem q_toin64 (x : Int64) : q_i64 x.toInt := by
  have h1 := Int64.le_toInt x
  have h2 := Int64.toInt_lt x
  unfold q_i64; omega
theorem q_ti64 {v : Int} (h : q_i64 v) : (Int64.ofInt v).toInt = v := by
  rw [Int64.toInt_ofInt]
  unfold Int.bmod
  have e : ((2 ^ 64 : Nat) : Int) = 18446744073709551616 := by decide
  rw [e]
  unfold q_i64 at h
  show (if v % 18446744073709551616 < (18446744073709551616 + 1) / 2 then v % 18446744073709551616 else v % 18446744073709551616 - 18446744073709551616) = v
  split <;> omega
theorem q_ofi (x : Int32) : Int32.ofInt x.toInt = x := Int32.ofInt_toInt x
theorem q_ofi64 (x : Int64) : Int64.ofInt x.toInt = x := Int64.ofInt_toInt x
theorem q_i32eq {a b : Int} (ha : q_i32 a) (hb : q_i32 b) : Int32.ofInt a = Int32.ofInt b ↔ a = b := by
  constructor
  · intro h; rw [← q_ti ha, ← q_ti hb, h]
  · rintro rfl; rfl
theorem q_i32lt {a b : Int} (ha : q_i32 a) (hb : q_i32 b) : Int32.ofInt a < Int32.ofInt b ↔ a < b := by
  rw [Int32.lt_iff_toInt_lt, q_ti ha, q_ti hb]
theorem q_i32le {a b : Int} (ha : q_i32 a) (hb : q_i32 b) : Int32.ofInt a ≤ Int32.ofInt b ↔ a ≤ b := by
  rw [Int32.le_iff_toInt_le, q_ti ha, q_ti hb]
theorem q_0 : q_i32 0 := by unfold q_i32; omega
theorem q_32_0 : (0 : Int32) = Int32.ofInt 0 := rfl
/-! locals -/
theorem q_at_set_eq : ∀ (ls : List q_V) (i : Nat) (v : q_V), i < ls.length → q_at (q_set ls i v) i = v
  | [], i, v, h => by simp at h
  | x :: r, 0, v, h => rfl
  | x :: r, i + 1, v, h => by
    show q_at (q_set r i v) i = v
    exact q_at_set_eq r i v (by simpa using h)
theorem q_at_set_ne : ∀ (ls : List q_V) (i j : Nat) (v : q_V), j ≠ i → q_at (q_set ls i v) j = q_at ls j
  | [], i, j, v, h => rfl
  | x :: r, 0, 0, v, h => absurd rfl h
  | x :: r, 0, j + 1, v, h => rfl
  | x :: r, i + 1, 0, v, h => rfl
  | x :: r, i + 1, j + 1, v, h => by
    show q_at (q_set r i v) j = q_at r j
    exact q_at_set_ne r i j v (fun e => h (by rw [e]))
theorem q_set_len : ∀ (ls : List q_V) (i : Nat) (v : q_V), (q_set ls i v).length = ls.length
  | [], i, v => rfl
  | x :: r, 0, v => rfl
  | x :: r, i + 1, v => by
    show (q_set r i v).length + 1 = r.length + 1
    rw [q_set_len r i v]
theorem q_at_lt : ∀ (ls : List q_V) (i : Nat), (q_at ls i).1 ≠ 9 → i < ls.length
  | [], i, h => absurd rfl h
  | x :: r, 0, h => by simp
  | x :: r, i + 1, h => by
    have := q_at_lt r i h
    simp; exact this
theorem q_lk_spec {ls : List q_V} {i : Nat} (h : q_lk ls i = true) : i < ls.length ∧ ∀ j, j + 1 = i → (q_at ls j).1 ≠ 3 := by
  unfold q_lk at h
  rw [Bool.and_eq_true] at h
  obtain ⟨h1, h2⟩ := h
  refine ⟨Nat.blt_eq.mp h1, ?_⟩
  rintro j rfl
  intro e
  simp [e] at h2
/-- the locals that are set, as the kit lists them -/
def q_ll (E : q_X) (ls : List q_V) : List (Nat × Value) := (List.range ls.length).filterMap (fun i => if (q_at ls i).1 = 9 then none else some (i, q_cv E (q_at ls i)))
theorem q_ll_mem {E : q_X} {ls : List q_V} {q : Nat × Value} : q ∈ q_ll E ls ↔ (q_at ls q.1).1 ≠ 9 ∧ q.2 = q_cv E (q_at ls q.1) := by
  unfold q_ll
  rw [List.mem_filterMap]
  constructor
  · rintro ⟨i, hi, h⟩
    split at h
    · cases h
    · cases h
      rename_i hn
      exact ⟨hn, rfl⟩
  · rintro ⟨h1, h2⟩
    refine ⟨q.1, List.mem_range.mpr (q_at_lt ls q.1 h1), ?_⟩
    rw [if_neg h1, ← h2]
theorem q_ls_has {E : q_X} {nL : Nat} {ls : List q_V} {A : Array Slot} (h : q_ls E nL ls A) : lv_has A nL (q_ll E ls) := by
  obtain ⟨h1, h2, h3, h4⟩ := h
  refine ⟨h2, h3, fun q hq => ?_⟩
  obtain ⟨a, b⟩ := q_ll_mem.mp hq
  rw [h4 q.1 a, b]
theorem q_cv_cat (E : q_X) (v : q_V) : (q_cv E v).category = if v.1 = 3 then 2 else 1 := by
  unfold q_cv
  by_cases h0 : v.1 = 0
  · simp [h0, Value.category]
  · by_cases h3 : v.1 = 3
    · simp [h3, Value.category]
    · simp [h0, h3, Value.category]
theorem q_ls_store1 {E : q_X} {nL : Nat} {ls : List q_V} {A A' : Array Slot} {i : Nat} {v : q_V} (h : q_ls E nL ls A) (hk : q_lk ls i = true) (h9 : v.1 ≠ 9)
    (hA : lv_has A' nL ((i, q_cv E v) :: (q_ll E ls).filter (fun q => !(q.1 == i) && !(q.1 + 1 == i && q.2.category == 2)))) : q_ls E nL (q_set ls i v) A' := by
  obtain ⟨k1, k2⟩ := q_lk_spec hk
  obtain ⟨a1, a2, a3⟩ := hA
  refine ⟨by rw [q_set_len]; exact h.1, a1, a2, fun j hj => ?_⟩
  by_cases e : j = i
  · subst e
    rw [q_at_set_eq ls j v k1]
    exact a3 _ List.mem_cons_self
  · rw [q_at_set_ne ls i j v e] at hj ⊢
    refine a3 (j, q_cv E (q_at ls j)) (List.mem_cons_of_mem _ (List.mem_filter.mpr ⟨q_ll_mem.mpr ⟨hj, rfl⟩, ?_⟩))
    simp only [Bool.and_eq_true, Bool.not_eq_true', beq_eq_false_iff_ne, ne_eq, Bool.and_eq_false_iff]
    refine ⟨e, ?_⟩
    by_cases e2 : j + 1 = i
    · right
      rw [q_cv_cat, if_neg (k2 j e2)]
      decide
    · exact Or.inl e2
theorem q_fk_set {s : q_M} {ls st st' : List q_V} {i : Nat} {v : q_V} (h : q_fk s ls st) (hv : q_vk s v) (hs : ∀ x ∈ st', x ∈ st) : q_fk s (q_set ls i v) st' := by
  refine ⟨fun j hj => ?_, fun x hx => h.2 x (hs x hx)⟩
  by_cases e : j = i
  · subst e
    by_cases hl : j < ls.length
    · rw [q_at_set_eq ls j v hl]; exact hv
    · exact absurd (by rw [q_set_len]; exact Nat.not_lt.mp hl) (Nat.not_le.mpr (q_at_lt _ _ hj))
  · rw [q_at_set_ne ls i j v e] at hj ⊢
    exact h.1 j hj
theorem q_ext_rf (s : q_M) : q_ext s s := ⟨Int.le_refl _, fun _ _ => rfl⟩
theorem q_ext_tr {s t u : q_M} (h : q_ext s t) (g : q_ext t u) : q_ext s u := ⟨Int.le_trans h.1 g.1, fun k hk => (g.2 k (Int.lt_of_lt_of_le hk h.1)).trans (h.2 k hk)⟩
theorem q_vk_ext {s t : q_M} (h : q_ext s t) {v : q_V} (hv : q_vk s v) : q_vk t v := by
  rcases hv with a | a | ⟨a, ⟨b1, b2, b3⟩ | b⟩
  · exact Or.inl a
  · exact Or.inr (Or.inl a)
  · exact Or.inr (Or.inr ⟨a, Or.inl ⟨b1, Int.lt_of_lt_of_le b2 h.1, by rw [h.2 _ b2]; exact b3⟩⟩)
  · exact Or.inr (Or.inr ⟨a, Or.inr b⟩)
theorem q_fk_ext {s t : q_M} (h : q_ext s t) {ls st : List q_V} (hf : q_fk s ls st) : q_fk t ls st := ⟨fun i hi => q_vk_ext h (hf.1 i hi), fun v hv => q_vk_ext h (hf.2 v hv)⟩
theorem q_vk_i {s : q_M} {v : Int} (h : q_vk s (0, v)) : q_i32 v := by
  rcases h with a | a | a
  · exact a.2
  · exact absurd a.1 (by simp)
  · exact absurd a.1 (by simp)
theorem q_vk_l {s : q_M} {v : Int} (h : q_vk s (3, v)) : q_i64 v := by
  rcases h with a | a | a
  · exact absurd a.1 (by simp)
  · exact a.2
  · exact absurd a.1 (by simp)
theorem q_cv_i (E : q_X) (v : Int) : q_cv E (0, v) = .int (Int32.ofInt v) := rfl
theorem q_cv_l (E : q_X) (v : Int) : q_cv E (3, v) = .long (Int64.ofInt v) := rfl
theorem q_cv_r (E : q_X) {t : Nat} (v : Int) (h : 10 ≤ t) : q_cv E (t, v) = .ref (q_a E v) := by
  unfold q_cv
  rw [if_neg (show ¬ t = 0 by omega), if_neg (show ¬ t = 3 by omega)]
