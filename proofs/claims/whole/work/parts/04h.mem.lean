/-! the memory: where a cell stands, what of it changes -/
theorem q_ws_at {E : q_X} {s : q_M} {k : Int} (h0 : 0 ≤ k) (h1 : k < s.1.1) : (q_ws E s)[k.toNat]? = some (q_a E k, q_en E (s.1.2 k) (s.2 k)) := by
  unfold q_ws q_a
  rw [List.getElem?_map, List.getElem?_range (by omega), if_pos h0]
  have e : ((k.toNat : Nat) : Int) = k := by omega
  simp only [Option.map_some, e]
theorem q_ws_inv {E : q_X} {s : q_M} {i : Nat} {x : Nat × va_E} (h : (q_ws E s)[i]? = some x) : i < s.1.1.toNat ∧ x = (E.1 + i, q_en E (s.1.2 i) (s.2 i)) := by
  unfold q_ws at h
  rw [List.getElem?_map] at h
  by_cases hi : i < s.1.1.toNat
  · rw [List.getElem?_range hi] at h
    cases h
    exact ⟨hi, rfl⟩
  · rw [List.getElem?_eq_none (by rw [List.length_range]; omega)] at h
    cases h
theorem q_ws_len (E : q_X) (s : q_M) : (q_ws E s).length = s.1.1.toNat := by simp [q_ws]
theorem q_mkD (E : q_X) (s : q_M) : va_D (fun q => E.1 ≤ q) (q_ws E s) := by
  refine ⟨fun i j x y hi hj hxy => ?_, fun k x hk => ?_⟩
  · obtain ⟨-, rfl⟩ := q_ws_inv hi
    obtain ⟨-, rfl⟩ := q_ws_inv hj
    simp only at hxy
    omega
  · obtain ⟨-, rfl⟩ := q_ws_inv hk
    show E.1 ≤ E.1 + k
    omega
/-- the heap since the method's entry -/
theorem q_mkS {E : q_X} {s : State} {s0 s1 : q_M} {H : Heap} {locs : List Loc} (hz : s.heap.size = E.1 + s0.1.1.toNat) (ho : ∀ q : Nat, q < E.1 → s.heap[q]? = E.2.1[q]?) (h0 : s0.1.1 ≤ s1.1.1) (h : q_rel E s1 H) (hl : ∀ x ∈ locs, E.1 ≤ x.base) : va_S (fun q => E.1 ≤ q) s.heap H locs := by
  refine ⟨?_, fun q h1 h2 => ?_, hl⟩
  · rw [hz, h.1]; omega
  · rw [h.2.1 q (Nat.not_le.mp h2), ho q (Nat.not_le.mp h2)]
theorem q_en_o {E : q_X} {c : Nat} {n : Int} {row : Int → Int} (hc : c < 20) : q_en E (10 + c, n) row = .inr (c, (q_ft c).mapIdx (fun j u => q_fv E u (row j))) := by
  unfold q_en
  rw [if_neg (by simp; omega), if_neg (by simp; omega)]
  simp
theorem q_en_i {E : q_X} {t : Nat} {n : Int} {row : Int → Int} (h : t = 30 ∨ t = 31) : q_en E (t, n) row = .inl (E.2.2.2.2 t, n.toNat, .inl (fun j => Int32.ofInt (row j))) := by
  unfold q_en
  rw [if_pos h]
theorem q_en_q {E : q_X} {t : Nat} {n : Int} {row : Int → Int} (h : 32 ≤ t) : q_en E (t, n) row = .inl (E.2.2.2.2 t, n.toNat, .inr (.inr (.inr (.inr (fun j => q_rf E (row j)))))) := by
  unfold q_en
  rw [if_neg (by simp; omega), if_pos h]
theorem q_vk_o {s : q_M} {t : Nat} {k : Int} (h : q_vk s (t, k)) (h1 : 10 ≤ t) (h2 : t ≠ 30) (h3 : t ≠ 33) : 0 ≤ k ∧ k < s.1.1 ∧ (s.1.2 k).1 = t := by
  rcases h with a | a | ⟨a, b | b | b⟩
  · exact absurd a.1 (by simp only; omega)
  · exact absurd a.1 (by simp only; omega)
  · exact b
  · exact absurd b.1 h2
  · exact absurd b.1 h3
theorem q_vk_ia {s : q_M} {k : Int} (h : q_vk s (30, k)) : (0 ≤ k ∧ k < s.1.1 ∧ (s.1.2 k).1 = 30) ∨ k = -5 ∨ k = -6 := by
  rcases h with a | a | ⟨a, b | b | b⟩
  · exact absurd a.1 (by simp)
  · exact absurd a.1 (by simp)
  · exact Or.inl b
  · exact Or.inr b.2
  · exact absurd b.1 (by simp)
theorem q_pr (x : Nat × Int) {t : Nat} (h : x.1 = t) : x = (t, x.2) := by subst h; rfl
/-- what a good field is -/
theorem q_ck_f {s : q_M} {k : Int} {c j u : Nat} (h : q_ck s k) (ht : (s.1.2 k).1 = 10 + c) (hc : c < 13) (hu : (q_ft c)[j]? = some u) : q_sk s u (s.2 k j) := by
  rcases h with a | ⟨a1, a2, a3⟩
  · exact absurd a.1 (by omega)
  · refine a3 j u ?_
    rw [ht]
    simpa using hu
theorem q_ck_a {s : q_M} {k : Int} (h : q_ck s k) (ht : 30 ≤ (s.1.2 k).1) {j : Int} (h0 : 0 ≤ j) (h1 : j < (s.1.2 k).2) : q_sk s (q_el (s.1.2 k).1) (s.2 k j) := by
  rcases h with a | a
  · exact a.2.2.2.2.2 j h0 h1
  · exact absurd a.2.1 (by omega)
theorem q_ck_len {s : q_M} {k : Int} (h : q_ck s k) (ht : 30 ≤ (s.1.2 k).1) : 0 ≤ (s.1.2 k).2 ∧ (s.1.2 k).2 ≤ 10000 := by
  rcases h with a | a
  · exact ⟨a.2.2.2.1, a.2.2.2.2.1⟩
  · exact absurd a.2.1 (by omega)
theorem q_sk_ext {s t : q_M} (h : q_ext s t) {u : Nat} {v : Int} (hv : q_sk s u v) : q_sk t u v := by
  rcases hv with a | a | a | ⟨a, b | ⟨b1, b2⟩⟩
  · exact Or.inl a
  · exact Or.inr (Or.inl a)
  · exact Or.inr (Or.inr (Or.inl a))
  · exact Or.inr (Or.inr (Or.inr ⟨a, Or.inl b⟩))
  · exact Or.inr (Or.inr (Or.inr ⟨a, Or.inr ⟨Int.lt_of_lt_of_le b1 h.1, by rw [h.2 _ b1]; exact b2⟩⟩))
/-- a slot of a cell of mine is written -/
theorem q_ext_up (s : q_M) (h : Int → Int → Int) : q_ext s (s.1, h) := ⟨Int.le_refl _, fun _ _ => rfl⟩
theorem q_up_same (h : Int → Int → Int) (k j v : Int) : q_up h k j v k j = v := if_pos ⟨rfl, rfl⟩
theorem q_up_cell (h : Int → Int → Int) {k j v a : Int} (ha : a ≠ k) : q_up h k j v a = h a := by
  funext b
  exact if_neg (fun z => ha z.1)
theorem q_up_slot (h : Int → Int → Int) {k j v b : Int} (hb : b ≠ j) (a : Int) : q_up h k j v a b = h a b := if_neg (fun z => hb z.2)
theorem q_mok_up {E : q_X} {s : q_M} {k j v : Int} (hm : q_mok E s) (hk : 0 ≤ k) (hg : ∀ (h' : Int → Int → Int), h' = q_up s.2 k j v → k < s.1.1 → q_ck s k → q_ck (s.1, h') k) : q_mok E (s.1, q_up s.2 k j v) := by
  obtain ⟨m1, m2, m3, m4, m5⟩ := hm
  have old : ∀ a : Int, a < 0 → q_old E s a → q_old E (s.1, q_up s.2 k j v) a := by
    intro a ha ho
    have e : (q_up s.2 k j v) a = s.2 a := q_up_cell _ (by omega)
    unfold q_old
    show _ ∧ _ ∧ _ ∧ _ ∧ (∀ i, 0 ≤ i → i < (s.1.2 a).2 → q_i32 ((q_up s.2 k j v) a i)) ∧ ∃ cell : Cell, E.2.1[E.2.2.1 a]? = some cell ∧ cell.vm ≠ .unknown ∧ (s.1.2 a).2.toNat ≤ cell.slots.size ∧ cell.slots.size.toInt32 = Int32.ofInt (s.1.2 a).2 ∧ ∀ i : Nat, i < (s.1.2 a).2.toNat → cell.slots[i]? = some (.int (Int32.ofInt ((q_up s.2 k j v) a i)))
    rw [e]
    exact ho
  refine ⟨m1, fun a h0 h1 => ?_, old _ (by decide) m3, old _ (by decide) m4, m5⟩
  by_cases e : a = k
  · subst e
    exact hg _ rfl h1 (m2 a h0 h1)
  · have e2 : (q_up s.2 k j v) a = s.2 a := q_up_cell _ e
    have h2 := m2 a h0 h1
    unfold q_ck at h2 ⊢
    show (30 ≤ (s.1.2 a).1 ∧ (s.1.2 a).1 ≠ 33 ∧ ((s.1.2 a).1 ≤ 32 ∨ (40 ≤ (s.1.2 a).1 ∧ (s.1.2 a).1 < 53)) ∧ 0 ≤ (s.1.2 a).2 ∧ (s.1.2 a).2 ≤ 10000 ∧ ∀ j', 0 ≤ j' → j' < (s.1.2 a).2 → q_sk (s.1, q_up s.2 k j v) (q_el (s.1.2 a).1) ((q_up s.2 k j v) a j')) ∨
      (10 ≤ (s.1.2 a).1 ∧ (s.1.2 a).1 < 23 ∧ ∀ (j' : Nat) (u : Nat), (q_ft ((s.1.2 a).1 - 10))[j']? = some u → q_sk (s.1, q_up s.2 k j v) u ((q_up s.2 k j v) a j'))
    rw [e2]
    exact h2
/-- the cells' list behind a write -/
theorem q_ws_up {E : q_X} {s : q_M} {k j v : Int} (h0 : 0 ≤ k) (h1 : k < s.1.1) : q_ws E (s.1, q_up s.2 k j v) = (q_ws E s).set k.toNat (q_a E k, q_en E (s.1.2 k) (q_up s.2 k j v k)) := by
  apply List.ext_getElem?
  intro i
  rw [List.getElem?_set]
  by_cases hi : k.toNat = i
  · subst hi
    have hl : k.toNat < (q_ws E s).length := by rw [q_ws_len]; omega
    rw [if_pos rfl, if_pos hl]
    exact q_ws_at (s := (s.1, q_up s.2 k j v)) h0 h1
  · rw [if_neg hi]
    unfold q_ws
    rw [List.getElem?_map, List.getElem?_map]
    show Option.map (fun (k' : Nat) => (E.1 + k', q_en E (s.1.2 k') (q_up s.2 k j v k'))) (List.range s.1.1.toNat)[i]? = _
    by_cases hl : i < s.1.1.toNat
    · rw [List.getElem?_range hl]
      simp only [Option.map_some]
      rw [q_up_cell s.2 (show (i : Int) ≠ k by omega)]
    · rw [List.getElem?_eq_none (by rw [List.length_range]; omega)]
      rfl
