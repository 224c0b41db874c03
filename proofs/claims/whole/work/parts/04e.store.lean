section SP2
variable {E : q_X} {l : Launch} {I : q_I} {own : String} {cc : ByteArray} {nL : Nat} {rt : Option FieldType} {nm : String} {d : Nat}
-- stores
theorem q_beqn {a b : Nat} (h : ¬ Nat.beq a b = true) : ¬ a = b := fun z => h (by rw [z]; exact Nat.beq_refl b)
theorem q_istore_spec {i n : Nat} {C : q_C} {K : q_K} {ls st : List q_V} {s1 : q_M} {r : q_V × q_M} (h : o_istore i n C K ls st s1 = some r) : ∃ v st', st = (0, v) :: st' ∧ q_lk ls i = true ∧ K n (q_set ls i (0, v)) st' s1 = some r := by
  unfold o_istore at h
  split at h
  · split at h
    · rename_i v st' hk; exact ⟨v, st', rfl, hk, h⟩
    · cases h
  · cases h
theorem q_astore_spec {i n : Nat} {C : q_C} {K : q_K} {ls st : List q_V} {s1 : q_M} {r : q_V × q_M} (h : o_astore i n C K ls st s1 = some r) : ∃ t v st', st = (t, v) :: st' ∧ 10 ≤ t ∧ q_lk ls i = true ∧ K n (q_set ls i (t, v)) st' s1 = some r := by
  unfold o_astore at h
  split at h
  · split at h
    · rename_i t v st' hk
      rw [Bool.and_eq_true] at hk
      exact ⟨t, v, st', rfl, Nat.le_of_ble_eq_true hk.1, hk.2, h⟩
    · cases h
  · cases h
theorem q_lstore_spec {i n : Nat} {C : q_C} {K : q_K} {ls st : List q_V} {s1 : q_M} {r : q_V × q_M} (h : o_lstore i n C K ls st s1 = some r) : ∃ v st', st = (3, v) :: st' ∧ q_lk ls i = true ∧ i + 1 < ls.length ∧ K n (q_set (q_set ls i (3, v)) (i + 1) (9, 0)) st' s1 = some r := by
  unfold o_lstore at h
  split at h
  · split at h
    · rename_i v st' hk
      rw [Bool.and_eq_true] at hk
      exact ⟨v, st', rfl, hk.1, Nat.blt_eq.mp hk.2, h⟩
    · cases h
  · cases h
theorem q_lk_nL {ls : List q_V} {i : Nat} {A : Array Slot} (h : q_ls E nL ls A) (hk : q_lk ls i = true) : i < nL := h.1 ▸ (q_lk_spec hk).1
theorem s_istore_n {pc i : Nat} {k0 : Fin 4} (hd : decode cc pc = .ok (.istore_n k0, 1)) (hi : (k0 : Nat) = i) : q_sim E l I own cc nL rt nm d pc (o_istore i (pc + 1)) := by
  refine ⟨f_istore _ _, fun p e R s m args below meth c Q s0 r hc hr C K ls st s1 h _ hK => ?_⟩
  obtain ⟨v, st', rfl, hk, h⟩ := q_istore_spec h
  refine q_go (hK _ _ _ _ h) fun hm hf => ⟨q_fk_set hf (q_fk_top hf) (fun x hx => List.mem_cons_of_mem _ hx), fun H locs A a1 a2 a3 k => ?_⟩
  exact lv_istore_n hc.1 hc.2.1 hd hi (q_ls_has a2) (q_lk_nL a2 hk) rfl (fun A' hA' => k A' (q_ls_store1 a2 hk (by simp) hA'))
theorem s_istore {pc i : Nat} (hd : decode cc pc = .ok (.istore i, 2)) : q_sim E l I own cc nL rt nm d pc (o_istore i (pc + 2)) := by
  refine ⟨f_istore _ _, fun p e R s m args below meth c Q s0 r hc hr C K ls st s1 h _ hK => ?_⟩
  obtain ⟨v, st', rfl, hk, h⟩ := q_istore_spec h
  refine q_go (hK _ _ _ _ h) fun hm hf => ⟨q_fk_set hf (q_fk_top hf) (fun x hx => List.mem_cons_of_mem _ hx), fun H locs A a1 a2 a3 k => ?_⟩
  exact lv_istore hc.1 hc.2.1 hd (q_ls_has a2) (q_lk_nL a2 hk) rfl (fun A' hA' => k A' (q_ls_store1 a2 hk (by simp) hA'))
theorem s_astore_n {pc i : Nat} {k0 : Fin 4} (hd : decode cc pc = .ok (.astore_n k0, 1)) (hi : (k0 : Nat) = i) : q_sim E l I own cc nL rt nm d pc (o_astore i (pc + 1)) := by
  refine ⟨f_astore _ _, fun p e R s m args below meth c Q s0 r hc hr C K ls st s1 h _ hK => ?_⟩
  obtain ⟨t, v, st', rfl, ht, hk, h⟩ := q_astore_spec h
  refine q_go (hK _ _ _ _ h) fun hm hf => ⟨q_fk_set hf (q_fk_top hf) (fun x hx => List.mem_cons_of_mem _ hx), fun H locs A a1 a2 a3 k => ?_⟩
  rw [List.map_cons, q_cv_r E v ht]
  exact lv_astore_n hc.1 hc.2.1 hd hi (q_ls_has a2) (q_lk_nL a2 hk) rfl (fun A' hA' => k A' (q_ls_store1 a2 hk (q_n9 ht) (by rw [q_cv_r E v ht]; exact hA')))
theorem s_astore {pc i : Nat} (hd : decode cc pc = .ok (.astore i, 2)) : q_sim E l I own cc nL rt nm d pc (o_astore i (pc + 2)) := by
  refine ⟨f_astore _ _, fun p e R s m args below meth c Q s0 r hc hr C K ls st s1 h _ hK => ?_⟩
  obtain ⟨t, v, st', rfl, ht, hk, h⟩ := q_astore_spec h
  refine q_go (hK _ _ _ _ h) fun hm hf => ⟨q_fk_set hf (q_fk_top hf) (fun x hx => List.mem_cons_of_mem _ hx), fun H locs A a1 a2 a3 k => ?_⟩
  rw [List.map_cons, q_cv_r E v ht]
  exact lv_astore hc.1 hc.2.1 hd (q_ls_has a2) (q_lk_nL a2 hk) rfl (fun A' hA' => k A' (q_ls_store1 a2 hk (q_n9 ht) (by rw [q_cv_r E v ht]; exact hA')))
theorem q_ls_store2 {ls : List q_V} {A A' : Array Slot} {i : Nat} {v : Int} (h : q_ls E nL ls A) (hk : q_lk ls i = true) (h2 : i + 1 < ls.length)
    (hA : lv_has A' nL ((i, .long (Int64.ofInt v)) :: (q_ll E ls).filter (fun q => !(q.1 == i) && (!(q.1 == i + 1) && !(q.1 + 1 == i && q.2.category == 2))))) : q_ls E nL (q_set (q_set ls i (3, v)) (i + 1) (9, 0)) A' := by
  obtain ⟨k1, k2⟩ := q_lk_spec hk
  obtain ⟨a1, a2, a3⟩ := hA
  refine ⟨by rw [q_set_len, q_set_len]; exact h.1, a1, a2, fun j hj => ?_⟩
  by_cases e1 : j = i + 1
  · subst e1
    rw [q_at_set_eq _ _ _ (by rw [q_set_len]; exact h2)] at hj
    exact absurd rfl hj
  · rw [q_at_set_ne _ _ _ _ e1] at hj ⊢
    by_cases e : j = i
    · subst e
      rw [q_at_set_eq ls j _ k1]
      exact a3 _ List.mem_cons_self
    · rw [q_at_set_ne ls i j _ e] at hj ⊢
      refine a3 (j, q_cv E (q_at ls j)) (List.mem_cons_of_mem _ (List.mem_filter.mpr ⟨q_ll_mem.mpr ⟨hj, rfl⟩, ?_⟩))
      simp only [Bool.and_eq_true, Bool.not_eq_true', beq_eq_false_iff_ne, ne_eq, Bool.and_eq_false_iff]
      refine ⟨e, e1, ?_⟩
      by_cases e2 : j + 1 = i
      · right
        rw [q_cv_cat, if_neg (k2 j e2)]
        decide
      · exact Or.inl e2
theorem q_fk_set2 {s : q_M} {ls st st' : List q_V} {i : Nat} {v : q_V} (h : q_fk s ls st) (hv : q_vk s v) (hs : ∀ x ∈ st', x ∈ st) : q_fk s (q_set (q_set ls i v) (i + 1) (9, 0)) st' := by
  have h1 := q_fk_set (i := i) h hv hs
  refine ⟨fun j hj => ?_, h1.2⟩
  by_cases e1 : j = i + 1
  · subst e1
    by_cases hl : i + 1 < (q_set ls i v).length
    · rw [q_at_set_eq _ _ _ hl] at hj
      exact absurd rfl hj
    · exact absurd (by rw [q_set_len]; exact Nat.not_lt.mp hl) (Nat.not_le.mpr (q_at_lt _ _ hj))
  · rw [q_at_set_ne _ _ _ _ e1] at hj ⊢
    exact h1.1 j hj
theorem s_lstore {pc i : Nat} (hd : decode cc pc = .ok (.lstore i, 2)) : q_sim E l I own cc nL rt nm d pc (o_lstore i (pc + 2)) := by
  refine ⟨f_lstore _ _, fun p e R s m args below meth c Q s0 r hc hr C K ls st s1 h _ hK => ?_⟩
  obtain ⟨v, st', rfl, hk, h2, h⟩ := q_lstore_spec h
  refine q_go (hK _ _ _ _ h) fun hm hf => ⟨q_fk_set2 hf (q_fk_top hf) (fun x hx => List.mem_cons_of_mem _ hx), fun H locs A a1 a2 a3 k => ?_⟩
  exact lv_lstore hc.1 hc.2.1 hd (q_ls_has a2) (a2.1 ▸ h2) rfl (fun A' hA' => k A' (q_ls_store2 a2 hk h2 hA'))
theorem q_iinc_spec {i n : Nat} {k0 : Int} {C : q_C} {K : q_K} {ls st : List q_V} {s1 : q_M} {r : q_V × q_M} (h : o_iinc i k0 n C K ls st s1 = some r) : ∃ v, q_at ls i = (0, v) ∧ K n (q_set ls i (0, q_w (v + k0))) st s1 = some r := by
  unfold o_iinc at h
  split at h
  · rename_i v hv; exact ⟨v, hv, h⟩
  · cases h
theorem q_ls_storeI {ls : List q_V} {A A' : Array Slot} {i : Nat} {v w : Int} (h : q_ls E nL ls A) (hv : q_at ls i = (0, w))
    (hA : lv_has A' nL ((i, .int (Int32.ofInt v)) :: (q_ll E ls).filter (fun q => !(q.1 == i) && !(q.1 + 1 == i && q.2.category == 2)))) : q_ls E nL (q_set ls i (0, v)) A' := by
  have hi : i < ls.length := q_at_lt ls i (by rw [hv]; simp)
  refine q_ls_store1 (v := (0, v)) h ?_ (by simp) hA
  unfold q_lk
  rw [Bool.and_eq_true]
  refine ⟨Nat.blt_eq.mpr hi, ?_⟩
  cases i with
  | zero => rfl
  | succ j =>
    by_cases e3 : (q_at ls j).1 = 3
    · exfalso
      have h1 : A[j]? = some (.val (q_cv E (q_at ls j))) := h.2.2.2 j (by omega)
      have h2 := h.2.2.1.1 j _ h1 (by rw [q_cv_cat, if_pos e3])
      have h3 := h.2.2.2 (j + 1) (by rw [hv]; simp)
      rw [h2] at h3
      cases h3
    · show (!(Nat.beq (q_at ls j).1 3)) = true
      rw [Bool.not_eq_true']
      exact Bool.eq_false_iff.mpr (fun z => e3 (Nat.eq_of_beq_eq_true z))
theorem s_iinc {pc i : Nat} {n : Int} (hd : decode cc pc = .ok (.iinc i n, 3)) : q_sim E l I own cc nL rt nm d pc (o_iinc i n (pc + 3)) := by
  refine ⟨f_iinc _ _ _, fun p e R s m args below meth c Q s0 r hc hr C K ls st s1 h _ hK => ?_⟩
  obtain ⟨v, hv, h⟩ := q_iinc_spec h
  refine q_go (hK _ _ _ _ h) fun hm hf => ⟨q_fk_set hf (q_vk_int (q_w_in _)) (fun x hx => hx), fun H locs A a1 a2 a3 k => ?_⟩
  have hmem : ((i, .int (Int32.ofInt v)) : Nat × Value) ∈ q_ll E ls := q_ll_mem.mpr ⟨by rw [hv]; simp, by rw [hv]; rfl⟩
  obtain ⟨k9, hk9⟩ := List.getElem?_of_mem hmem
  have hi : i < nL := a2.1 ▸ q_at_lt ls i (by rw [hv]; simp)
  exact lv_iinc (v := Int32.ofInt (q_w (v + n))) hc.1 hc.2.1 hd (q_ls_has a2) hk9 (by rw [q_of_w, Int32.ofInt_add]) hi rfl (fun A' hA' => k A' (q_ls_storeI a2 hv hA'))
-- the stack
theorem s_dup {pc : Nat} (hd : decode cc pc = .ok (.dup, 1)) : q_sim E l I own cc nL rt nm d pc (o_dup (pc + 1)) := by
  refine ⟨f_dup _, fun p e R s m args below meth c Q s0 r hc hr C K ls st s1 h _ hK => ?_⟩
  unfold o_dup at h
  split at h
  · split at h
    · cases h
    · rename_i t v st' h3
      refine q_go (hK _ _ _ _ h) fun hm hf => ⟨q_fk_push hf (q_fk_top hf), fun H locs A a1 a2 a3 k => ?_⟩
      exact lv_dup hc.1 hc.2.1 hd (by rw [q_cv_cat, if_neg]; simpa using h3) (k A a2)
  · cases h
theorem s_pop {pc : Nat} (hd : decode cc pc = .ok (.pop, 1)) : q_sim E l I own cc nL rt nm d pc (o_pop (pc + 1)) := by
  refine ⟨f_pop _, fun p e R s m args below meth c Q s0 r hc hr C K ls st s1 h _ hK => ?_⟩
  unfold o_pop at h
  split at h
  · split at h
    · cases h
    · rename_i t v st' h3
      refine q_go (hK _ _ _ _ h) fun hm hf => ⟨q_fk_pop hf, fun H locs A a1 a2 a3 k => ?_⟩
      exact lv_pop hc.1 hc.2.1 hd (by rw [q_cv_cat, if_neg]; simpa using h3) (k A a2)
  · cases h
theorem s_dup2 {pc : Nat} (hd : decode cc pc = .ok (.dup2, 1)) : q_sim E l I own cc nL rt nm d pc (o_dup2 (pc + 1)) := by
  refine ⟨f_dup2 _, fun p e R s m args below meth c Q s0 r hc hr C K ls st s1 h _ hK => ?_⟩
  unfold o_dup2 at h
  split at h
  · split at h
    · cases h
    · rename_i t v u w st' h3
      simp only [Bool.or_eq_true, Nat.beq_eq_true_eq, not_or] at h3
      refine q_go (hK _ _ _ _ h) fun hm hf => ⟨q_fk_push (q_fk_push hf (q_fk_top (q_fk_pop hf))) (q_fk_top hf), fun H locs A a1 a2 a3 k => ?_⟩
      exact lv_dup2_11 hc.1 hc.2.1 hd (by rw [q_cv_cat, if_neg (q_beqn h3.1)]) (by rw [q_cv_cat, if_neg (q_beqn h3.2)]) (k A a2)
  · cases h
theorem s_goto {pc t : Nat} {off : Int} (hd : decode cc pc = .ok (.goto off, 3)) (ht : (pc : Int) + off = (t : Int)) : q_sim E l I own cc nL rt nm d pc (o_goto t) := by
  refine ⟨f_goto _, fun p e R s m args below meth c Q s0 r hc hr C K ls st s1 h _ hK => ?_⟩
  refine q_go (hK _ _ _ _ h) fun hm hf => ⟨hf, fun H locs A a1 a2 a3 k => ?_⟩
  exact lv_goto hc.1 hc.2.1 hd ht (k A a2)
end SP2
