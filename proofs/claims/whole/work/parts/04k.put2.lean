section SH
variable {E : q_X} {l : Launch} {I : q_I} {own : String} {cc : ByteArray} {nL : Nat} {rt : Option FieldType} {nm : String} {d : Nat}
theorem q_zn0 : narrow .boolean (.int (Int32.ofInt 0)) = .int (Int32.ofInt 0) := by decide +kernel
theorem q_zn1 : narrow .boolean (.int (Int32.ofInt 1)) = .int (Int32.ofInt 1) := by decide +kernel
theorem q_zf0 : fits .boolean (.int (Int32.ofInt 0)) = true := by decide +kernel
theorem q_zf1 : fits .boolean (.int (Int32.ofInt 1)) = true := by decide +kernel
theorem q_putI_spec {t n : Nat} {j : Int} {C : q_C} {K : q_K} {ls st : List q_V} {s1 : q_M} {r : q_V × q_M} (h : o_putI t j n C K ls st s1 = some r) : ∃ k v st', st = (0, v) :: (t, k) :: st' ∧ K n ls st' (s1.1, q_up s1.2 k j v) = some r := by
  unfold o_putI at h
  split at h
  · split at h
    · rename_i v t' k st' ht
      exact ⟨k, v, st', by rw [Nat.eq_of_beq_eq_true ht], h⟩
    · cases h
  · cases h
theorem q_putL_spec {t n : Nat} {j : Int} {C : q_C} {K : q_K} {ls st : List q_V} {s1 : q_M} {r : q_V × q_M} (h : o_putL t j n C K ls st s1 = some r) : ∃ k v st', st = (3, v) :: (t, k) :: st' ∧ K n ls st' (s1.1, q_up s1.2 k j v) = some r := by
  unfold o_putL at h
  split at h
  · split at h
    · rename_i v t' k st' ht
      exact ⟨k, v, st', by rw [Nat.eq_of_beq_eq_true ht], h⟩
    · cases h
  · cases h
theorem q_putZ_spec {t n : Nat} {j : Int} {C : q_C} {K : q_K} {ls st : List q_V} {s1 : q_M} {r : q_V × q_M} (h : o_putZ t j n C K ls st s1 = some r) : ∃ k v st', st = (0, v) :: (t, k) :: st' ∧ (v = 0 ∨ v = 1) ∧ K n ls st' (s1.1, q_up s1.2 k j v) = some r := by
  unfold o_putZ at h
  split at h
  · split at h
    · split at h
      · rename_i v t' k st' ht hv
        exact ⟨k, v, st', by rw [Nat.eq_of_beq_eq_true ht], hv, h⟩
      · cases h
    · cases h
  · cases h
theorem q_putR_spec {t u n : Nat} {j : Int} {C : q_C} {K : q_K} {ls st : List q_V} {s1 : q_M} {r : q_V × q_M} (h : o_putR t j u n C K ls st s1 = some r) : ∃ k v st', st = (u, v) :: (t, k) :: st' ∧ 0 ≤ v ∧ K n ls st' (s1.1, q_up s1.2 k j v) = some r := by
  unfold o_putR at h
  split at h
  · split at h
    · split at h
      · rename_i u' v t' k st' ht hv
        rw [Bool.and_eq_true] at ht
        exact ⟨k, v, st', by rw [Nat.eq_of_beq_eq_true ht.1, Nat.eq_of_beq_eq_true ht.2], hv, h⟩
      · cases h
    · cases h
  · cases h
theorem s_putI {pc idx ci j N : Nat} {Cn : String} {Tn : u_T} (hd : decode cc pc = .ok (.putfield idx, 3)) (hcl : vwCl[ci]? = some (Cn, Tn, N)) (hin : ∀ w ∈ u_ws Cn Tn N, w ∈ qG) (hj : j < N) (hw : Cond.fieldLink own idx (Tn j).1 (Tn j).2.1 (Tn j).2.2.1 ∈ qG)
    (ty0 : Nat → FieldType) (hty : ∀ k, k < N → parseFieldDescriptor (Tn k).2.2.1 = some (ty0 k)) (hnm : ∀ a, a < N → ∀ b, b < N → a ≠ b → (Tn a).2.1 ≠ (Tn b).2.1) (hfin : (Tn j).2.2.2 = false ∨ ((Tn j).2.2.2 = true ∧ nm = "<init>" ∧ (Tn j).1 = own)) (hu : (q_ft ci)[j]? = some 0) (ht0 : ty0 j = .int) : q_sim E l I own cc nL rt nm d pc (o_putI (10 + ci) j (pc + 3)) := by
  have hci := q_cl13 hcl
  refine ⟨f_putI _ _ _, fun p e R s m args below meth c Q s0 r hc hr C K ls st s1 h _ hK => ?_⟩
  obtain ⟨k, v, st', hst, h'⟩ := q_putI_spec h
  subst hst
  refine q_goM (hK _ _ _ _ h') (q_ext_up _ _) fun hm hf hle => ?_
  obtain ⟨b1, b2, b3⟩ := q_vk_o (q_fk_top (q_fk_pop hf)) (by omega) (by omega) (by omega)
  have hv := q_fk_top hf
  refine ⟨q_mok_put hm b1 b3 hci hu (Or.inl ⟨rfl, q_vk_i hv⟩), fun x hx => q_vk_ext (q_ext_up _ _) (hf.2 x (List.mem_cons_of_mem _ (List.mem_cons_of_mem _ hx))), fun H locs A a1 a2 a3 kk => ?_⟩
  rw [List.map_cons, List.map_cons, q_cv_r E k (show 10 ≤ 10 + ci by omega)]
  exact q_putrow hc a1 hd hcl hin hj hw hci hu ty0 hty hnm hfin (by rw [ht0]; rfl) (by rw [ht0]; rfl) b1 b2 b3 a3 (fun H' locs' g1 g2 => kk H' locs' g1 g2)
theorem s_putZ {pc idx ci j N : Nat} {Cn : String} {Tn : u_T} (hd : decode cc pc = .ok (.putfield idx, 3)) (hcl : vwCl[ci]? = some (Cn, Tn, N)) (hin : ∀ w ∈ u_ws Cn Tn N, w ∈ qG) (hj : j < N) (hw : Cond.fieldLink own idx (Tn j).1 (Tn j).2.1 (Tn j).2.2.1 ∈ qG)
    (ty0 : Nat → FieldType) (hty : ∀ k, k < N → parseFieldDescriptor (Tn k).2.2.1 = some (ty0 k)) (hnm : ∀ a, a < N → ∀ b, b < N → a ≠ b → (Tn a).2.1 ≠ (Tn b).2.1) (hfin : (Tn j).2.2.2 = false ∨ ((Tn j).2.2.2 = true ∧ nm = "<init>" ∧ (Tn j).1 = own)) (hu : (q_ft ci)[j]? = some 7) (ht0 : ty0 j = .boolean) : q_sim E l I own cc nL rt nm d pc (o_putZ (10 + ci) j (pc + 3)) := by
  have hci := q_cl13 hcl
  refine ⟨f_putZ _ _ _, fun p e R s m args below meth c Q s0 r hc hr C K ls st s1 h _ hK => ?_⟩
  obtain ⟨k, v, st', hst, hz, h'⟩ := q_putZ_spec h
  subst hst
  refine q_goM (hK _ _ _ _ h') (q_ext_up _ _) fun hm hf hle => ?_
  obtain ⟨b1, b2, b3⟩ := q_vk_o (q_fk_top (q_fk_pop hf)) (by omega) (by omega) (by omega)
  have hv := q_fk_top hf
  refine ⟨q_mok_put hm b1 b3 hci hu (Or.inr (Or.inl ⟨rfl, hz⟩)), fun x hx => q_vk_ext (q_ext_up _ _) (hf.2 x (List.mem_cons_of_mem _ (List.mem_cons_of_mem _ hx))), fun H locs A a1 a2 a3 kk => ?_⟩
  rw [List.map_cons, List.map_cons, q_cv_r E k (show 10 ≤ 10 + ci by omega)]
  exact q_putrow hc a1 hd hcl hin hj hw hci hu ty0 hty hnm hfin (by rw [ht0]; rcases hz with rfl | rfl; exact q_zn0; exact q_zn1) (by rw [ht0]; rcases hz with rfl | rfl; exact q_zf0; exact q_zf1) b1 b2 b3 a3 (fun H' locs' g1 g2 => kk H' locs' g1 g2)
theorem s_putL {pc idx ci j N : Nat} {Cn : String} {Tn : u_T} (hd : decode cc pc = .ok (.putfield idx, 3)) (hcl : vwCl[ci]? = some (Cn, Tn, N)) (hin : ∀ w ∈ u_ws Cn Tn N, w ∈ qG) (hj : j < N) (hw : Cond.fieldLink own idx (Tn j).1 (Tn j).2.1 (Tn j).2.2.1 ∈ qG)
    (ty0 : Nat → FieldType) (hty : ∀ k, k < N → parseFieldDescriptor (Tn k).2.2.1 = some (ty0 k)) (hnm : ∀ a, a < N → ∀ b, b < N → a ≠ b → (Tn a).2.1 ≠ (Tn b).2.1) (hfin : (Tn j).2.2.2 = false ∨ ((Tn j).2.2.2 = true ∧ nm = "<init>" ∧ (Tn j).1 = own)) (hu : (q_ft ci)[j]? = some 3) (ht0 : ty0 j = .long) : q_sim E l I own cc nL rt nm d pc (o_putL (10 + ci) j (pc + 3)) := by
  have hci := q_cl13 hcl
  refine ⟨f_putL _ _ _, fun p e R s m args below meth c Q s0 r hc hr C K ls st s1 h _ hK => ?_⟩
  obtain ⟨k, v, st', hst, h'⟩ := q_putL_spec h
  subst hst
  refine q_goM (hK _ _ _ _ h') (q_ext_up _ _) fun hm hf hle => ?_
  obtain ⟨b1, b2, b3⟩ := q_vk_o (q_fk_top (q_fk_pop hf)) (by omega) (by omega) (by omega)
  have hv := q_fk_top hf
  refine ⟨q_mok_put hm b1 b3 hci hu (Or.inr (Or.inr (Or.inl ⟨rfl, q_vk_l hv⟩))), fun x hx => q_vk_ext (q_ext_up _ _) (hf.2 x (List.mem_cons_of_mem _ (List.mem_cons_of_mem _ hx))), fun H locs A a1 a2 a3 kk => ?_⟩
  rw [List.map_cons, List.map_cons, q_cv_r E k (show 10 ≤ 10 + ci by omega)]
  exact q_putrow hc a1 hd hcl hin hj hw hci hu ty0 hty hnm hfin (by rw [ht0]; rfl) (by rw [ht0]; rfl) b1 b2 b3 a3 (fun H' locs' g1 g2 => kk H' locs' g1 g2)
theorem s_putR {pc idx ci j N : Nat} {Cn : String} {Tn : u_T} (hd : decode cc pc = .ok (.putfield idx, 3)) (hcl : vwCl[ci]? = some (Cn, Tn, N)) (hin : ∀ w ∈ u_ws Cn Tn N, w ∈ qG) (hj : j < N) (hw : Cond.fieldLink own idx (Tn j).1 (Tn j).2.1 (Tn j).2.2.1 ∈ qG)
    (ty0 : Nat → FieldType) (hty : ∀ k, k < N → parseFieldDescriptor (Tn k).2.2.1 = some (ty0 k)) (hnm : ∀ a, a < N → ∀ b, b < N → a ≠ b → (Tn a).2.1 ≠ (Tn b).2.1) (hfin : (Tn j).2.2.2 = false ∨ ((Tn j).2.2.2 = true ∧ nm = "<init>" ∧ (Tn j).1 = own)) {u : Nat} (hu : (q_ft ci)[j]? = some u) (hu10 : 10 ≤ u) (ht0 : ∀ a : Nat, narrow (ty0 j) (.ref a) = .ref a ∧ fits (ty0 j) (.ref a) = true) : q_sim E l I own cc nL rt nm d pc (o_putR (10 + ci) j u (pc + 3)) := by
  have hci := q_cl13 hcl
  refine ⟨f_putR _ _ _ _, fun p e R s m args below meth c Q s0 r hc hr C K ls st s1 h _ hK => ?_⟩
  obtain ⟨k, v, st', hst, hnew, h'⟩ := q_putR_spec h
  subst hst
  refine q_goM (hK _ _ _ _ h') (q_ext_up _ _) fun hm hf hle => ?_
  obtain ⟨b1, b2, b3⟩ := q_vk_o (q_fk_top (q_fk_pop hf)) (by omega) (by omega) (by omega)
  have hv := q_fk_top hf
  obtain ⟨g1, g2, g3⟩ : 0 ≤ v ∧ v < s1.1.1 ∧ (s1.1.2 v).1 = u := by
    rcases hv with a | a | ⟨a, b | b | b⟩
    · exact absurd a.1 (by simp only; omega)
    · exact absurd a.1 (by simp only; omega)
    · exact b
    · exact absurd hnew (by have := b.2; simp only at this; omega)
    · exact absurd hnew (by have := b.2; simp only at this; omega)
  refine ⟨q_mok_put hm b1 b3 hci hu (Or.inr (Or.inr (Or.inr ⟨hu10, Or.inr ⟨g2, g3⟩⟩))), fun x hx => q_vk_ext (q_ext_up _ _) (hf.2 x (List.mem_cons_of_mem _ (List.mem_cons_of_mem _ hx))), fun H locs A a1 a2 a3 kk => ?_⟩
  rw [List.map_cons, List.map_cons, q_cv_r E k (show 10 ≤ 10 + ci by omega), q_cv_r E v hu10, ← q_fv_r hu10 g1]
  exact q_putrow hc a1 hd hcl hin hj hw hci hu ty0 hty hnm hfin (by rw [q_fv_r hu10 g1]; exact (ht0 _).1) (by rw [q_fv_r hu10 g1]; exact (ht0 _).2) b1 b2 b3 a3 (fun H' locs' g1 g2 => kk H' locs' g1 g2)
end SH
