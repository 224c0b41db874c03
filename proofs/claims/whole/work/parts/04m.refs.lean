section SB
variable {E : q_X} {l : Launch} {I : q_I} {own : String} {cc : ByteArray} {nL : Nat} {rt : Option FieldType} {nm : String} {d : Nat}
theorem q_aald_spec {t u n : Nat} {C : q_C} {K : q_K} {ls st : List q_V} {s1 : q_M} {r : q_V × q_M} (h : o_aald t u n C K ls st s1 = some r) : ∃ i k st', st = (0, i) :: (t, k) :: st' ∧ (0 ≤ i ∧ i < (s1.1.2 k).2 ∧ 0 ≤ s1.2 k i) ∧ K n ls ((u, s1.2 k i) :: st') s1 = some r := by
  unfold o_aald at h
  split at h
  · split at h
    · split at h
      · rename_i i t' k st' ht hi
        exact ⟨i, k, st', by rw [Nat.eq_of_beq_eq_true ht], hi, h⟩
      · cases h
    · cases h
  · cases h
theorem q_aast_spec {t u n : Nat} {C : q_C} {K : q_K} {ls st : List q_V} {s1 : q_M} {r : q_V × q_M} (h : o_aast t u n C K ls st s1 = some r) : ∃ v i k st', st = (u, v) :: (0, i) :: (t, k) :: st' ∧ (0 ≤ i ∧ i < (s1.1.2 k).2) ∧ K n ls st' (s1.1, q_up s1.2 k i v) = some r := by
  unfold o_aast at h
  split at h
  · split at h
    · split at h
      · rename_i u' v i t' k st' ht hi
        rw [Bool.and_eq_true] at ht
        exact ⟨v, i, k, st', by rw [Nat.eq_of_beq_eq_true ht.1, Nat.eq_of_beq_eq_true ht.2], hi, h⟩
      · cases h
    · cases h
  · cases h
theorem q_rf_some {v : Int} (h : 0 ≤ v) : q_rf E v = some (q_a E v) := by unfold q_rf; rw [if_neg (by omega)]
theorem s_aald {pc t u t0 : Nat} {ty : FieldType} (hd : decode cc pc = .ok (.aaload, 1)) (htt : ∀ E : q_X, (q_tys E)[t0]? = some (E.2.2.2.2 t, ty)) (href : ty.isReference = true) (hu : q_el t = u) (hu10 : 10 ≤ u) (h32 : 32 ≤ t) (h33 : t ≠ 33) : q_sim E l I own cc nL rt nm d pc (o_aald t u (pc + 1)) := by
  refine ⟨f_aald _ _ _, fun p e R s m args below meth c Q s0 r hc hr C K ls st s1 h _ hK => ?_⟩
  obtain ⟨i, k, st', hst, ⟨i0, i1, v0⟩, h'⟩ := q_aald_spec h
  subst hst
  obtain ⟨hx, hb, -, -, hown, -, -, hts, henv, -⟩ := hc
  refine q_go (hK _ _ _ _ h') fun hm hf => ?_
  have hi := q_vk_i (q_fk_top hf)
  obtain ⟨b1, b2, b3⟩ := q_vk_o (q_fk_top (q_fk_pop hf)) (by omega) (by omega) h33
  refine ⟨q_fk_push (q_fk_pop (q_fk_pop hf)) ?_, fun H locs A a1 a2 a3 kk => ?_⟩
  · have := q_ck_a (hm.2.1 k b1 b2) (by omega) i0 i1
    rw [b3, hu] at this
    rcases this with z | z | z | ⟨-, z | z⟩
    · exact absurd z.1 (by omega)
    · exact absurd z.1 (by omega)
    · exact absurd z.1 (by omega)
    · omega
    · exact Or.inr (Or.inr ⟨hu10, Or.inl ⟨v0, z.1, z.2⟩⟩)
  · rw [List.map_cons, List.map_cons, q_cv_r E k (by omega), q_cv_i]
    have ec : ((i.toNat : Nat) : Int) = i := by omega
    have he := q_ws_at (E := E) b1 b2
    rw [q_pr _ b3, q_en_q h32] at he
    have k1 := kk A a2
    rw [List.map_cons, q_cv_r E _ hu10] at k1
    have hlt : (Int32.ofInt i).toNatClampNeg < (s1.1.2 k).2.toNat := by rw [q_cl hi i0]; omega
    refine W.aald (v := .ref (q_a E (s1.2 k i))) (ty := ty) hx hb (a1.2.2 k.toNat _ he) ((henv.1.2 t0 _ (htt E)).1 _ (fun j => va_rf (q_rf E (s1.2 k j)))) href (fun q => by cases q) (by show ¬ (_ ∨ (arrV _ _ _).slots.size ≤ _); rw [arrV_size]; exact q_ix hi i0 i1) ?_ rfl rfl hd k1
    show (arrV _ _ _).slots[_]? = _
    rw [arrV_read _ _ hlt, q_cl hi i0]
    show some (va_rf (q_rf E (s1.2 k ((i.toNat : Nat) : Int)))) = _
    rw [ec, q_rf_some v0]
    rfl
theorem s_aast {pc ci t0 : Nat} {x : vw_C} (hd : decode cc pc = .ok (.aastore, 1)) (hcl : vwCl[ci]? = some x) (htt : ∀ E : q_X, (q_tys E)[t0]? = some (E.2.2.2.2 (40 + ci), .object x.1)) : q_sim E l I own cc nL rt nm d pc (o_aast (40 + ci) (10 + ci) (pc + 1)) := by
  have hci := q_cl13 hcl
  refine ⟨f_aast _ _ _, fun p e R s m args below meth c Q s0 r hc hr C K ls st s1 h _ hK => ?_⟩
  obtain ⟨v, i, k, st', hst, ⟨i0, i1⟩, h'⟩ := q_aast_spec h
  subst hst
  obtain ⟨hx, hb, -, -, hown, -, -, hts, henv, -⟩ := hc
  refine q_goM (hK _ _ _ _ h') (q_ext_up _ _) fun hm hf hle => ?_
  obtain ⟨v1, v2, v3⟩ := q_vk_o (q_fk_top hf) (by omega) (by omega) (by omega)
  have hi := q_vk_i (q_fk_top (q_fk_pop hf))
  obtain ⟨b1, b2, b3⟩ := q_vk_o (q_fk_top (q_fk_pop (q_fk_pop hf))) (by omega) (by omega) (by omega)
  have hel : q_el (40 + ci) = 10 + ci := by unfold q_el; rw [if_neg (by omega), if_neg (by omega), if_neg (by omega)]; omega
  refine ⟨q_mok_ast hm b1 (by omega) (by rw [b3, hel]; exact Or.inr (Or.inr (Or.inr ⟨by omega, Or.inr ⟨v2, v3⟩⟩))), fun x hx' => q_vk_ext (q_ext_up _ _) (hf.2 x (List.mem_cons_of_mem _ (List.mem_cons_of_mem _ (List.mem_cons_of_mem _ hx')))), fun H locs A a1 a2 a3 kk => ?_⟩
  rw [List.map_cons, List.map_cons, List.map_cons, q_cv_r E k (by omega), q_cv_r E v (by omega), q_cv_i]
  have he := q_ws_at (E := E) b1 b2
  rw [q_pr _ b3, q_en_q (by omega)] at he
  have hev := q_ws_at (E := E) v1 v2
  rw [q_pr _ v3, q_en_o (by omega)] at hev
  obtain ⟨r', hr', cellV, g1, g2, g3, -⟩ := a1.2.2 v.toNat _ hev
  have hcls := (henv.1.1 ci x hcl).2
  obtain ⟨kA, comp, k1, k2, k3, -⟩ := (henv.1.2 t0 _ (htt E)).2
  have hcomp : comp = E.2.2.2.1.1 ci := Option.some.inj (k3.symm.trans hcls.1)
  subst hcomp
  obtain ⟨kC, hkC, -⟩ := hcls.2
  have h0 : ¬ Int32.ofInt i < 0 := by rw [q_32_0, q_i32lt hi q_0]; omega
  have hlt : (Int32.ofInt i).toNatClampNeg < (s1.1.2 k).2.toNat := by rw [q_cl hi i0]; omega
  refine W.aast hx hb (a1.2.2 k.toNat _ he) (fun q h => by cases h) (fun h => by cases h) k1 k2 rfl hkC ⟨h0, by show _ < (arrV _ _ _).slots.size; rw [arrV_size]; exact hlt⟩ g1 (fun q h => by rw [g3] at h; cases h) (by rw [g2]; exact hkC) (by rw [g2]; exact va_assign hcls) rfl rfl hd fun H1 e1 z oq => ?_
  refine kk H1 _ (q_rel_up a1 b1 b2 z oq ?_) (q_locs a3 (q_a_ge b1))
  rw [q_pr _ b3, q_en_q (by omega)]
  show H1[q_a E k]? = some (vp_cell _ _)
  rw [e1, vp_cell_q, vp_cell_q, arrV_store, q_cl hi i0]
  congr 2
  have e9 := q_row_up (fun j => va_rf (q_rf E (s1.2 k j))) s1.2 (k := k) (v := v) i0 (fun x => va_rf (q_rf E x)) (fun _ => rfl)
  rw [q_rf_some v1] at e9
  exact e9.symm
/-- System.arraycopy between two rows of ints of mine -/
theorem q_copy_spec {n : Nat} {C : q_C} {K : q_K} {ls st : List q_V} {s1 : q_M} {r : q_V × q_M} (h : o_copy n C K ls st s1 = some r) : ∃ z j b i a st', st = (0, z) :: (0, j) :: (30, b) :: (0, i) :: (30, a) :: st' ∧ (0 ≤ i ∧ 0 ≤ j ∧ 0 ≤ z ∧ i + z ≤ (s1.1.2 a).2 ∧ j + z ≤ (s1.1.2 b).2 ∧ 0 ≤ a ∧ 0 ≤ b) ∧ Nat.ble (q_cat st') 8 = true ∧ K n ls st' (s1.1, q_cp s1.2 a i b j z) = some r := by
  unfold o_copy at h
  split at h
  · split at h
    · split at h
      · rename_i hc hi; exact ⟨_, _, _, _, _, _, rfl, hi, hc, h⟩
      · cases h
    · cases h
  · cases h
end SB
