section SJ
variable {E : q_X} {l : Launch} {I : q_I} {own : String} {cc : ByteArray} {nL : Nat} {rt : Option FieldType} {nm : String} {d : Nat}
theorem s_ldcw {pc idx : Nat} {n : Int} (hd : decode cc pc = .ok (.ldc_w idx, 3)) (hn : q_i32 n) (hw : Cond.constant own idx (Int32.ofInt n) ∈ qG) : q_sim E l I own cc nL rt nm d pc (o_const n (pc + 3)) := by
  refine ⟨f_const _ _, fun p e R s m args below meth c Q s0 r hc hr C K ls st s1 h _ hK => ?_⟩
  refine q_go (hK _ _ _ _ h) fun hm hf => ⟨q_fk_push hf (q_vk_int hn), fun H locs A a1 a2 a3 k => ?_⟩
  obtain ⟨hx, hb, -, -, hown, -, -, hts, -⟩ := hc
  exact lv_ldcw hx hb hown (hts _ hw) hd (k A a2)
theorem s_text {pc : Nat} (hd : decode cc pc = .ok (.ldc 81, 2)) (hown0 : own = "FarDishes$Text") : q_sim E l I own cc nL rt nm d pc (o_text (pc + 2)) := by
  refine ⟨f_text _, fun p e R s m args below meth c Q s0 r hc hr C K ls st s1 h _ hK => ?_⟩
  refine q_go (hK _ _ _ _ h) fun hm hf => ⟨q_fk_push hf (Or.inr (Or.inr ⟨show 10 ≤ 33 by decide, Or.inr (Or.inr ⟨rfl, rfl⟩)⟩)), fun H locs A a1 a2 a3 k => ?_⟩
  obtain ⟨hx, hb, -, -, hown, -, -, hts, henv, -⟩ := hc
  subst hown0
  have k1 := k A a2
  rw [List.map_cons, q_cv_r E _ (by decide)] at k1
  have ea : q_a E (-4) = E.2.2.1 (-4) := by unfold q_a; rw [if_neg (by decide)]
  rw [ea] at k1
  exact va_ldcS hx hb hown henv.2.2.2.2.2.2.2.2.1 hd k1
theorem q_vk_t {s : q_M} {k : Int} (hm : q_mok E s) (h : q_vk s (33, k)) : k = -4 := by
  rcases h with a | a | ⟨a, b | b | b⟩
  · exact absurd a.1 (by simp)
  · exact absurd a.1 (by simp)
  · obtain ⟨b1, b2, b3⟩ := b
    simp only at b1 b2 b3
    rcases hm.2.1 k b1 b2 with z | z
    · exact absurd b3 z.2.1
    · exact absurd z.2.1 (by omega)
  · exact absurd b.1 (by simp)
  · exact b.2
theorem q_tb_i : ∀ k, k < 56 → q_tb8.getD k 0 = Int32.ofInt (q_tx.getD k 0) ∧ (0 : Int) ≤ q_tx.getD k 0 ∧ q_tx.getD k 0 < 1000 := by decide +kernel
theorem s_strlen {pc idx : Nat} (hd : decode cc pc = .ok (.invokevirtual idx, 3)) (hj : ∀ w ∈ q_jw, w ∈ qG) (hw : Cond.methodLink own idx yJ0_length_8abf5 ∈ qG) (hdp : 1 < d) : q_sim E l I own cc nL rt nm d pc (o_strlen (pc + 3)) := by
  refine ⟨f_strlen _, fun p e R s m args below meth c Q s0 r hc hr C K ls st s1 h _ hK => ?_⟩
  obtain ⟨hx, hb, -, hml, hown, -, -, hts, henv, hE1, hE2, hfr, hlo, hce, hsl, hE3, hE4⟩ := hc
  unfold o_strlen at h
  split at h
  · rename_i k st'
    split at h
    · rename_i hcat
      have hK' := hK _ _ _ _ h
      have hle := hK'.1.1.1
      refine q_go hK' fun hm hf => ⟨q_fk_push (q_fk_pop hf) (q_vk_int (by unfold q_i32; omega)), fun H locs A a1 a2 a3 kk => ?_⟩
      have hk := q_vk_t hm (q_fk_top hf)
      subst hk
      rw [List.map_cons, q_cv_r E _ (by decide)]
      have ea : q_a E (-4) = E.2.2.1 (-4) := by unfold q_a; rw [if_neg (by decide)]
      rw [ea]
      obtain ⟨t1, t2, t3, t4, t5, t6, t7⟩ := id henv.2.2.2.2.2.2.2.2
      have hh : ∀ a : Nat, a < E.2.1.size → ¬ (fun q => E.1 ≤ q) a → H[a]? = E.2.1[a]? := fun a _ h2 => a1.2.1 a (Nat.not_le.mp h2)
      refine W.callR (W.runV (As := []) (rest := st'.map (q_cv E)) (C := RJ0) (Ts := qG) ⟨hx, hb, hml, hown, hts⟩ (j_length (E := E) l hj) (cwV 0 hts (q_goodV hw (hj _ (List.mem_of_getElem? (i := 26) rfl)) (hj _ (List.mem_of_getElem? (i := 28) rfl)) (hj _ (List.mem_of_getElem? (i := 6) rfl)) (q_goodY (hj _ (List.mem_of_getElem? (i := 24) rfl)))) rfl rfl rfl (by decide +kernel) ⟨by show 2 * 1 + 4 + 1 ≤ R.frames; omega, by show 8 + (1 + 11) + (100 * 1 + 100) ≤ R.locals; omega⟩)
        ⟨q_jh_blind, by obtain ⟨cell, g1, g2, g3, -⟩ := t2.kept hh; exact ⟨cell, g1, g2, g3⟩, fun U hU hW => ⟨rfl, by rw [hU]; exact a1.2.1, by rw [hU, a1.1]; omega, q_envT_warm hW henv.2.2.2.2.2.2.2.2⟩⟩ rfl rfl a2.2.1 rfl (q_room8 (Nat.le_of_ble_eq_true hcat)) hd ⟨by omega, by omega⟩) ?_
      exact kk A a2
    · cases h
  · cases h
theorem s_charAt {pc idx : Nat} (hd : decode cc pc = .ok (.invokevirtual idx, 3)) (hj : ∀ w ∈ q_jw, w ∈ qG) (hw : Cond.methodLink own idx yJ0_charAt_5068e ∈ qG) (hdp : 3 < d) : q_sim E l I own cc nL rt nm d pc (o_charAt (pc + 3)) := by
  refine ⟨f_charAt _, fun p e R s m args below meth c Q s0 r hc hr C K ls st s1 h _ hK => ?_⟩
  obtain ⟨hx, hb, -, hml, hown, -, -, hts, henv, hE1, hE2, hfr, hlo, hce, hsl, hE3, hE4⟩ := hc
  unfold o_charAt at h
  split at h
  · rename_i i k st'
    split at h
    · rename_i hcat
      split at h
      · rename_i hi
        have hK' := hK _ _ _ _ h
        have hle := hK'.1.1.1
        obtain ⟨b1, b2, b3⟩ := q_tb_i i.toNat (by omega)
        refine q_go hK' fun hm hf => ⟨q_fk_push (q_fk_pop (q_fk_pop hf)) (q_vk_int (by unfold q_i32 q_tc; omega)), fun H locs A a1 a2 a3 kk => ?_⟩
        have hk := q_vk_t hm (q_fk_top (q_fk_pop hf))
        subst hk
        have k1 := kk A a2
        have ei : Int32.ofInt i = nI i.toNat := (q_ofn hi.1).symm
        rw [List.map_cons, q_cv_i] at k1
        unfold q_tc at k1
        rw [← b1] at k1
        rw [List.map_cons, List.map_cons, q_cv_r E (-4) (show 10 ≤ 33 by decide), q_cv_i, ei]
        have ea : q_a E (-4) = E.2.2.1 (-4) := by unfold q_a; rw [if_neg (by decide)]
        rw [ea]
        obtain ⟨t1, t2, t3, t4, t5, t6, t7⟩ := id henv.2.2.2.2.2.2.2.2
        have hh : ∀ a : Nat, a < E.2.1.size → ¬ (fun q => E.1 ≤ q) a → H[a]? = E.2.1[a]? := fun a _ h2 => a1.2.1 a (Nat.not_le.mp h2)
        refine W.callR (W.runV (As := [.int (nI i.toNat)]) (rest := st'.map (q_cv E)) (C := RJ0) (Ts := qG) ⟨hx, hb, hml, hown, hts⟩ (j_charAt (E := E) l i.toNat (by omega) hj) (cwV 1 hts (q_goodV hw (hj _ (List.mem_of_getElem? (i := 27) rfl)) (hj _ (List.mem_of_getElem? (i := 29) rfl)) (hj _ (List.mem_of_getElem? (i := 6) rfl)) (q_goodY (hj _ (List.mem_of_getElem? (i := 25) rfl)))) rfl rfl rfl (by decide +kernel) ⟨by show 2 * 3 + 4 + 1 ≤ R.frames; omega, by show 8 + (2 + 11) + (100 * 3 + 100) ≤ R.locals; omega⟩)
          ⟨q_jh_blind, by obtain ⟨cell, g1, g2, g3, -⟩ := t2.kept hh; exact ⟨cell, g1, g2, g3⟩, fun U hU hW => ⟨rfl, by rw [hU]; exact a1.2.1, by rw [hU, a1.1]; omega, q_envT_warm hW henv.2.2.2.2.2.2.2.2⟩⟩ rfl rfl a2.2.1 rfl (q_room8 (Nat.le_of_ble_eq_true hcat)) hd ⟨by omega, by omega⟩) ?_
        exact k1
      · cases h
    · cases h
  · cases h
end SJ
