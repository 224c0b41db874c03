section SA
variable {E : q_X} {l : Launch} {I : q_I} {own : String} {cc : ByteArray} {nL : Nat} {rt : Option FieldType} {nm : String} {d : Nat}
theorem q_ofn {n : Int} (h : 0 ≤ n) : Int32.ofNat n.toNat = Int32.ofInt n := by
  conv => rhs; rw [← Int.toNat_of_nonneg h]
  rfl
theorem q_cl {i : Int} (h : q_i32 i) (h0 : 0 ≤ i) : (Int32.ofInt i).toNatClampNeg = i.toNat := by
  show (Int32.ofInt i).toInt.toNat = i.toNat
  rw [q_ti h]
theorem q_ix {i n : Int} (h : q_i32 i) (h0 : 0 ≤ i) (h1 : i < n) : vp_in (Int32.ofInt i) n.toNat := by
  rw [vp_in_iff, q_ti h]; omega
theorem q_alen_spec {n : Nat} {C : q_C} {K : q_K} {ls st : List q_V} {s1 : q_M} {r : q_V × q_M} (h : o_alen n C K ls st s1 = some r) : ∃ k st', st = (30, k) :: st' ∧ K n ls ((0, (s1.1.2 k).2) :: st') s1 = some r := by
  unfold o_alen at h
  split at h
  · exact ⟨_, _, rfl, h⟩
  · cases h
theorem q_iald_spec {n : Nat} {C : q_C} {K : q_K} {ls st : List q_V} {s1 : q_M} {r : q_V × q_M} (h : o_iald n C K ls st s1 = some r) : ∃ i k st', st = (0, i) :: (30, k) :: st' ∧ (0 ≤ i ∧ i < (s1.1.2 k).2) ∧ K n ls ((0, s1.2 k i) :: st') s1 = some r := by
  unfold o_iald at h
  split at h
  · split at h
    · rename_i hi; exact ⟨_, _, _, rfl, hi, h⟩
    · cases h
  · cases h
theorem q_bald_spec {n : Nat} {C : q_C} {K : q_K} {ls st : List q_V} {s1 : q_M} {r : q_V × q_M} (h : o_bald n C K ls st s1 = some r) : ∃ i k st', st = (0, i) :: (31, k) :: st' ∧ (0 ≤ i ∧ i < (s1.1.2 k).2) ∧ K n ls ((0, s1.2 k i) :: st') s1 = some r := by
  unfold o_bald at h
  split at h
  · split at h
    · rename_i hi; exact ⟨_, _, _, rfl, hi, h⟩
    · cases h
  · cases h
/-- an old row and its cell -/
theorem q_old_cell {s1 : q_M} {k : Int} {H : Heap} (ho : q_old E s1 k) (hk : k < 0) (hrel : q_rel E s1 H) : ∃ cell : Cell, E.2.1[E.2.2.1 k]? = some cell ∧ H[q_a E k]? = some cell ∧ cell.vm ≠ .unknown ∧ (s1.1.2 k).2.toNat ≤ cell.slots.size ∧ cell.slots.size.toInt32 = Int32.ofInt (s1.1.2 k).2 ∧ ∀ j : Nat, j < (s1.1.2 k).2.toNat → cell.slots[j]? = some (.int (Int32.ofInt (s1.2 k j))) := by
  obtain ⟨-, -, -, o4, -, cell, c1, c2⟩ := ho
  refine ⟨cell, c1, ?_, c2⟩
  have e : q_a E k = E.2.2.1 k := by unfold q_a; rw [if_neg (by omega)]
  rw [e, hrel.2.1 _ o4, c1]
theorem s_alen {pc : Nat} (hd : decode cc pc = .ok (.arraylength, 1)) : q_sim E l I own cc nL rt nm d pc (o_alen (pc + 1)) := by
  refine ⟨f_alen _, fun p e R s m args below meth c Q s0 r hc hr C K ls st s1 h _ hK => ?_⟩
  obtain ⟨k, st', hst, h'⟩ := q_alen_spec h
  subst hst
  obtain ⟨hx, hb, -, -, hown, -, -, hts, henv, -⟩ := hc
  refine q_go (hK _ _ _ _ h') fun hm hf => ?_
  have hlen : 0 ≤ (s1.1.2 k).2 ∧ (s1.1.2 k).2 ≤ 10000 := by
    rcases q_vk_ia (q_fk_top hf) with ⟨b1, b2, b3⟩ | rfl | rfl
    · exact q_ck_len (hm.2.1 k b1 b2) (by omega)
    · exact ⟨hm.2.2.1.2.1, hm.2.2.1.2.2.1⟩
    · exact ⟨hm.2.2.2.1.2.1, hm.2.2.2.1.2.2.1⟩
  refine ⟨q_fk_push (q_fk_pop hf) (q_vk_int (by unfold q_i32; omega)), fun H locs A a1 a2 a3 kk => ?_⟩
  rw [List.map_cons, q_cv_r E k (by decide)]
  have old : ∀ k', k = k' → k' < 0 → q_old E s1 k' → q_isA E k' s → W p l e R s m args below meth c H locs (s1.1.1 - s0.1.1).toNat (10000 * (s1.1.1 - s0.1.1).toNat) Q (F0 m pc A (.ref (q_a E k) :: st'.map (q_cv E))) := by
    rintro k' rfl hk ho hA
    obtain ⟨cell, c0, c1, c2, c3, c3b, c4⟩ := q_old_cell ho hk a1
    exact W.alen (n := Int32.ofInt (s1.1.2 k).2) hx hb c1 (hA cell c0) c3b rfl rfl hd (kk A a2)
  rcases q_vk_ia (q_fk_top hf) with ⟨b1, b2, b3⟩ | rfl | rfl
  · have he := q_ws_at (E := E) b1 b2
    rw [q_pr _ b3, q_en_i (Or.inl rfl)] at he
    exact va_alen hx hb henv.1 a1.2.2 k.toNat 0 he rfl (q_ofn hlen.1) hd (kk A a2)
  · exact old _ rfl (by decide) hm.2.2.1 henv.2.1
  · exact old _ rfl (by decide) hm.2.2.2.1 henv.2.2.1
theorem s_iald {pc : Nat} (hd : decode cc pc = .ok (.iaload, 1)) : q_sim E l I own cc nL rt nm d pc (o_iald (pc + 1)) := by
  refine ⟨f_iald _, fun p e R s m args below meth c Q s0 r hc hr C K ls st s1 h _ hK => ?_⟩
  obtain ⟨i, k, st', hst, ⟨i0, i1⟩, h'⟩ := q_iald_spec h
  subst hst
  obtain ⟨hx, hb, -, -, hown, -, -, hts, henv, -⟩ := hc
  refine q_go (hK _ _ _ _ h') fun hm hf => ?_
  have hi := q_vk_i (q_fk_top hf)
  have hvk := q_fk_top (q_fk_pop hf)
  have hin : q_i32 (s1.2 k i) := by
    rcases q_vk_ia hvk with ⟨b1, b2, b3⟩ | rfl | rfl
    · have := q_ck_a (hm.2.1 k b1 b2) (by omega) i0 i1
      rw [b3] at this
      rcases this with z | z | z | z
      · exact z.2
      · exact absurd z.1 (by decide)
      · exact absurd z.1 (by decide)
      · exact absurd z.1 (by decide)
    · exact hm.2.2.1.2.2.2.2.1 i i0 i1
    · exact hm.2.2.2.1.2.2.2.2.1 i i0 i1
  refine ⟨q_fk_push (q_fk_pop (q_fk_pop hf)) (q_vk_int hin), fun H locs A a1 a2 a3 kk => ?_⟩
  rw [List.map_cons, List.map_cons, q_cv_r E k (by decide), q_cv_i]
  have ec : ((i.toNat : Nat) : Int) = i := by omega
  have old : ∀ k', k = k' → k' < 0 → q_old E s1 k' → q_isA E k' s → W p l e R s m args below meth c H locs (s1.1.1 - s0.1.1).toNat (10000 * (s1.1.1 - s0.1.1).toNat) Q (F0 m pc A (.int (Int32.ofInt i) :: .ref (q_a E k) :: st'.map (q_cv E))) := by
    rintro k' rfl hk ho hA
    obtain ⟨cell, c0, c1, c2, c3, c3b, c4⟩ := q_old_cell ho hk a1
    refine W.iald (v := .int (Int32.ofInt (s1.2 k i))) hx hb c1 (hA cell c0) c2 ?_ ?_ rfl rfl hd (kk A a2)
    · exact fun z => q_ix hi i0 i1 (z.imp id (fun w => Nat.le_trans c3 w))
    · rw [q_cl hi i0, c4 _ (by omega), ec]
  rcases q_vk_ia hvk with ⟨b1, b2, b3⟩ | rfl | rfl
  · have he := q_ws_at (E := E) b1 b2
    rw [q_pr _ b3, q_en_i (Or.inl rfl)] at he
    refine va_iald hx hb henv.1 a1.2.2 k.toNat 0 he rfl (q_ix hi i0 i1) hd ?_
    rw [q_cl hi i0, ec]
    exact kk A a2
  · exact old _ rfl (by decide) hm.2.2.1 henv.2.1
  · exact old _ rfl (by decide) hm.2.2.2.1 henv.2.2.1
theorem s_bald {pc : Nat} (hd : decode cc pc = .ok (.baload, 1)) : q_sim E l I own cc nL rt nm d pc (o_bald (pc + 1)) := by
  refine ⟨f_bald _, fun p e R s m args below meth c Q s0 r hc hr C K ls st s1 h _ hK => ?_⟩
  obtain ⟨i, k, st', hst, ⟨i0, i1⟩, h'⟩ := q_bald_spec h
  subst hst
  obtain ⟨hx, hb, -, -, hown, -, -, hts, henv, -⟩ := hc
  refine q_go (hK _ _ _ _ h') fun hm hf => ?_
  have hi := q_vk_i (q_fk_top hf)
  obtain ⟨b1, b2, b3⟩ := q_vk_o (q_fk_top (q_fk_pop hf)) (by omega) (by omega) (by omega)
  have hin : q_i32 (s1.2 k i) := by
    have := q_ck_a (hm.2.1 k b1 b2) (by omega) i0 i1
    rw [b3] at this
    rcases this with z | z | z | z
    · exact z.2
    · unfold q_i32; omega
    · exact absurd z.1 (by decide)
    · exact absurd z.1 (by decide)
  refine ⟨q_fk_push (q_fk_pop (q_fk_pop hf)) (q_vk_int hin), fun H locs A a1 a2 a3 kk => ?_⟩
  rw [List.map_cons, List.map_cons, q_cv_r E k (by decide), q_cv_i]
  have ec : ((i.toNat : Nat) : Int) = i := by omega
  have he := q_ws_at (E := E) b1 b2
  rw [q_pr _ b3, q_en_i (Or.inr rfl)] at he
  refine va_zald hx hb henv.1 a1.2.2 k.toNat 1 he rfl (q_ix hi i0 i1) hd ?_
  rw [q_cl hi i0, ec]
  exact kk A a2
theorem q_iast_spec {n : Nat} {C : q_C} {K : q_K} {ls st : List q_V} {s1 : q_M} {r : q_V × q_M} (h : o_iast n C K ls st s1 = some r) : ∃ v i k st', st = (0, v) :: (0, i) :: (30, k) :: st' ∧ (0 ≤ i ∧ i < (s1.1.2 k).2 ∧ 0 ≤ k) ∧ K n ls st' (s1.1, q_up s1.2 k i v) = some r := by
  unfold o_iast at h
  split at h
  · split at h
    · rename_i hi; exact ⟨_, _, _, _, rfl, hi, h⟩
    · cases h
  · cases h
theorem q_bast_spec {n : Nat} {C : q_C} {K : q_K} {ls st : List q_V} {s1 : q_M} {r : q_V × q_M} (h : o_bast n C K ls st s1 = some r) : ∃ v i k st', st = (0, v) :: (0, i) :: (31, k) :: st' ∧ (0 ≤ i ∧ i < (s1.1.2 k).2 ∧ (v = 0 ∨ v = 1)) ∧ K n ls st' (s1.1, q_up s1.2 k i v) = some r := by
  unfold o_bast at h
  split at h
  · split at h
    · rename_i hi; exact ⟨_, _, _, _, rfl, hi, h⟩
    · cases h
  · cases h
/-- a good value in a row of its tag keeps the memory good -/
theorem q_mok_ast {s1 : q_M} {k i w : Int} (hm : q_mok E s1) (h0 : 0 ≤ k) (ht : 30 ≤ (s1.1.2 k).1) (hw : q_sk s1 (q_el (s1.1.2 k).1) w) : q_mok E (s1.1, q_up s1.2 k i w) := by
  refine q_mok_up hm h0 fun h' e h1 hck => ?_
  subst e
  rcases hck with ⟨b1, b2, b3, b4, b5, b6⟩ | a
  · refine Or.inl ⟨b1, b2, b3, b4, b5, fun j j0 j1 => ?_⟩
    by_cases e : j = i
    · subst e
      show q_sk _ _ (q_up s1.2 k j w k j)
      rw [q_up_same]
      exact q_sk_ext (q_ext_up s1 _) hw
    · show q_sk _ _ (q_up s1.2 k i w k j)
      rw [q_up_slot _ e]
      exact q_sk_ext (q_ext_up s1 _) (b6 j j0 j1)
  · exact absurd a.2.1 (by omega)
theorem q_row_up (g : Int → Value) (h : Int → Int → Int) {k i v : Int} (hi : 0 ≤ i) (f : Int → Value) (hg : ∀ j : Int, g j = f (h k j)) : (fun j : Nat => f (q_up h k i v k (j : Int))) = updV (fun j : Nat => g (j : Int)) i.toNat (f v) := by
  funext j
  unfold updV
  by_cases e : j = i.toNat
  · rw [if_pos e]
    have : (j : Int) = i := by omega
    rw [this, q_up_same]
  · rw [if_neg e, q_up_slot h (show (j : Int) ≠ i by omega)]
    exact (hg j).symm
theorem s_iast {pc : Nat} (hd : decode cc pc = .ok (.iastore, 1)) : q_sim E l I own cc nL rt nm d pc (o_iast (pc + 1)) := by
  refine ⟨f_iast _, fun p e R s m args below meth c Q s0 r hc hr C K ls st s1 h _ hK => ?_⟩
  obtain ⟨v, i, k, st', hst, ⟨i0, i1, k0⟩, h'⟩ := q_iast_spec h
  subst hst
  obtain ⟨hx, hb, -, -, hown, -, -, hts, henv, -⟩ := hc
  refine q_goM (hK _ _ _ _ h') (q_ext_up _ _) fun hm hf hle => ?_
  have hv := q_vk_i (q_fk_top hf)
  have hi := q_vk_i (q_fk_top (q_fk_pop hf))
  obtain ⟨b1, b2, b3⟩ : 0 ≤ k ∧ k < s1.1.1 ∧ (s1.1.2 k).1 = 30 := by
    rcases q_vk_ia (q_fk_top (q_fk_pop (q_fk_pop hf))) with z | z | z
    · exact z
    · omega
    · omega
  refine ⟨q_mok_ast hm b1 (by omega) (by rw [b3]; exact Or.inl ⟨rfl, hv⟩), fun x hx' => q_vk_ext (q_ext_up _ _) (hf.2 x (List.mem_cons_of_mem _ (List.mem_cons_of_mem _ (List.mem_cons_of_mem _ hx')))), fun H locs A a1 a2 a3 kk => ?_⟩
  rw [List.map_cons, List.map_cons, List.map_cons, q_cv_r E k (by decide), q_cv_i, q_cv_i]
  have he := q_ws_at (E := E) b1 b2
  rw [q_pr _ b3, q_en_i (Or.inl rfl)] at he
  refine W.iast hx hb (a1.2.2 k.toNat _ he) ((henv.1.2 0 _ rfl).1 _ (fun j => .int (Int32.ofInt (s1.2 k j)))) (fun q => by cases q) (by show ¬ (_ ∨ (arrV _ _ _).slots.size ≤ _); rw [arrV_size]; exact q_ix hi i0 i1) rfl rfl hd fun H1 e1 z oq => ?_
  refine kk H1 _ (q_rel_up a1 b1 b2 z oq ?_) (q_locs a3 (q_a_ge b1))
  rw [q_pr _ b3, q_en_i (Or.inl rfl)]
  show H1[q_a E k]? = some (vp_cell _ _)
  rw [e1, vp_cell_i, vp_cell_i, arrV_store, q_cl hi i0]
  congr 2
  exact (q_row_up (fun j => .int (Int32.ofInt (s1.2 k j))) s1.2 i0 (fun x => .int (Int32.ofInt x)) (fun _ => rfl)).symm
theorem s_bast {pc : Nat} (hd : decode cc pc = .ok (.bastore, 1)) : q_sim E l I own cc nL rt nm d pc (o_bast (pc + 1)) := by
  refine ⟨f_bast _, fun p e R s m args below meth c Q s0 r hc hr C K ls st s1 h _ hK => ?_⟩
  obtain ⟨v, i, k, st', hst, ⟨i0, i1, v01⟩, h'⟩ := q_bast_spec h
  subst hst
  obtain ⟨hx, hb, -, -, hown, -, -, hts, henv, -⟩ := hc
  refine q_goM (hK _ _ _ _ h') (q_ext_up _ _) fun hm hf hle => ?_
  have hi := q_vk_i (q_fk_top (q_fk_pop hf))
  obtain ⟨b1, b2, b3⟩ := q_vk_o (q_fk_top (q_fk_pop (q_fk_pop hf))) (by omega) (by omega) (by omega)
  refine ⟨q_mok_ast hm b1 (by omega) (by rw [b3]; exact Or.inr (Or.inl ⟨rfl, v01⟩)), fun x hx' => q_vk_ext (q_ext_up _ _) (hf.2 x (List.mem_cons_of_mem _ (List.mem_cons_of_mem _ (List.mem_cons_of_mem _ hx')))), fun H locs A a1 a2 a3 kk => ?_⟩
  rw [List.map_cons, List.map_cons, List.map_cons, q_cv_r E k (by decide), q_cv_i, q_cv_i]
  have he := q_ws_at (E := E) b1 b2
  rw [q_pr _ b3, q_en_i (Or.inr rfl)] at he
  refine W.zast hx hb (a1.2.2 k.toNat _ he) ((henv.1.2 1 _ rfl).1 _ (fun j => .int (Int32.ofInt (s1.2 k j)))) (fun q => by cases q) (by show ¬ (_ ∨ (arrV _ _ _).slots.size ≤ _); rw [arrV_size]; exact q_ix hi i0 i1) rfl rfl hd fun H1 e1 z oq => ?_
  refine kk H1 _ (q_rel_up a1 b1 b2 z oq ?_) (q_locs a3 (q_a_ge b1))
  rw [q_pr _ b3, q_en_i (Or.inr rfl)]
  show H1[q_a E k]? = some (vp_cell _ _)
  have en : narrow .boolean (.int (Int32.ofInt v)) = .int (Int32.ofInt v) := by rcases v01 with rfl | rfl; exact q_zn0; exact q_zn1
  rw [e1, en, vp_cell_i, vp_cell_i, arrV_store, q_cl hi i0]
  congr 2
  exact (q_row_up (fun j => .int (Int32.ofInt (s1.2 k j))) s1.2 i0 (fun x => .int (Int32.ofInt x)) (fun _ => rfl)).symm
end SA
