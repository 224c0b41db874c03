section SP3
variable {E : q_X} {l : Launch} {I : q_I} {own : String} {cc : ByteArray} {nL : Nat} {rt : Option FieldType} {nm : String} {d : Nat}
theorem q_bin_spec {f : Int → Int → Int} {n : Nat} {C : q_C} {K : q_K} {ls st : List q_V} {s1 : q_M} {r : q_V × q_M} (h : o_bin f n C K ls st s1 = some r) : ∃ a b st', st = (0, b) :: (0, a) :: st' ∧ K n ls ((0, f a b) :: st') s1 = some r := by
  unfold o_bin at h
  split at h
  · exact ⟨_, _, _, rfl, h⟩
  · cases h
theorem q_div_spec {f : Int → Int → Int} {n : Nat} {C : q_C} {K : q_K} {ls st : List q_V} {s1 : q_M} {r : q_V × q_M} (h : o_div f n C K ls st s1 = some r) : ∃ a b st', st = (0, b) :: (0, a) :: st' ∧ b ≠ 0 ∧ K n ls ((0, f a b) :: st') s1 = some r := by
  unfold o_div at h
  split at h
  · split at h
    · cases h
    · rename_i h0; exact ⟨_, _, _, rfl, h0, h⟩
  · cases h
theorem q_lbin_spec {f : Int → Int → Int} {n : Nat} {C : q_C} {K : q_K} {ls st : List q_V} {s1 : q_M} {r : q_V × q_M} (h : o_lbin f n C K ls st s1 = some r) : ∃ a b st', st = (3, b) :: (3, a) :: st' ∧ K n ls ((3, f a b) :: st') s1 = some r := by
  unfold o_lbin at h
  split at h
  · exact ⟨_, _, _, rfl, h⟩
  · cases h
theorem q_lsh_spec {f : Int → Int → Int} {n : Nat} {C : q_C} {K : q_K} {ls st : List q_V} {s1 : q_M} {r : q_V × q_M} (h : o_lsh f n C K ls st s1 = some r) : ∃ a b st', st = (0, b) :: (3, a) :: st' ∧ K n ls ((3, f a b) :: st') s1 = some r := by
  unfold o_lsh at h
  split at h
  · exact ⟨_, _, _, rfl, h⟩
  · cases h
theorem q_un_spec {f : Int → Int} {n : Nat} {C : q_C} {K : q_K} {ls st : List q_V} {s1 : q_M} {r : q_V × q_M} (h : o_un f n C K ls st s1 = some r) : ∃ a st', st = (0, a) :: st' ∧ K n ls ((0, f a) :: st') s1 = some r := by
  unfold o_un at h
  split at h
  · exact ⟨_, _, rfl, h⟩
  · cases h
theorem s_iadd {pc : Nat} (hd : decode cc pc = .ok (.iadd, 1)) : q_sim E l I own cc nL rt nm d pc (o_bin q_add (pc + 1)) := by
  refine ⟨f_bin _ _, fun p e R s m args below meth c Q s0 r hc hr C K ls st s1 h _ hK => ?_⟩
  obtain ⟨a, b, st', rfl, h⟩ := q_bin_spec h
  refine q_go (hK _ _ _ _ h) fun hm hf => ⟨q_fk_push (q_fk_pop (q_fk_pop hf)) (q_vk_int (q_w_in _)), fun H locs A a1 a2 a3 k => ?_⟩
  have k1 := k A a2
  have e0 : Int32.ofInt a + Int32.ofInt b = Int32.ofInt (q_add a b) := (by rw [← Int32.ofInt_add, q_add, q_of_w])
  rw [List.map_cons, q_cv_i, ← e0] at k1
  exact lv_iadd hc.1 hc.2.1 hd k1
theorem s_isub {pc : Nat} (hd : decode cc pc = .ok (.isub, 1)) : q_sim E l I own cc nL rt nm d pc (o_bin q_sub (pc + 1)) := by
  refine ⟨f_bin _ _, fun p e R s m args below meth c Q s0 r hc hr C K ls st s1 h _ hK => ?_⟩
  obtain ⟨a, b, st', rfl, h⟩ := q_bin_spec h
  refine q_go (hK _ _ _ _ h) fun hm hf => ⟨q_fk_push (q_fk_pop (q_fk_pop hf)) (q_vk_int (q_w_in _)), fun H locs A a1 a2 a3 k => ?_⟩
  have k1 := k A a2
  have e0 : Int32.ofInt a - Int32.ofInt b = Int32.ofInt (q_sub a b) := (by rw [← Int32.ofInt_sub, q_sub, q_of_w])
  rw [List.map_cons, q_cv_i, ← e0] at k1
  exact lv_isub hc.1 hc.2.1 hd k1
theorem s_imul {pc : Nat} (hd : decode cc pc = .ok (.imul, 1)) : q_sim E l I own cc nL rt nm d pc (o_bin q_mul (pc + 1)) := by
  refine ⟨f_bin _ _, fun p e R s m args below meth c Q s0 r hc hr C K ls st s1 h _ hK => ?_⟩
  obtain ⟨a, b, st', rfl, h⟩ := q_bin_spec h
  refine q_go (hK _ _ _ _ h) fun hm hf => ⟨q_fk_push (q_fk_pop (q_fk_pop hf)) (q_vk_int (q_w_in _)), fun H locs A a1 a2 a3 k => ?_⟩
  have k1 := k A a2
  have e0 : Int32.ofInt a * Int32.ofInt b = Int32.ofInt (q_mul a b) := (by rw [← Int32.ofInt_mul, q_mul, q_of_w])
  rw [List.map_cons, q_cv_i, ← e0] at k1
  exact lv_imul hc.1 hc.2.1 hd k1
theorem s_iand {pc : Nat} (hd : decode cc pc = .ok (.iand, 1)) : q_sim E l I own cc nL rt nm d pc (o_bin q_and (pc + 1)) := by
  refine ⟨f_bin _ _, fun p e R s m args below meth c Q s0 r hc hr C K ls st s1 h _ hK => ?_⟩
  obtain ⟨a, b, st', rfl, h⟩ := q_bin_spec h
  refine q_go (hK _ _ _ _ h) fun hm hf => ⟨q_fk_push (q_fk_pop (q_fk_pop hf)) (q_vk_int (q_toin _)), fun H locs A a1 a2 a3 k => ?_⟩
  have k1 := k A a2
  have e0 : Int32.ofInt a &&& Int32.ofInt b = Int32.ofInt (q_and a b) := (q_ofi _).symm
  rw [List.map_cons, q_cv_i, ← e0] at k1
  exact lv_iand hc.1 hc.2.1 hd k1
theorem s_ior {pc : Nat} (hd : decode cc pc = .ok (.ior, 1)) : q_sim E l I own cc nL rt nm d pc (o_bin q_or (pc + 1)) := by
  refine ⟨f_bin _ _, fun p e R s m args below meth c Q s0 r hc hr C K ls st s1 h _ hK => ?_⟩
  obtain ⟨a, b, st', rfl, h⟩ := q_bin_spec h
  refine q_go (hK _ _ _ _ h) fun hm hf => ⟨q_fk_push (q_fk_pop (q_fk_pop hf)) (q_vk_int (q_toin _)), fun H locs A a1 a2 a3 k => ?_⟩
  have k1 := k A a2
  have e0 : Int32.ofInt a ||| Int32.ofInt b = Int32.ofInt (q_or a b) := (q_ofi _).symm
  rw [List.map_cons, q_cv_i, ← e0] at k1
  exact lv_ior hc.1 hc.2.1 hd k1
theorem s_ixor {pc : Nat} (hd : decode cc pc = .ok (.ixor, 1)) : q_sim E l I own cc nL rt nm d pc (o_bin q_xor (pc + 1)) := by
  refine ⟨f_bin _ _, fun p e R s m args below meth c Q s0 r hc hr C K ls st s1 h _ hK => ?_⟩
  obtain ⟨a, b, st', rfl, h⟩ := q_bin_spec h
  refine q_go (hK _ _ _ _ h) fun hm hf => ⟨q_fk_push (q_fk_pop (q_fk_pop hf)) (q_vk_int (q_toin _)), fun H locs A a1 a2 a3 k => ?_⟩
  have k1 := k A a2
  have e0 : Int32.ofInt a ^^^ Int32.ofInt b = Int32.ofInt (q_xor a b) := (q_ofi _).symm
  rw [List.map_cons, q_cv_i, ← e0] at k1
  exact lv_ixor hc.1 hc.2.1 hd k1
theorem s_ishl {pc : Nat} (hd : decode cc pc = .ok (.ishl, 1)) : q_sim E l I own cc nL rt nm d pc (o_bin q_shl (pc + 1)) := by
  refine ⟨f_bin _ _, fun p e R s m args below meth c Q s0 r hc hr C K ls st s1 h _ hK => ?_⟩
  obtain ⟨a, b, st', rfl, h⟩ := q_bin_spec h
  refine q_go (hK _ _ _ _ h) fun hm hf => ⟨q_fk_push (q_fk_pop (q_fk_pop hf)) (q_vk_int (q_toin _)), fun H locs A a1 a2 a3 k => ?_⟩
  have k1 := k A a2
  have e0 : Int32.ofInt a <<< (Int32.ofInt b &&& 31) = Int32.ofInt (q_shl a b) := (q_ofi _).symm
  rw [List.map_cons, q_cv_i, ← e0] at k1
  exact lv_ishl hc.1 hc.2.1 hd k1
theorem s_ishr {pc : Nat} (hd : decode cc pc = .ok (.ishr, 1)) : q_sim E l I own cc nL rt nm d pc (o_bin q_shr (pc + 1)) := by
  refine ⟨f_bin _ _, fun p e R s m args below meth c Q s0 r hc hr C K ls st s1 h _ hK => ?_⟩
  obtain ⟨a, b, st', rfl, h⟩ := q_bin_spec h
  refine q_go (hK _ _ _ _ h) fun hm hf => ⟨q_fk_push (q_fk_pop (q_fk_pop hf)) (q_vk_int (q_toin _)), fun H locs A a1 a2 a3 k => ?_⟩
  have k1 := k A a2
  have e0 : Int32.ofInt a >>> (Int32.ofInt b &&& 31) = Int32.ofInt (q_shr a b) := (q_ofi _).symm
  rw [List.map_cons, q_cv_i, ← e0] at k1
  exact lv_ishr hc.1 hc.2.1 hd k1
theorem s_idiv {pc : Nat} (hd : decode cc pc = .ok (.idiv, 1)) : q_sim E l I own cc nL rt nm d pc (o_div q_div (pc + 1)) := by
  refine ⟨f_div _ _, fun p e R s m args below meth c Q s0 r hc hr C K ls st s1 h _ hK => ?_⟩
  obtain ⟨a, b, st', rfl, h0, h⟩ := q_div_spec h
  refine q_go (hK _ _ _ _ h) fun hm hf => ⟨q_fk_push (q_fk_pop (q_fk_pop hf)) (q_vk_int (q_toin _)), fun H locs A a1 a2 a3 k => ?_⟩
  have k1 := k A a2
  have e0 : Int32.ofInt a / Int32.ofInt b = Int32.ofInt (q_div a b) := (q_ofi _).symm
  rw [List.map_cons, q_cv_i, ← e0] at k1
  exact lv_idiv hc.1 hc.2.1 hd (fun z => h0 ((q_i32eq (q_vk_i (q_fk_top hf)) q_0).mp z)) k1
theorem s_irem {pc : Nat} (hd : decode cc pc = .ok (.irem, 1)) : q_sim E l I own cc nL rt nm d pc (o_div q_rem (pc + 1)) := by
  refine ⟨f_div _ _, fun p e R s m args below meth c Q s0 r hc hr C K ls st s1 h _ hK => ?_⟩
  obtain ⟨a, b, st', rfl, h0, h⟩ := q_div_spec h
  refine q_go (hK _ _ _ _ h) fun hm hf => ⟨q_fk_push (q_fk_pop (q_fk_pop hf)) (q_vk_int (q_toin _)), fun H locs A a1 a2 a3 k => ?_⟩
  have k1 := k A a2
  have e0 : Int32.ofInt a - Int32.ofInt a / Int32.ofInt b * Int32.ofInt b = Int32.ofInt (q_rem a b) := (q_ofi _).symm
  rw [List.map_cons, q_cv_i, ← e0] at k1
  exact lv_irem hc.1 hc.2.1 hd (fun z => h0 ((q_i32eq (q_vk_i (q_fk_top hf)) q_0).mp z)) k1
theorem s_land {pc : Nat} (hd : decode cc pc = .ok (.land, 1)) : q_sim E l I own cc nL rt nm d pc (o_lbin q_land (pc + 1)) := by
  refine ⟨f_lbin _ _, fun p e R s m args below meth c Q s0 r hc hr C K ls st s1 h _ hK => ?_⟩
  obtain ⟨a, b, st', rfl, h⟩ := q_lbin_spec h
  refine q_go (hK _ _ _ _ h) fun hm hf => ⟨q_fk_push (q_fk_pop (q_fk_pop hf)) (q_vk_long (q_toin64 _)), fun H locs A a1 a2 a3 k => ?_⟩
  have k1 := k A a2
  have e0 : Int64.ofInt a &&& Int64.ofInt b = Int64.ofInt (q_land a b) := (q_ofi64 _).symm
  rw [List.map_cons, q_cv_l, ← e0] at k1
  exact lv_land hc.1 hc.2.1 hd k1
theorem s_lor {pc : Nat} (hd : decode cc pc = .ok (.lor, 1)) : q_sim E l I own cc nL rt nm d pc (o_lbin q_lor (pc + 1)) := by
  refine ⟨f_lbin _ _, fun p e R s m args below meth c Q s0 r hc hr C K ls st s1 h _ hK => ?_⟩
  obtain ⟨a, b, st', rfl, h⟩ := q_lbin_spec h
  refine q_go (hK _ _ _ _ h) fun hm hf => ⟨q_fk_push (q_fk_pop (q_fk_pop hf)) (q_vk_long (q_toin64 _)), fun H locs A a1 a2 a3 k => ?_⟩
  have k1 := k A a2
  have e0 : Int64.ofInt a ||| Int64.ofInt b = Int64.ofInt (q_lor a b) := (q_ofi64 _).symm
  rw [List.map_cons, q_cv_l, ← e0] at k1
  exact lv_lor hc.1 hc.2.1 hd k1
theorem s_lxor {pc : Nat} (hd : decode cc pc = .ok (.lxor, 1)) : q_sim E l I own cc nL rt nm d pc (o_lbin q_lxor (pc + 1)) := by
  refine ⟨f_lbin _ _, fun p e R s m args below meth c Q s0 r hc hr C K ls st s1 h _ hK => ?_⟩
  obtain ⟨a, b, st', rfl, h⟩ := q_lbin_spec h
  refine q_go (hK _ _ _ _ h) fun hm hf => ⟨q_fk_push (q_fk_pop (q_fk_pop hf)) (q_vk_long (q_toin64 _)), fun H locs A a1 a2 a3 k => ?_⟩
  have k1 := k A a2
  have e0 : Int64.ofInt a ^^^ Int64.ofInt b = Int64.ofInt (q_lxor a b) := (q_ofi64 _).symm
  rw [List.map_cons, q_cv_l, ← e0] at k1
  exact lv_lxor hc.1 hc.2.1 hd k1
theorem s_lshl {pc : Nat} (hd : decode cc pc = .ok (.lshl, 1)) : q_sim E l I own cc nL rt nm d pc (o_lsh q_lshl (pc + 1)) := by
  refine ⟨f_lsh _ _, fun p e R s m args below meth c Q s0 r hc hr C K ls st s1 h _ hK => ?_⟩
  obtain ⟨a, b, st', rfl, h⟩ := q_lsh_spec h
  refine q_go (hK _ _ _ _ h) fun hm hf => ⟨q_fk_push (q_fk_pop (q_fk_pop hf)) (q_vk_long (q_toin64 _)), fun H locs A a1 a2 a3 k => ?_⟩
  exact lv_lshl hc.1 hc.2.1 hd (v := Int64.ofInt (q_lshl a b)) (q_ofi64 _).symm (k A a2)
theorem s_lshr {pc : Nat} (hd : decode cc pc = .ok (.lshr, 1)) : q_sim E l I own cc nL rt nm d pc (o_lsh q_lshr (pc + 1)) := by
  refine ⟨f_lsh _ _, fun p e R s m args below meth c Q s0 r hc hr C K ls st s1 h _ hK => ?_⟩
  obtain ⟨a, b, st', rfl, h⟩ := q_lsh_spec h
  refine q_go (hK _ _ _ _ h) fun hm hf => ⟨q_fk_push (q_fk_pop (q_fk_pop hf)) (q_vk_long (q_toin64 _)), fun H locs A a1 a2 a3 k => ?_⟩
  exact lv_lshr hc.1 hc.2.1 hd (v := Int64.ofInt (q_lshr a b)) (q_ofi64 _).symm (k A a2)
theorem s_i2b {pc : Nat} (hd : decode cc pc = .ok (.i2b, 1)) : q_sim E l I own cc nL rt nm d pc (o_un q_i2b (pc + 1)) := by
  refine ⟨f_un _ _, fun p e R s m args below meth c Q s0 r hc hr C K ls st s1 h _ hK => ?_⟩
  obtain ⟨a, st', rfl, h⟩ := q_un_spec h
  refine q_go (hK _ _ _ _ h) fun hm hf => ⟨q_fk_push (q_fk_pop hf) (q_vk_int (q_toin _)), fun H locs A a1 a2 a3 k => ?_⟩
  exact lv_i2b hc.1 hc.2.1 hd (v := Int32.ofInt (q_i2b a)) (q_ofi _).symm (k A a2)
theorem s_i2s {pc : Nat} (hd : decode cc pc = .ok (.i2s, 1)) : q_sim E l I own cc nL rt nm d pc (o_un q_i2s (pc + 1)) := by
  refine ⟨f_un _ _, fun p e R s m args below meth c Q s0 r hc hr C K ls st s1 h _ hK => ?_⟩
  obtain ⟨a, st', rfl, h⟩ := q_un_spec h
  refine q_go (hK _ _ _ _ h) fun hm hf => ⟨q_fk_push (q_fk_pop hf) (q_vk_int (q_toin _)), fun H locs A a1 a2 a3 k => ?_⟩
  exact lv_i2s hc.1 hc.2.1 hd (v := Int32.ofInt (q_i2s a)) (q_ofi _).symm (k A a2)
theorem s_ifeq {pc t : Nat} {off : Int} (hd : decode cc pc = .ok (.ifCond .eq off, 3)) (ht : (pc : Int) + off = (t : Int)) : q_sim E l I own cc nL rt nm d pc (o_ifeq t (pc + 3)) := by
  refine ⟨f_ifeq _ _, fun p e R s m args below meth c Q s0 r hc hr C K ls st s1 h _ hK => ?_⟩
  unfold o_ifeq at h
  split at h
  · rename_i a st'
    split at h
    · rename_i hc0
      refine q_go (hK _ _ _ _ h) fun hm hf => ⟨q_fk_pop hf, fun H locs A a1 a2 a3 k => ?_⟩
      have ha := q_vk_i (q_fk_top hf)
      have e1 := q_i32eq ha q_0
      have e2 := q_i32lt ha q_0
      have e3 := q_i32lt q_0 ha
      have e4 := q_i32le ha q_0
      have e5 := q_i32le q_0 ha
      refine lv_if_eq hc.1 hc.2.1 hd ht (fun z => ?_) (fun z => ?_)
      all_goals first | exact k A a2 | (exfalso; simp only [q_32_0] at z; first | rw [e1] at z; omega | rw [e2] at z; omega | rw [e3] at z; omega | rw [e4] at z; omega | rw [e5] at z; omega | (rw [ne_eq, e1] at z; omega))
    · rename_i hc0
      refine q_go (hK _ _ _ _ h) fun hm hf => ⟨q_fk_pop hf, fun H locs A a1 a2 a3 k => ?_⟩
      have ha := q_vk_i (q_fk_top hf)
      have e1 := q_i32eq ha q_0
      have e2 := q_i32lt ha q_0
      have e3 := q_i32lt q_0 ha
      have e4 := q_i32le ha q_0
      have e5 := q_i32le q_0 ha
      refine lv_if_eq hc.1 hc.2.1 hd ht (fun z => ?_) (fun z => ?_)
      all_goals first | exact k A a2 | (exfalso; simp only [q_32_0] at z; first | rw [e1] at z; omega | rw [e2] at z; omega | rw [e3] at z; omega | rw [e4] at z; omega | rw [e5] at z; omega | (rw [ne_eq, e1] at z; omega))
  · cases h
theorem s_ifne {pc t : Nat} {off : Int} (hd : decode cc pc = .ok (.ifCond .ne off, 3)) (ht : (pc : Int) + off = (t : Int)) : q_sim E l I own cc nL rt nm d pc (o_ifne t (pc + 3)) := by
  refine ⟨f_ifne _ _, fun p e R s m args below meth c Q s0 r hc hr C K ls st s1 h _ hK => ?_⟩
  unfold o_ifne at h
  split at h
  · rename_i a st'
    split at h
    · rename_i hc0
      refine q_go (hK _ _ _ _ h) fun hm hf => ⟨q_fk_pop hf, fun H locs A a1 a2 a3 k => ?_⟩
      have ha := q_vk_i (q_fk_top hf)
      have e1 := q_i32eq ha q_0
      have e2 := q_i32lt ha q_0
      have e3 := q_i32lt q_0 ha
      have e4 := q_i32le ha q_0
      have e5 := q_i32le q_0 ha
      refine lv_if_ne hc.1 hc.2.1 hd ht (fun z => ?_) (fun z => ?_)
      all_goals first | exact k A a2 | (exfalso; simp only [q_32_0] at z; first | rw [e1] at z; omega | rw [e2] at z; omega | rw [e3] at z; omega | rw [e4] at z; omega | rw [e5] at z; omega | (rw [ne_eq, e1] at z; omega))
    · rename_i hc0
      refine q_go (hK _ _ _ _ h) fun hm hf => ⟨q_fk_pop hf, fun H locs A a1 a2 a3 k => ?_⟩
      have ha := q_vk_i (q_fk_top hf)
      have e1 := q_i32eq ha q_0
      have e2 := q_i32lt ha q_0
      have e3 := q_i32lt q_0 ha
      have e4 := q_i32le ha q_0
      have e5 := q_i32le q_0 ha
      refine lv_if_ne hc.1 hc.2.1 hd ht (fun z => ?_) (fun z => ?_)
      all_goals first | exact k A a2 | (exfalso; simp only [q_32_0] at z; first | rw [e1] at z; omega | rw [e2] at z; omega | rw [e3] at z; omega | rw [e4] at z; omega | rw [e5] at z; omega | (rw [ne_eq, e1] at z; omega))
  · cases h
theorem s_iflt {pc t : Nat} {off : Int} (hd : decode cc pc = .ok (.ifCond .lt off, 3)) (ht : (pc : Int) + off = (t : Int)) : q_sim E l I own cc nL rt nm d pc (o_iflt t (pc + 3)) := by
  refine ⟨f_iflt _ _, fun p e R s m args below meth c Q s0 r hc hr C K ls st s1 h _ hK => ?_⟩
  unfold o_iflt at h
  split at h
  · rename_i a st'
    split at h
    · rename_i hc0
      refine q_go (hK _ _ _ _ h) fun hm hf => ⟨q_fk_pop hf, fun H locs A a1 a2 a3 k => ?_⟩
      have ha := q_vk_i (q_fk_top hf)
      have e1 := q_i32eq ha q_0
      have e2 := q_i32lt ha q_0
      have e3 := q_i32lt q_0 ha
      have e4 := q_i32le ha q_0
      have e5 := q_i32le q_0 ha
      refine lv_if_lt hc.1 hc.2.1 hd ht (fun z => ?_) (fun z => ?_)
      all_goals first | exact k A a2 | (exfalso; simp only [q_32_0] at z; first | rw [e1] at z; omega | rw [e2] at z; omega | rw [e3] at z; omega | rw [e4] at z; omega | rw [e5] at z; omega | (rw [ne_eq, e1] at z; omega))
    · rename_i hc0
      refine q_go (hK _ _ _ _ h) fun hm hf => ⟨q_fk_pop hf, fun H locs A a1 a2 a3 k => ?_⟩
      have ha := q_vk_i (q_fk_top hf)
      have e1 := q_i32eq ha q_0
      have e2 := q_i32lt ha q_0
      have e3 := q_i32lt q_0 ha
      have e4 := q_i32le ha q_0
      have e5 := q_i32le q_0 ha
      refine lv_if_lt hc.1 hc.2.1 hd ht (fun z => ?_) (fun z => ?_)
      all_goals first | exact k A a2 | (exfalso; simp only [q_32_0] at z; first | rw [e1] at z; omega | rw [e2] at z; omega | rw [e3] at z; omega | rw [e4] at z; omega | rw [e5] at z; omega | (rw [ne_eq, e1] at z; omega))
  · cases h
theorem s_ifge {pc t : Nat} {off : Int} (hd : decode cc pc = .ok (.ifCond .ge off, 3)) (ht : (pc : Int) + off = (t : Int)) : q_sim E l I own cc nL rt nm d pc (o_ifge t (pc + 3)) := by
  refine ⟨f_ifge _ _, fun p e R s m args below meth c Q s0 r hc hr C K ls st s1 h _ hK => ?_⟩
  unfold o_ifge at h
  split at h
  · rename_i a st'
    split at h
    · rename_i hc0
      refine q_go (hK _ _ _ _ h) fun hm hf => ⟨q_fk_pop hf, fun H locs A a1 a2 a3 k => ?_⟩
      have ha := q_vk_i (q_fk_top hf)
      have e1 := q_i32eq ha q_0
      have e2 := q_i32lt ha q_0
      have e3 := q_i32lt q_0 ha
      have e4 := q_i32le ha q_0
      have e5 := q_i32le q_0 ha
      refine lv_if_ge hc.1 hc.2.1 hd ht (fun z => ?_) (fun z => ?_)
      all_goals first | exact k A a2 | (exfalso; simp only [q_32_0] at z; first | rw [e1] at z; omega | rw [e2] at z; omega | rw [e3] at z; omega | rw [e4] at z; omega | rw [e5] at z; omega | (rw [ne_eq, e1] at z; omega))
    · rename_i hc0
      refine q_go (hK _ _ _ _ h) fun hm hf => ⟨q_fk_pop hf, fun H locs A a1 a2 a3 k => ?_⟩
      have ha := q_vk_i (q_fk_top hf)
      have e1 := q_i32eq ha q_0
      have e2 := q_i32lt ha q_0
      have e3 := q_i32lt q_0 ha
      have e4 := q_i32le ha q_0
      have e5 := q_i32le q_0 ha
      refine lv_if_ge hc.1 hc.2.1 hd ht (fun z => ?_) (fun z => ?_)
      all_goals first | exact k A a2 | (exfalso; simp only [q_32_0] at z; first | rw [e1] at z; omega | rw [e2] at z; omega | rw [e3] at z; omega | rw [e4] at z; omega | rw [e5] at z; omega | (rw [ne_eq, e1] at z; omega))
  · cases h
theorem s_ifgt {pc t : Nat} {off : Int} (hd : decode cc pc = .ok (.ifCond .gt off, 3)) (ht : (pc : Int) + off = (t : Int)) : q_sim E l I own cc nL rt nm d pc (o_ifgt t (pc + 3)) := by
  refine ⟨f_ifgt _ _, fun p e R s m args below meth c Q s0 r hc hr C K ls st s1 h _ hK => ?_⟩
  unfold o_ifgt at h
  split at h
  · rename_i a st'
    split at h
    · rename_i hc0
      refine q_go (hK _ _ _ _ h) fun hm hf => ⟨q_fk_pop hf, fun H locs A a1 a2 a3 k => ?_⟩
      have ha := q_vk_i (q_fk_top hf)
      have e1 := q_i32eq ha q_0
      have e2 := q_i32lt ha q_0
      have e3 := q_i32lt q_0 ha
      have e4 := q_i32le ha q_0
      have e5 := q_i32le q_0 ha
      refine lv_if_gt hc.1 hc.2.1 hd ht (fun z => ?_) (fun z => ?_)
      all_goals first | exact k A a2 | (exfalso; simp only [q_32_0] at z; first | rw [e1] at z; omega | rw [e2] at z; omega | rw [e3] at z; omega | rw [e4] at z; omega | rw [e5] at z; omega | (rw [ne_eq, e1] at z; omega))
    · rename_i hc0
      refine q_go (hK _ _ _ _ h) fun hm hf => ⟨q_fk_pop hf, fun H locs A a1 a2 a3 k => ?_⟩
      have ha := q_vk_i (q_fk_top hf)
      have e1 := q_i32eq ha q_0
      have e2 := q_i32lt ha q_0
      have e3 := q_i32lt q_0 ha
      have e4 := q_i32le ha q_0
      have e5 := q_i32le q_0 ha
      refine lv_if_gt hc.1 hc.2.1 hd ht (fun z => ?_) (fun z => ?_)
      all_goals first | exact k A a2 | (exfalso; simp only [q_32_0] at z; first | rw [e1] at z; omega | rw [e2] at z; omega | rw [e3] at z; omega | rw [e4] at z; omega | rw [e5] at z; omega | (rw [ne_eq, e1] at z; omega))
  · cases h
theorem s_ifle {pc t : Nat} {off : Int} (hd : decode cc pc = .ok (.ifCond .le off, 3)) (ht : (pc : Int) + off = (t : Int)) : q_sim E l I own cc nL rt nm d pc (o_ifle t (pc + 3)) := by
  refine ⟨f_ifle _ _, fun p e R s m args below meth c Q s0 r hc hr C K ls st s1 h _ hK => ?_⟩
  unfold o_ifle at h
  split at h
  · rename_i a st'
    split at h
    · rename_i hc0
      refine q_go (hK _ _ _ _ h) fun hm hf => ⟨q_fk_pop hf, fun H locs A a1 a2 a3 k => ?_⟩
      have ha := q_vk_i (q_fk_top hf)
      have e1 := q_i32eq ha q_0
      have e2 := q_i32lt ha q_0
      have e3 := q_i32lt q_0 ha
      have e4 := q_i32le ha q_0
      have e5 := q_i32le q_0 ha
      refine lv_if_le hc.1 hc.2.1 hd ht (fun z => ?_) (fun z => ?_)
      all_goals first | exact k A a2 | (exfalso; simp only [q_32_0] at z; first | rw [e1] at z; omega | rw [e2] at z; omega | rw [e3] at z; omega | rw [e4] at z; omega | rw [e5] at z; omega | (rw [ne_eq, e1] at z; omega))
    · rename_i hc0
      refine q_go (hK _ _ _ _ h) fun hm hf => ⟨q_fk_pop hf, fun H locs A a1 a2 a3 k => ?_⟩
      have ha := q_vk_i (q_fk_top hf)
      have e1 := q_i32eq ha q_0
      have e2 := q_i32lt ha q_0
      have e3 := q_i32lt q_0 ha
      have e4 := q_i32le ha q_0
      have e5 := q_i32le q_0 ha
      refine lv_if_le hc.1 hc.2.1 hd ht (fun z => ?_) (fun z => ?_)
      all_goals first | exact k A a2 | (exfalso; simp only [q_32_0] at z; first | rw [e1] at z; omega | rw [e2] at z; omega | rw [e3] at z; omega | rw [e4] at z; omega | rw [e5] at z; omega | (rw [ne_eq, e1] at z; omega))
  · cases h
theorem s_icmpeq {pc t : Nat} {off : Int} (hd : decode cc pc = .ok (.if_icmp .eq off, 3)) (ht : (pc : Int) + off = (t : Int)) : q_sim E l I own cc nL rt nm d pc (o_icmpeq t (pc + 3)) := by
  refine ⟨f_icmpeq _ _, fun p e R s m args below meth c Q s0 r hc hr C K ls st s1 h _ hK => ?_⟩
  unfold o_icmpeq at h
  split at h
  · rename_i b a st'
    split at h
    · rename_i hc0
      refine q_go (hK _ _ _ _ h) fun hm hf => ⟨q_fk_pop (q_fk_pop hf), fun H locs A a1 a2 a3 k => ?_⟩
      have hb := q_vk_i (q_fk_top hf)
      have ha := q_vk_i (q_fk_top (q_fk_pop hf))
      have e1 := q_i32eq ha hb
      have e2 := q_i32lt ha hb
      have e3 := q_i32lt hb ha
      have e4 := q_i32le ha hb
      have e5 := q_i32le hb ha
      refine lv_icmp_eq hc.1 hc.2.1 hd ht (fun z => ?_) (fun z => ?_)
      all_goals first | exact k A a2 | (exfalso; first | rw [e1] at z; omega | rw [e2] at z; omega | rw [e3] at z; omega | rw [e4] at z; omega | rw [e5] at z; omega | (rw [ne_eq, e1] at z; omega))
    · rename_i hc0
      refine q_go (hK _ _ _ _ h) fun hm hf => ⟨q_fk_pop (q_fk_pop hf), fun H locs A a1 a2 a3 k => ?_⟩
      have hb := q_vk_i (q_fk_top hf)
      have ha := q_vk_i (q_fk_top (q_fk_pop hf))
      have e1 := q_i32eq ha hb
      have e2 := q_i32lt ha hb
      have e3 := q_i32lt hb ha
      have e4 := q_i32le ha hb
      have e5 := q_i32le hb ha
      refine lv_icmp_eq hc.1 hc.2.1 hd ht (fun z => ?_) (fun z => ?_)
      all_goals first | exact k A a2 | (exfalso; first | rw [e1] at z; omega | rw [e2] at z; omega | rw [e3] at z; omega | rw [e4] at z; omega | rw [e5] at z; omega | (rw [ne_eq, e1] at z; omega))
  · cases h
theorem s_icmpne {pc t : Nat} {off : Int} (hd : decode cc pc = .ok (.if_icmp .ne off, 3)) (ht : (pc : Int) + off = (t : Int)) : q_sim E l I own cc nL rt nm d pc (o_icmpne t (pc + 3)) := by
  refine ⟨f_icmpne _ _, fun p e R s m args below meth c Q s0 r hc hr C K ls st s1 h _ hK => ?_⟩
  unfold o_icmpne at h
  split at h
  · rename_i b a st'
    split at h
    · rename_i hc0
      refine q_go (hK _ _ _ _ h) fun hm hf => ⟨q_fk_pop (q_fk_pop hf), fun H locs A a1 a2 a3 k => ?_⟩
      have hb := q_vk_i (q_fk_top hf)
      have ha := q_vk_i (q_fk_top (q_fk_pop hf))
      have e1 := q_i32eq ha hb
      have e2 := q_i32lt ha hb
      have e3 := q_i32lt hb ha
      have e4 := q_i32le ha hb
      have e5 := q_i32le hb ha
      refine lv_icmp_ne hc.1 hc.2.1 hd ht (fun z => ?_) (fun z => ?_)
      all_goals first | exact k A a2 | (exfalso; first | rw [e1] at z; omega | rw [e2] at z; omega | rw [e3] at z; omega | rw [e4] at z; omega | rw [e5] at z; omega | (rw [ne_eq, e1] at z; omega))
    · rename_i hc0
      refine q_go (hK _ _ _ _ h) fun hm hf => ⟨q_fk_pop (q_fk_pop hf), fun H locs A a1 a2 a3 k => ?_⟩
      have hb := q_vk_i (q_fk_top hf)
      have ha := q_vk_i (q_fk_top (q_fk_pop hf))
      have e1 := q_i32eq ha hb
      have e2 := q_i32lt ha hb
      have e3 := q_i32lt hb ha
      have e4 := q_i32le ha hb
      have e5 := q_i32le hb ha
      refine lv_icmp_ne hc.1 hc.2.1 hd ht (fun z => ?_) (fun z => ?_)
      all_goals first | exact k A a2 | (exfalso; first | rw [e1] at z; omega | rw [e2] at z; omega | rw [e3] at z; omega | rw [e4] at z; omega | rw [e5] at z; omega | (rw [ne_eq, e1] at z; omega))
  · cases h
theorem s_icmplt {pc t : Nat} {off : Int} (hd : decode cc pc = .ok (.if_icmp .lt off, 3)) (ht : (pc : Int) + off = (t : Int)) : q_sim E l I own cc nL rt nm d pc (o_icmplt t (pc + 3)) := by
  refine ⟨f_icmplt _ _, fun p e R s m args below meth c Q s0 r hc hr C K ls st s1 h _ hK => ?_⟩
  unfold o_icmplt at h
  split at h
  · rename_i b a st'
    split at h
    · rename_i hc0
      refine q_go (hK _ _ _ _ h) fun hm hf => ⟨q_fk_pop (q_fk_pop hf), fun H locs A a1 a2 a3 k => ?_⟩
      have hb := q_vk_i (q_fk_top hf)
      have ha := q_vk_i (q_fk_top (q_fk_pop hf))
      have e1 := q_i32eq ha hb
      have e2 := q_i32lt ha hb
      have e3 := q_i32lt hb ha
      have e4 := q_i32le ha hb
      have e5 := q_i32le hb ha
      refine lv_icmp_lt hc.1 hc.2.1 hd ht (fun z => ?_) (fun z => ?_)
      all_goals first | exact k A a2 | (exfalso; first | rw [e1] at z; omega | rw [e2] at z; omega | rw [e3] at z; omega | rw [e4] at z; omega | rw [e5] at z; omega | (rw [ne_eq, e1] at z; omega))
    · rename_i hc0
      refine q_go (hK _ _ _ _ h) fun hm hf => ⟨q_fk_pop (q_fk_pop hf), fun H locs A a1 a2 a3 k => ?_⟩
      have hb := q_vk_i (q_fk_top hf)
      have ha := q_vk_i (q_fk_top (q_fk_pop hf))
      have e1 := q_i32eq ha hb
      have e2 := q_i32lt ha hb
      have e3 := q_i32lt hb ha
      have e4 := q_i32le ha hb
      have e5 := q_i32le hb ha
      refine lv_icmp_lt hc.1 hc.2.1 hd ht (fun z => ?_) (fun z => ?_)
      all_goals first | exact k A a2 | (exfalso; first | rw [e1] at z; omega | rw [e2] at z; omega | rw [e3] at z; omega | rw [e4] at z; omega | rw [e5] at z; omega | (rw [ne_eq, e1] at z; omega))
  · cases h
theorem s_icmpge {pc t : Nat} {off : Int} (hd : decode cc pc = .ok (.if_icmp .ge off, 3)) (ht : (pc : Int) + off = (t : Int)) : q_sim E l I own cc nL rt nm d pc (o_icmpge t (pc + 3)) := by
  refine ⟨f_icmpge _ _, fun p e R s m args below meth c Q s0 r hc hr C K ls st s1 h _ hK => ?_⟩
  unfold o_icmpge at h
  split at h
  · rename_i b a st'
    split at h
    · rename_i hc0
      refine q_go (hK _ _ _ _ h) fun hm hf => ⟨q_fk_pop (q_fk_pop hf), fun H locs A a1 a2 a3 k => ?_⟩
      have hb := q_vk_i (q_fk_top hf)
      have ha := q_vk_i (q_fk_top (q_fk_pop hf))
      have e1 := q_i32eq ha hb
      have e2 := q_i32lt ha hb
      have e3 := q_i32lt hb ha
      have e4 := q_i32le ha hb
      have e5 := q_i32le hb ha
      refine lv_icmp_ge hc.1 hc.2.1 hd ht (fun z => ?_) (fun z => ?_)
      all_goals first | exact k A a2 | (exfalso; first | rw [e1] at z; omega | rw [e2] at z; omega | rw [e3] at z; omega | rw [e4] at z; omega | rw [e5] at z; omega | (rw [ne_eq, e1] at z; omega))
    · rename_i hc0
      refine q_go (hK _ _ _ _ h) fun hm hf => ⟨q_fk_pop (q_fk_pop hf), fun H locs A a1 a2 a3 k => ?_⟩
      have hb := q_vk_i (q_fk_top hf)
      have ha := q_vk_i (q_fk_top (q_fk_pop hf))
      have e1 := q_i32eq ha hb
      have e2 := q_i32lt ha hb
      have e3 := q_i32lt hb ha
      have e4 := q_i32le ha hb
      have e5 := q_i32le hb ha
      refine lv_icmp_ge hc.1 hc.2.1 hd ht (fun z => ?_) (fun z => ?_)
      all_goals first | exact k A a2 | (exfalso; first | rw [e1] at z; omega | rw [e2] at z; omega | rw [e3] at z; omega | rw [e4] at z; omega | rw [e5] at z; omega | (rw [ne_eq, e1] at z; omega))
  · cases h
theorem s_icmpgt {pc t : Nat} {off : Int} (hd : decode cc pc = .ok (.if_icmp .gt off, 3)) (ht : (pc : Int) + off = (t : Int)) : q_sim E l I own cc nL rt nm d pc (o_icmpgt t (pc + 3)) := by
  refine ⟨f_icmpgt _ _, fun p e R s m args below meth c Q s0 r hc hr C K ls st s1 h _ hK => ?_⟩
  unfold o_icmpgt at h
  split at h
  · rename_i b a st'
    split at h
    · rename_i hc0
      refine q_go (hK _ _ _ _ h) fun hm hf => ⟨q_fk_pop (q_fk_pop hf), fun H locs A a1 a2 a3 k => ?_⟩
      have hb := q_vk_i (q_fk_top hf)
      have ha := q_vk_i (q_fk_top (q_fk_pop hf))
      have e1 := q_i32eq ha hb
      have e2 := q_i32lt ha hb
      have e3 := q_i32lt hb ha
      have e4 := q_i32le ha hb
      have e5 := q_i32le hb ha
      refine lv_icmp_gt hc.1 hc.2.1 hd ht (fun z => ?_) (fun z => ?_)
      all_goals first | exact k A a2 | (exfalso; first | rw [e1] at z; omega | rw [e2] at z; omega | rw [e3] at z; omega | rw [e4] at z; omega | rw [e5] at z; omega | (rw [ne_eq, e1] at z; omega))
    · rename_i hc0
      refine q_go (hK _ _ _ _ h) fun hm hf => ⟨q_fk_pop (q_fk_pop hf), fun H locs A a1 a2 a3 k => ?_⟩
      have hb := q_vk_i (q_fk_top hf)
      have ha := q_vk_i (q_fk_top (q_fk_pop hf))
      have e1 := q_i32eq ha hb
      have e2 := q_i32lt ha hb
      have e3 := q_i32lt hb ha
      have e4 := q_i32le ha hb
      have e5 := q_i32le hb ha
      refine lv_icmp_gt hc.1 hc.2.1 hd ht (fun z => ?_) (fun z => ?_)
      all_goals first | exact k A a2 | (exfalso; first | rw [e1] at z; omega | rw [e2] at z; omega | rw [e3] at z; omega | rw [e4] at z; omega | rw [e5] at z; omega | (rw [ne_eq, e1] at z; omega))
  · cases h
theorem s_icmple {pc t : Nat} {off : Int} (hd : decode cc pc = .ok (.if_icmp .le off, 3)) (ht : (pc : Int) + off = (t : Int)) : q_sim E l I own cc nL rt nm d pc (o_icmple t (pc + 3)) := by
  refine ⟨f_icmple _ _, fun p e R s m args below meth c Q s0 r hc hr C K ls st s1 h _ hK => ?_⟩
  unfold o_icmple at h
  split at h
  · rename_i b a st'
    split at h
    · rename_i hc0
      refine q_go (hK _ _ _ _ h) fun hm hf => ⟨q_fk_pop (q_fk_pop hf), fun H locs A a1 a2 a3 k => ?_⟩
      have hb := q_vk_i (q_fk_top hf)
      have ha := q_vk_i (q_fk_top (q_fk_pop hf))
      have e1 := q_i32eq ha hb
      have e2 := q_i32lt ha hb
      have e3 := q_i32lt hb ha
      have e4 := q_i32le ha hb
      have e5 := q_i32le hb ha
      refine lv_icmp_le hc.1 hc.2.1 hd ht (fun z => ?_) (fun z => ?_)
      all_goals first | exact k A a2 | (exfalso; first | rw [e1] at z; omega | rw [e2] at z; omega | rw [e3] at z; omega | rw [e4] at z; omega | rw [e5] at z; omega | (rw [ne_eq, e1] at z; omega))
    · rename_i hc0
      refine q_go (hK _ _ _ _ h) fun hm hf => ⟨q_fk_pop (q_fk_pop hf), fun H locs A a1 a2 a3 k => ?_⟩
      have hb := q_vk_i (q_fk_top hf)
      have ha := q_vk_i (q_fk_top (q_fk_pop hf))
      have e1 := q_i32eq ha hb
      have e2 := q_i32lt ha hb
      have e3 := q_i32lt hb ha
      have e4 := q_i32le ha hb
      have e5 := q_i32le hb ha
      refine lv_icmp_le hc.1 hc.2.1 hd ht (fun z => ?_) (fun z => ?_)
      all_goals first | exact k A a2 | (exfalso; first | rw [e1] at z; omega | rw [e2] at z; omega | rw [e3] at z; omega | rw [e4] at z; omega | rw [e5] at z; omega | (rw [ne_eq, e1] at z; omega))
  · cases h
end SP3
