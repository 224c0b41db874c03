/-! the plain instructions: no memory is touched -/
section SP
variable {E : q_X} {l : Launch} {I : q_I} {own : String} {cc : ByteArray} {nL : Nat} {rt : Option FieldType} {nm : String} {d : Nat}
/-- the memory stays; the next frame is good where this one is; and a row of the kit leads there -/
theorem q_go {p : Program} {e : Env} {R : Room} {s : State} {m : MethodId} {args : Array Value} {below : List Frame} {meth : Method} {c : Code} {Q : State → Prop} {s0 : q_M} {r : q_V × q_M} {pc pc' : Nat} {ls st ls' st' : List q_V} {s1 : q_M}
    (hK : q_S E l nL rt p e R s m args below meth c Q s0 r pc' ls' st' s1)
    (h : q_mok E s1 → q_fk s1 ls st → q_fk s1 ls' st' ∧ ∀ (H : Heap) (locs : List Loc) (A : Array Slot), q_rel E s1 H → q_ls E nL ls A → (∀ x ∈ locs, E.1 ≤ x.base) →
      (∀ A' : Array Slot, q_ls E nL ls' A' → W p l e R s m args below meth c H locs (s1.1.1 - s0.1.1).toNat (10000 * (s1.1.1 - s0.1.1).toNat) Q (F0 m pc' A' (st'.map (q_cv E)))) →
      W p l e R s m args below meth c H locs (s1.1.1 - s0.1.1).toNat (10000 * (s1.1.1 - s0.1.1).toNat) Q (F0 m pc A (st.map (q_cv E)))) :
    q_S E l nL rt p e R s m args below meth c Q s0 r pc ls st s1 := by
  refine ⟨hK.1, fun hm hf h0 => ?_⟩
  obtain ⟨h1, h2⟩ := h hm hf
  have g3 := hK.2 hm h1 h0
  exact fun H locs A a1 a2 a3 => h2 H locs A a1 a2 a3 (fun A' hA' => g3 H locs A' a1 hA' a3)
theorem q_fk_push {s : q_M} {ls st : List q_V} {v : q_V} (h : q_fk s ls st) (hv : q_vk s v) : q_fk s ls (v :: st) := ⟨h.1, fun x hx => by
  rcases List.mem_cons.mp hx with rfl | h2
  · exact hv
  · exact h.2 x h2⟩
theorem q_fk_pop {s : q_M} {ls st : List q_V} {v : q_V} (h : q_fk s ls (v :: st)) : q_fk s ls st := ⟨h.1, fun x hx => h.2 x (List.mem_cons_of_mem _ hx)⟩
theorem q_fk_top {s : q_M} {ls st : List q_V} {v : q_V} (h : q_fk s ls (v :: st)) : q_vk s v := h.2 v List.mem_cons_self
theorem q_vk_int {s : q_M} {v : Int} (h : q_i32 v) : q_vk s (0, v) := Or.inl ⟨rfl, h⟩
theorem q_vk_long {s : q_M} {v : Int} (h : q_i64 v) : q_vk s (3, v) := Or.inr (Or.inl ⟨rfl, h⟩)
theorem q_vk_not9 {s : q_M} {v : q_V} (h : q_vk s v) : v.1 ≠ 9 := by
  rcases h with a | a | a
  · omega
  · omega
  · omega
-- constants
theorem s_iconst {pc : Nat} {n : Int} (hd : decode cc pc = .ok (.iconst n, 1)) (hn : q_i32 n) : q_sim E l I own cc nL rt nm d pc (o_const n (pc + 1)) := by
  refine ⟨f_const _ _, fun p e R s m args below meth c Q s0 r hc hr C K ls st s1 h _ hK => ?_⟩
  refine q_go (hK _ _ _ _ h) fun hm hf => ⟨q_fk_push hf (q_vk_int hn), fun H locs A a1 a2 a3 k => ?_⟩
  exact lv_iconst hc.1 hc.2.1 hd rfl (k A a2)
theorem s_bipush {pc : Nat} {n : Int} (hd : decode cc pc = .ok (.bipush n, 2)) (hn : q_i32 n) (hb : (Int8.ofInt n).toInt32 = Int32.ofInt n) : q_sim E l I own cc nL rt nm d pc (o_const n (pc + 2)) := by
  refine ⟨f_const _ _, fun p e R s m args below meth c Q s0 r hc hr C K ls st s1 h _ hK => ?_⟩
  refine q_go (hK _ _ _ _ h) fun hm hf => ⟨q_fk_push hf (q_vk_int hn), fun H locs A a1 a2 a3 k => ?_⟩
  exact lv_bipush hc.1 hc.2.1 hd hb (k A a2)
theorem s_sipush {pc : Nat} {n : Int} (hd : decode cc pc = .ok (.sipush n, 3)) (hn : q_i32 n) (hb : (Int16.ofInt n).toInt32 = Int32.ofInt n) : q_sim E l I own cc nL rt nm d pc (o_const n (pc + 3)) := by
  refine ⟨f_const _ _, fun p e R s m args below meth c Q s0 r hc hr C K ls st s1 h _ hK => ?_⟩
  refine q_go (hK _ _ _ _ h) fun hm hf => ⟨q_fk_push hf (q_vk_int hn), fun H locs A a1 a2 a3 k => ?_⟩
  exact lv_sipush hc.1 hc.2.1 hd hb (k A a2)
theorem s_ldc {pc idx : Nat} {n : Int} (hd : decode cc pc = .ok (.ldc idx, 2)) (hn : q_i32 n) (hw : Cond.constant own idx (Int32.ofInt n) ∈ qG) : q_sim E l I own cc nL rt nm d pc (o_const n (pc + 2)) := by
  refine ⟨f_const _ _, fun p e R s m args below meth c Q s0 r hc hr C K ls st s1 h _ hK => ?_⟩
  refine q_go (hK _ _ _ _ h) fun hm hf => ⟨q_fk_push hf (q_vk_int hn), fun H locs A a1 a2 a3 k => ?_⟩
  obtain ⟨hx, hb, -, -, hown, -, -, hts, -⟩ := hc
  exact lv_ldc hx hb hown (hts _ hw) hd (k A a2)
theorem s_lconst {pc : Nat} {n : Fin 2} {v : Int} (hd : decode cc pc = .ok (.lconst n, 1)) (hn : q_i64 v) (hv : Int64.ofNat (n : Nat) = Int64.ofInt v) : q_sim E l I own cc nL rt nm d pc (o_lconst v (pc + 1)) := by
  refine ⟨f_lconst _ _, fun p e R s m args below meth c Q s0 r hc hr C K ls st s1 h _ hK => ?_⟩
  refine q_go (hK _ _ _ _ h) fun hm hf => ⟨q_fk_push hf (q_vk_long hn), fun H locs A a1 a2 a3 k => ?_⟩
  exact lv_lconst hc.1 hc.2.1 hd hv (k A a2)
theorem s_ldc2 {pc idx : Nat} {n : Int} (hd : decode cc pc = .ok (.ldc2_w idx, 3)) (hn : q_i64 n) (hw : Cond.constantLong own idx (Int64.ofInt n) ∈ qG) : q_sim E l I own cc nL rt nm d pc (o_lconst n (pc + 3)) := by
  refine ⟨f_lconst _ _, fun p e R s m args below meth c Q s0 r hc hr C K ls st s1 h _ hK => ?_⟩
  refine q_go (hK _ _ _ _ h) fun hm hf => ⟨q_fk_push hf (q_vk_long hn), fun H locs A a1 a2 a3 k => ?_⟩
  obtain ⟨hx, hb, -, -, hown, -, -, hts, -⟩ := hc
  exact lv_ldc2 hx hb hown (hts _ hw) hd (k A a2)
-- loads
theorem q_iload_spec {i n : Nat} {C : q_C} {K : q_K} {ls st : List q_V} {s1 : q_M} {r : q_V × q_M} (h : o_iload i n C K ls st s1 = some r) : ∃ v, q_at ls i = (0, v) ∧ K n ls ((0, v) :: st) s1 = some r := by
  unfold o_iload at h
  split at h
  · rename_i v hv; exact ⟨v, hv, h⟩
  · cases h
theorem q_lload_spec {i n : Nat} {C : q_C} {K : q_K} {ls st : List q_V} {s1 : q_M} {r : q_V × q_M} (h : o_lload i n C K ls st s1 = some r) : ∃ v, q_at ls i = (3, v) ∧ K n ls ((3, v) :: st) s1 = some r := by
  unfold o_lload at h
  split at h
  · rename_i v hv; exact ⟨v, hv, h⟩
  · cases h
theorem q_aload_spec {i n : Nat} {C : q_C} {K : q_K} {ls st : List q_V} {s1 : q_M} {r : q_V × q_M} (h : o_aload i n C K ls st s1 = some r) : 10 ≤ (q_at ls i).1 ∧ K n ls (q_at ls i :: st) s1 = some r := by
  unfold o_aload at h
  split at h
  · rename_i hv; exact ⟨Nat.le_of_ble_eq_true hv, h⟩
  · cases h
theorem s_iload_n {pc i : Nat} {k0 : Fin 4} (hd : decode cc pc = .ok (.iload_n k0, 1)) (hi : (k0 : Nat) = i) : q_sim E l I own cc nL rt nm d pc (o_iload i (pc + 1)) := by
  refine ⟨f_iload _ _, fun p e R s m args below meth c Q s0 r hc hr C K ls st s1 h _ hK => ?_⟩
  obtain ⟨v, hv, h⟩ := q_iload_spec h
  refine q_go (hK _ _ _ _ h) fun hm hf => ⟨q_fk_push hf (hv ▸ hf.1 i (by rw [hv]; simp)), fun H locs A a1 a2 a3 k => ?_⟩
  exact lv_iload_n hc.1 hc.2.1 hd hi (by rw [a2.2.2.2 i (by rw [hv]; simp), hv]; rfl) (k A a2)
theorem s_iload {pc i : Nat} (hd : decode cc pc = .ok (.iload i, 2)) : q_sim E l I own cc nL rt nm d pc (o_iload i (pc + 2)) := by
  refine ⟨f_iload _ _, fun p e R s m args below meth c Q s0 r hc hr C K ls st s1 h _ hK => ?_⟩
  obtain ⟨v, hv, h⟩ := q_iload_spec h
  refine q_go (hK _ _ _ _ h) fun hm hf => ⟨q_fk_push hf (hv ▸ hf.1 i (by rw [hv]; simp)), fun H locs A a1 a2 a3 k => ?_⟩
  exact lv_iload hc.1 hc.2.1 hd (by rw [a2.2.2.2 i (by rw [hv]; simp), hv]; rfl) (k A a2)
theorem s_lload_n {pc i : Nat} {k0 : Fin 4} (hd : decode cc pc = .ok (.lload_n k0, 1)) (hi : (k0 : Nat) = i) : q_sim E l I own cc nL rt nm d pc (o_lload i (pc + 1)) := by
  refine ⟨f_lload _ _, fun p e R s m args below meth c Q s0 r hc hr C K ls st s1 h _ hK => ?_⟩
  obtain ⟨v, hv, h⟩ := q_lload_spec h
  refine q_go (hK _ _ _ _ h) fun hm hf => ⟨q_fk_push hf (hv ▸ hf.1 i (by rw [hv]; simp)), fun H locs A a1 a2 a3 k => ?_⟩
  exact lv_lload_n hc.1 hc.2.1 hd hi (by rw [a2.2.2.2 i (by rw [hv]; simp), hv]; rfl) (k A a2)
theorem s_lload {pc i : Nat} (hd : decode cc pc = .ok (.lload i, 2)) : q_sim E l I own cc nL rt nm d pc (o_lload i (pc + 2)) := by
  refine ⟨f_lload _ _, fun p e R s m args below meth c Q s0 r hc hr C K ls st s1 h _ hK => ?_⟩
  obtain ⟨v, hv, h⟩ := q_lload_spec h
  refine q_go (hK _ _ _ _ h) fun hm hf => ⟨q_fk_push hf (hv ▸ hf.1 i (by rw [hv]; simp)), fun H locs A a1 a2 a3 k => ?_⟩
  exact lv_lload hc.1 hc.2.1 hd (by rw [a2.2.2.2 i (by rw [hv]; simp), hv]; rfl) (k A a2)
theorem q_n9 {t : Nat} (h : 10 ≤ t) : t ≠ 9 := by omega
theorem q_cvr (E : q_X) (v : q_V) (h : 10 ≤ v.1) : q_cv E v = .ref (q_a E v.2) := q_cv_r E v.2 h
theorem s_aload_n {pc i : Nat} {k0 : Fin 4} (hd : decode cc pc = .ok (.aload_n k0, 1)) (hi : (k0 : Nat) = i) : q_sim E l I own cc nL rt nm d pc (o_aload i (pc + 1)) := by
  refine ⟨f_aload _ _, fun p e R s m args below meth c Q s0 r hc hr C K ls st s1 h _ hK => ?_⟩
  obtain ⟨hv, h⟩ := q_aload_spec h
  refine q_go (hK _ _ _ _ h) fun hm hf => ⟨q_fk_push hf (hf.1 i (q_n9 hv)), fun H locs A a1 a2 a3 k => ?_⟩
  have k1 := k A a2
  rw [List.map_cons, q_cvr E _ hv] at k1
  exact lv_aload_n hc.1 hc.2.1 hd hi (by rw [a2.2.2.2 i (q_n9 hv), q_cvr E _ hv]) k1
theorem s_aload {pc i : Nat} (hd : decode cc pc = .ok (.aload i, 2)) : q_sim E l I own cc nL rt nm d pc (o_aload i (pc + 2)) := by
  refine ⟨f_aload _ _, fun p e R s m args below meth c Q s0 r hc hr C K ls st s1 h _ hK => ?_⟩
  obtain ⟨hv, h⟩ := q_aload_spec h
  refine q_go (hK _ _ _ _ h) fun hm hf => ⟨q_fk_push hf (hf.1 i (q_n9 hv)), fun H locs A a1 a2 a3 k => ?_⟩
  have k1 := k A a2
  rw [List.map_cons, q_cvr E _ hv] at k1
  exact lv_aload hc.1 hc.2.1 hd (by rw [a2.2.2.2 i (q_n9 hv), q_cvr E _ hv]) k1
end SP
