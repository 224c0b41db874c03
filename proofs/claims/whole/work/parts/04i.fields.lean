section SF
variable {E : q_X} {l : Launch} {I : q_I} {own : String} {cc : ByteArray} {nL : Nat} {rt : Option FieldType} {nm : String} {d : Nat}
theorem q_fs_at {E : q_X} {c j u : Nat} {row : Int → Int} (hu : (q_ft c)[j]? = some u) : ((q_ft c).mapIdx (fun j u => q_fv E u (row j)))[j]? = some (q_fv E u (row j)) := by
  rw [List.getElem?_mapIdx, hu]; rfl
theorem q_getI_spec {t n : Nat} {j : Int} {C : q_C} {K : q_K} {ls st : List q_V} {s1 : q_M} {r : q_V × q_M} (h : o_getI t j n C K ls st s1 = some r) : ∃ k st', st = (t, k) :: st' ∧ K n ls ((0, s1.2 k j) :: st') s1 = some r := by
  unfold o_getI at h
  split at h
  · split at h
    · rename_i t' k st' ht
      exact ⟨k, st', by rw [Nat.eq_of_beq_eq_true ht], h⟩
    · cases h
  · cases h
theorem q_getL_spec {t n : Nat} {j : Int} {C : q_C} {K : q_K} {ls st : List q_V} {s1 : q_M} {r : q_V × q_M} (h : o_getL t j n C K ls st s1 = some r) : ∃ k st', st = (t, k) :: st' ∧ K n ls ((3, s1.2 k j) :: st') s1 = some r := by
  unfold o_getL at h
  split at h
  · split at h
    · rename_i t' k st' ht
      exact ⟨k, st', by rw [Nat.eq_of_beq_eq_true ht], h⟩
    · cases h
  · cases h
theorem q_getR_spec {t n u : Nat} {j : Int} {C : q_C} {K : q_K} {ls st : List q_V} {s1 : q_M} {r : q_V × q_M} (h : o_getR t j u n C K ls st s1 = some r) : ∃ k st', st = (t, k) :: st' ∧ 0 ≤ s1.2 k j ∧ K n ls ((u, s1.2 k j) :: st') s1 = some r := by
  unfold o_getR at h
  split at h
  · split at h
    · split at h
      · rename_i t' k st' ht hv
        exact ⟨k, st', by rw [Nat.eq_of_beq_eq_true ht], hv, h⟩
      · cases h
    · cases h
  · cases h
/-- a field of a cell is read: the row of the kit -/
theorem q_getrow {p : Program} {e : Env} {R : Room} {s : State} {m : MethodId} {args : Array Value} {below : List Frame} {meth : Method} {c : Code} {Q : State → Prop} {s0 : q_M} {r : q_V × q_M} {H : Heap} {locs : List Loc} {cells slots : Nat} {A : Array Slot} {rest : List Value}
    (hc : q_cx E nL rt p R s m args meth c s0 r own cc nm d) {s1 : q_M} (hrel : q_rel E s1 H) {pc idx ci : Nat} {k : Int} {j u N : Nat} {Cn : String} {Tn : u_T}
    (hd : decode cc pc = .ok (.getfield idx, 3)) (hcl : vwCl[ci]? = some (Cn, Tn, N)) (hin : ∀ w ∈ u_ws Cn Tn N, w ∈ qG) (hj : j < N) (hw : Cond.fieldLink own idx (Tn j).1 (Tn j).2.1 (Tn j).2.2.1 ∈ qG) (hci : ci < 13) (hu : (q_ft ci)[j]? = some u)
    (h0 : 0 ≤ k) (h1 : k < s1.1.1) (ht : (s1.1.2 k).1 = 10 + ci)
    (kk : W p l e R s m args below meth c H locs cells slots Q (F0 m (pc + 3) A (q_fv E u (s1.2 k j) :: rest))) : W p l e R s m args below meth c H locs cells slots Q (F0 m pc A (.ref (q_a E k) :: rest)) := by
  obtain ⟨hx, hb, -, -, hown, -, -, hts, henv, -⟩ := hc
  have he := q_ws_at (E := E) h0 h1
  rw [q_pr _ ht, q_en_o (by omega)] at he
  exact va_get (ci := ci) hx hb hts hin hown henv.1 hrel.2.2 k.toNat he hcl j hj (hts _ hw) (fun _ h9 => h9) (q_fs_at hu) hd kk
theorem q_cl13 {ci : Nat} {x : vw_C} (h : vwCl[ci]? = some x) : ci < 13 := by
  have := (List.getElem?_eq_some_iff.mp h).1
  exact this
theorem s_getI {pc idx ci j N : Nat} {Cn : String} {Tn : u_T} (hd : decode cc pc = .ok (.getfield idx, 3)) (hcl : vwCl[ci]? = some (Cn, Tn, N)) (hin : ∀ w ∈ u_ws Cn Tn N, w ∈ qG) (hj : j < N) (hw : Cond.fieldLink own idx (Tn j).1 (Tn j).2.1 (Tn j).2.2.1 ∈ qG) (hu : (q_ft ci)[j]? = some 0 ∨ (q_ft ci)[j]? = some 7) : q_sim E l I own cc nL rt nm d pc (o_getI (10 + ci) j (pc + 3)) := by
  have hci := q_cl13 hcl
  refine ⟨f_getI _ _ _, fun p e R s m args below meth c Q s0 r hc hr C K ls st s1 h _ hK => ?_⟩
  obtain ⟨k, st', hst, h'⟩ := q_getI_spec h
  subst hst
  refine q_go (hK _ _ _ _ h') fun hm hf => ?_
  obtain ⟨b1, b2, b3⟩ := q_vk_o (q_fk_top hf) (by omega) (by omega) (by omega)
  have hck := hm.2.1 k b1 b2
  refine ⟨q_fk_push (q_fk_pop hf) (q_vk_int ?_), fun H locs A a1 a2 a3 kk => ?_⟩
  · rcases hu with hu | hu
    · rcases q_ck_f hck b3 hci hu with z | z | z | z
      · exact z.2
      · exact absurd z.1 (by decide)
      · exact absurd z.1 (by decide)
      · exact absurd z.1 (by decide)
    · rcases q_ck_f hck b3 hci hu with z | z | z | z
      · exact absurd z.1 (by decide)
      · unfold q_i32; omega
      · exact absurd z.1 (by decide)
      · exact absurd z.1 (by decide)
  · rw [List.map_cons, q_cv_r E k (by omega)]
    rcases hu with hu | hu
    · exact q_getrow hc a1 hd hcl hin hj hw hci hu b1 b2 b3 (kk A a2)
    · exact q_getrow hc a1 hd hcl hin hj hw hci hu b1 b2 b3 (kk A a2)
theorem s_getL {pc idx ci j N : Nat} {Cn : String} {Tn : u_T} (hd : decode cc pc = .ok (.getfield idx, 3)) (hcl : vwCl[ci]? = some (Cn, Tn, N)) (hin : ∀ w ∈ u_ws Cn Tn N, w ∈ qG) (hj : j < N) (hw : Cond.fieldLink own idx (Tn j).1 (Tn j).2.1 (Tn j).2.2.1 ∈ qG) (hu : (q_ft ci)[j]? = some 3) : q_sim E l I own cc nL rt nm d pc (o_getL (10 + ci) j (pc + 3)) := by
  have hci := q_cl13 hcl
  refine ⟨f_getL _ _ _, fun p e R s m args below meth c Q s0 r hc hr C K ls st s1 h _ hK => ?_⟩
  obtain ⟨k, st', hst, h'⟩ := q_getL_spec h
  subst hst
  refine q_go (hK _ _ _ _ h') fun hm hf => ?_
  obtain ⟨b1, b2, b3⟩ := q_vk_o (q_fk_top hf) (by omega) (by omega) (by omega)
  have hck := hm.2.1 k b1 b2
  refine ⟨q_fk_push (q_fk_pop hf) (q_vk_long ?_), fun H locs A a1 a2 a3 kk => ?_⟩
  · rcases q_ck_f hck b3 hci hu with z | z | z | z
    · exact absurd z.1 (by decide)
    · exact absurd z.1 (by decide)
    · exact z.2
    · exact absurd z.1 (by decide)
  · rw [List.map_cons, q_cv_r E k (by omega)]
    exact q_getrow hc a1 hd hcl hin hj hw hci hu b1 b2 b3 (kk A a2)
theorem q_fv_r {E : q_X} {u : Nat} {v : Int} (h : 10 ≤ u) (hv : 0 ≤ v) : q_fv E u v = .ref (q_a E v) := by
  unfold q_fv
  rw [if_neg (by omega), if_neg (by omega), if_neg (by omega)]
theorem s_getR {pc idx ci j N u : Nat} {Cn : String} {Tn : u_T} (hd : decode cc pc = .ok (.getfield idx, 3)) (hcl : vwCl[ci]? = some (Cn, Tn, N)) (hin : ∀ w ∈ u_ws Cn Tn N, w ∈ qG) (hj : j < N) (hw : Cond.fieldLink own idx (Tn j).1 (Tn j).2.1 (Tn j).2.2.1 ∈ qG) (hu : (q_ft ci)[j]? = some u) (hu10 : 10 ≤ u) : q_sim E l I own cc nL rt nm d pc (o_getR (10 + ci) j u (pc + 3)) := by
  have hci := q_cl13 hcl
  refine ⟨f_getR _ _ _ _, fun p e R s m args below meth c Q s0 r hc hr C K ls st s1 h _ hK => ?_⟩
  obtain ⟨k, st', hst, h0, h'⟩ := q_getR_spec h
  subst hst
  refine q_go (hK _ _ _ _ h') fun hm hf => ?_
  obtain ⟨b1, b2, b3⟩ := q_vk_o (q_fk_top hf) (by omega) (by omega) (by omega)
  have hck := hm.2.1 k b1 b2
  refine ⟨q_fk_push (q_fk_pop hf) ?_, fun H locs A a1 a2 a3 kk => ?_⟩
  · rcases q_ck_f hck b3 hci hu with z | z | z | ⟨z, z2⟩
    · exact absurd z.1 (by omega)
    · exact absurd z.1 (by omega)
    · exact absurd z.1 (by omega)
    · refine Or.inr (Or.inr ⟨hu10, Or.inl ?_⟩)
      rcases z2 with z2 | z2
      · exact absurd h0 (by omega)
      · exact ⟨h0, z2.1, z2.2⟩
  · have k1 := kk A a2
    rw [List.map_cons, q_cv_r E _ hu10] at k1
    rw [List.map_cons, q_cv_r E k (by omega)]
    exact q_getrow hc a1 hd hcl hin hj hw hci hu b1 b2 b3 (by rw [q_fv_r hu10 h0]; exact k1)
end SF
