section SG
variable {E : q_X} {l : Launch} {I : q_I} {own : String} {cc : ByteArray} {nL : Nat} {rt : Option FieldType} {nm : String} {d : Nat}
/-- the memory changes in one cell; the locals stay -/
theorem q_goM {p : Program} {e : Env} {R : Room} {s : State} {m : MethodId} {args : Array Value} {below : List Frame} {meth : Method} {c : Code} {Q : State → Prop} {s0 : q_M} {r : q_V × q_M} {pc pc' : Nat} {ls st st' : List q_V} {s1 s2 : q_M}
    (hK : q_S E l nL rt p e R s m args below meth c Q s0 r pc' ls st' s2) (hx : q_ext s1 s2)
    (h : q_mok E s1 → q_fk s1 ls st → s0.1.1 ≤ s1.1.1 → q_mok E s2 ∧ (∀ v ∈ st', q_vk s2 v) ∧ ∀ (H : Heap) (locs : List Loc) (A : Array Slot), q_rel E s1 H → q_ls E nL ls A → (∀ x ∈ locs, E.1 ≤ x.base) →
      (∀ (H' : Heap) (locs' : List Loc), q_rel E s2 H' → (∀ x ∈ locs', E.1 ≤ x.base) → W p l e R s m args below meth c H' locs' (s2.1.1 - s0.1.1).toNat (10000 * (s2.1.1 - s0.1.1).toNat) Q (F0 m pc' A (st'.map (q_cv E)))) →
      W p l e R s m args below meth c H locs (s1.1.1 - s0.1.1).toNat (10000 * (s1.1.1 - s0.1.1).toNat) Q (F0 m pc A (st.map (q_cv E)))) :
    q_S E l nL rt p e R s m args below meth c Q s0 r pc ls st s1 := by
  refine ⟨⟨q_ext_tr hx hK.1.1, hK.1.2⟩, fun hm hf h0 => ?_⟩
  obtain ⟨h1, h2, h3⟩ := h hm hf h0
  have g3 := hK.2 h1 ⟨fun i hi => q_vk_ext hx (hf.1 i hi), h2⟩ (Int.le_trans h0 hx.1)
  exact fun H locs A a1 a2 a3 => h3 H locs A a1 a2 a3 (fun H' locs' b1 b2 => g3 H' locs' A b1 a2 b2)
theorem q_rel_up {s1 : q_M} {k j v : Int} {H H' : Heap} (hrel : q_rel E s1 H) (h0 : 0 ≤ k) (h1 : k < s1.1.1) (hz : H'.size = H.size) (ho : ∀ q : Nat, q ≠ q_a E k → H'[q]? = H[q]?)
    (hat : va_at E.2.2.2.1 vwCl (q_a E k, q_en E (s1.1.2 k) (q_up s1.2 k j v k)) H') : q_rel E (s1.1, q_up s1.2 k j v) H' := by
  refine ⟨by rw [hz]; exact hrel.1, fun q hq => ?_, ?_⟩
  · rw [ho q (by unfold q_a; rw [if_pos h0]; omega)]
    exact hrel.2.1 q hq
  · rw [q_ws_up h0 h1]
    exact hrel.2.2.set (q_mkD E s1) (q_ws_at h0 h1) hat ho
theorem q_fs_set {c j u : Nat} {row : Int → Int} {k v : Int} {h : Int → Int → Int} (hu : (q_ft c)[j]? = some u) : (q_ft c).mapIdx (fun i u => q_fv E u (q_up h k j v k i)) = ((q_ft c).mapIdx (fun i u => q_fv E u (h k i))).set j (q_fv E u v) := by
  apply List.ext_getElem?
  intro i
  rw [List.getElem?_mapIdx, List.getElem?_set]
  by_cases hi : j = i
  · subst hi
    have hl : j < ((q_ft c).mapIdx (fun i u => q_fv E u (h k i))).length := by rw [List.length_mapIdx]; exact (List.getElem?_eq_some_iff.mp hu).1
    rw [if_pos rfl, if_pos hl, hu, q_up_same]
    rfl
  · rw [if_neg hi, List.getElem?_mapIdx]
    rw [q_up_slot h (show (i : Int) ≠ (j : Int) by omega)]
theorem q_locs {x0 : Nat} {i : Nat} {locs : List Loc} (h : ∀ x ∈ locs, E.1 ≤ x.base) (h0 : E.1 ≤ x0) : ∀ x ∈ locs ++ [⟨x0, i⟩], E.1 ≤ x.base := by
  intro x hx
  rcases List.mem_append.mp hx with h1 | h1
  · exact h x h1
  · rw [List.mem_singleton.mp h1]; exact h0
theorem q_a_ge {k : Int} (h : 0 ≤ k) : E.1 ≤ q_a E k := by unfold q_a; rw [if_pos h]; omega
/-- a field of a cell is written: the rows of the kit, for a field that isn't final, and for one that is -/
theorem q_putrow {p : Program} {e : Env} {R : Room} {s : State} {m : MethodId} {args : Array Value} {below : List Frame} {meth : Method} {c : Code} {Q : State → Prop} {s0 : q_M} {r : q_V × q_M} {H : Heap} {locs : List Loc} {cells slots : Nat} {A : Array Slot} {rest : List Value}
    (hc : q_cx E nL rt p R s m args meth c s0 r own cc nm d) {s1 : q_M} (hrel : q_rel E s1 H) {pc idx ci : Nat} {k w : Int} {j u N : Nat} {Cn : String} {Tn : u_T}
    (hd : decode cc pc = .ok (.putfield idx, 3)) (hcl : vwCl[ci]? = some (Cn, Tn, N)) (hin : ∀ w ∈ u_ws Cn Tn N, w ∈ qG) (hj : j < N) (hw : Cond.fieldLink own idx (Tn j).1 (Tn j).2.1 (Tn j).2.2.1 ∈ qG) (hci : ci < 13) (hu : (q_ft ci)[j]? = some u)
    (ty0 : Nat → FieldType) (hty : ∀ k, k < N → parseFieldDescriptor (Tn k).2.2.1 = some (ty0 k)) (hnm : ∀ a, a < N → ∀ b, b < N → a ≠ b → (Tn a).2.1 ≠ (Tn b).2.1) (hfin : (Tn j).2.2.2 = false ∨ ((Tn j).2.2.2 = true ∧ nm = "<init>" ∧ (Tn j).1 = own))
    (hn : narrow (ty0 j) (q_fv E u w) = q_fv E u w) (hfit : fits (ty0 j) (q_fv E u w) = true)
    (h0 : 0 ≤ k) (h1 : k < s1.1.1) (ht : (s1.1.2 k).1 = 10 + ci) (hlocs : ∀ x ∈ locs, E.1 ≤ x.base)
    (kk : ∀ (H' : Heap) (locs' : List Loc), q_rel E (s1.1, q_up s1.2 k j w) H' → (∀ x ∈ locs', E.1 ≤ x.base) → W p l e R s m args below meth c H' locs' cells slots Q (F0 m (pc + 3) A rest)) : W p l e R s m args below meth c H locs cells slots Q (F0 m pc A (q_fv E u w :: .ref (q_a E k) :: rest)) := by
  obtain ⟨hx, hb, -, -, hown, -, hnm2, hts, henv, -⟩ := hc
  have he := q_ws_at (E := E) h0 h1
  rw [q_pr _ ht, q_en_o (by omega)] at he
  have hap := va_apart (own := own) hts hin ty0 hty hnm henv.1 hcl
  obtain ⟨r0, h1', cell, q1, q2, q3, q4⟩ := hrel.2.2 k.toNat _ he
  have hr : r0 = (Cn, Tn, N) := Option.some.inj (h1'.symm.trans hcl)
  subst hr
  obtain ⟨hS, hfc, kC, hkC, hkind⟩ := henv.1.1 ci _ hcl
  obtain ⟨cf, kf, fi, f, hi, hsl⟩ := hS j hj
  have hst := (u_facts hfc hkC (u_lays hts hin hj) hi).1
  have hend : ∀ H' : Heap, H'[q_a E k]? = some (cell.setSlot f.slot (q_fv E u w)) → H'.size = H.size → (∀ q, q ≠ q_a E k → H'[q]? = H[q]?) → W p l e R s m args below meth c H' (locs ++ [⟨q_a E k, f.slot⟩]) cells slots Q (F0 m (pc + 3) A rest) := by
    intro H' e1 e2 e3
    refine kk H' _ (q_rel_up hrel h0 h1 e2 e3 ?_) (q_locs hlocs (q_a_ge h0))
    rw [q_pr _ ht, q_en_o (by omega), q_fs_set (row := s1.2 k) hu]
    rw [hsl] at e1
    refine ⟨_, hcl, t_OB.to (V := updV (vp_V ((q_ft ci).mapIdx (fun i u => q_fv E u (s1.2 k i)))) j (q_fv E u w)) ⟨_, e1, q2, q3, t_set q4 hap hj _⟩ (fun i _ => vp_updV_set ?_ _ i)⟩
    rw [List.length_mapIdx]; exact (List.getElem?_eq_some_iff.mp hu).1
  have hlay := hts _ (hin _ (u_in_lay hj))
  unfold u_lay at hlay
  rcases hfin with hfin | ⟨hfin, hini, hdecl⟩
  · rw [if_neg (by rw [hfin]; decide)] at hlay
    have h6 := u_store hfc hkC hkind hlay hi (hty j hj) hn hfit
    exact W.putK hx hb (f := f) ⟨hown, hts _ hw, ⟨_, _, _, hi⟩, hst⟩ (by rw [q2]; exact h6) q1 q3 (by rw [hsl]; exact k2_hasslot (q4 j hj)) rfl rfl hd hend
  · rw [if_pos hfin] at hlay
    have hcf : m.cls = cf := by
      obtain ⟨_, _, c', _, _, _, -, -, hf', -, -, -, hown2, -⟩ := Cond.laysFinal_spec hlay
      have e1 : c' = cf := by have := hi.symm.trans hf'; simp at this; exact this.1.symm
      rw [hdecl] at hown2
      rw [← e1]; exact Option.some.inj (hown.symm.trans hown2)
    have h6 := u_fits hfc hkC hkind (Or.inr hlay) hi (hty j hj) hn hfit
    exact W.putFinK hx hb hown (hts _ hw) hi hst hcf ((hnm2 hini).trans hini) (by rw [q2]; exact h6) q1 q3 (by rw [hsl]; exact k2_hasslot (q4 j hj)) rfl rfl hd hend
/-- a good value in a field of its tag keeps the memory good -/
theorem q_mok_put {s1 : q_M} {k w : Int} {ci j u : Nat} (hm : q_mok E s1) (h0 : 0 ≤ k) (ht : (s1.1.2 k).1 = 10 + ci) (hci : ci < 13) (hu : (q_ft ci)[j]? = some u) (hw : q_sk s1 u w) : q_mok E (s1.1, q_up s1.2 k j w) := by
  refine q_mok_up hm h0 fun h' e h1 hck => ?_
  subst e
  rcases hck with a | ⟨a1, a2, a3⟩
  · exact absurd a.1 (by omega)
  · refine Or.inr ⟨a1, a2, fun i u' hi => ?_⟩
    by_cases e : i = j
    · subst e
      have e2 : (q_ft ((s1.1.2 k).1 - 10))[i]? = some u := by rw [ht]; simpa using hu
      have e3 : some u = some u' := e2.symm.trans hi
      cases e3
      show q_sk _ u (q_up s1.2 k i w k i)
      rw [q_up_same]
      exact q_sk_ext (q_ext_up s1 _) hw
    · show q_sk _ u' (q_up s1.2 k j w k i)
      rw [q_up_slot _ (show (i : Int) ≠ (j : Int) by omega)]
      exact q_sk_ext (q_ext_up s1 _) (a3 i u' hi)
end SG
