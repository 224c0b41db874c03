section SCp
variable {E : q_X} {l : Launch} {I : q_I} {own : String} {cc : ByteArray} {nL : Nat} {rt : Option FieldType} {nm : String} {d : Nat}
theorem q_cp_cell (h : Int → Int → Int) {a i b j n c : Int} (hc : c ≠ b) : q_cp h a i b j n c = h c := by
  funext x
  exact if_neg (fun z => hc z.1)
theorem q_mok_cp {s : q_M} {a i b j z : Int} (hm : q_mok E s) (ha : 0 ≤ a ∧ a < s.1.1 ∧ (s.1.2 a).1 = 30) (hb : 0 ≤ b ∧ b < s.1.1 ∧ (s.1.2 b).1 = 30) (hi : 0 ≤ i) (hz : i + z ≤ (s.1.2 a).2) : q_mok E (s.1, q_cp s.2 a i b j z) := by
  have hea : ∀ x, 0 ≤ x → x < (s.1.2 a).2 → q_sk s (q_el 30) (s.2 a x) := fun x x0 x1 => by
    have h9 := q_ck_a (hm.2.1 a ha.1 ha.2.1) (by omega) x0 x1
    rw [ha.2.2] at h9
    exact h9
  obtain ⟨m1, m2, m3, m4, m5⟩ := hm
  have old : ∀ c : Int, c < 0 → q_old E s c → q_old E (s.1, q_cp s.2 a i b j z) c := by
    intro c hc ho
    have e : (q_cp s.2 a i b j z) c = s.2 c := q_cp_cell _ (by omega)
    unfold q_old
    show _ ∧ _ ∧ _ ∧ _ ∧ (∀ i', 0 ≤ i' → i' < (s.1.2 c).2 → q_i32 ((q_cp s.2 a i b j z) c i')) ∧ ∃ cell : Cell, E.2.1[E.2.2.1 c]? = some cell ∧ cell.vm ≠ .unknown ∧ (s.1.2 c).2.toNat ≤ cell.slots.size ∧ cell.slots.size.toInt32 = Int32.ofInt (s.1.2 c).2 ∧ ∀ i' : Nat, i' < (s.1.2 c).2.toNat → cell.slots[i']? = some (.int (Int32.ofInt ((q_cp s.2 a i b j z) c i')))
    rw [e]
    exact ho
  refine ⟨m1, fun c h0 h1 => ?_, old _ (by decide) m3, old _ (by decide) m4, m5⟩
  by_cases e : c = b
  · subst e
    have hk := m2 c h0 h1
    rcases hk with ⟨b1, b2, b3, b4, b5, b6⟩ | y
    · refine Or.inl ⟨b1, b2, b3, b4, b5, fun x x0 x1 => ?_⟩
      show q_sk _ (q_el (s.1.2 c).1) (if c = c ∧ j ≤ x ∧ x < j + z then s.2 a (i + (x - j)) else s.2 c x)
      split
      · rename_i hx
        rw [hb.2.2]
        exact q_sk_ext (q_ext_up s _) (hea _ (by omega) (by omega))
      · exact q_sk_ext (q_ext_up s _) (b6 x x0 x1)
    · exact absurd y.2.1 (by omega)
  · have e2 : (q_cp s.2 a i b j z) c = s.2 c := q_cp_cell _ e
    have h2 := m2 c h0 h1
    unfold q_ck at h2 ⊢
    show (30 ≤ (s.1.2 c).1 ∧ (s.1.2 c).1 ≠ 33 ∧ ((s.1.2 c).1 ≤ 32 ∨ (40 ≤ (s.1.2 c).1 ∧ (s.1.2 c).1 < 53)) ∧ 0 ≤ (s.1.2 c).2 ∧ (s.1.2 c).2 ≤ 10000 ∧ ∀ j', 0 ≤ j' → j' < (s.1.2 c).2 → q_sk (s.1, q_cp s.2 a i b j z) (q_el (s.1.2 c).1) ((q_cp s.2 a i b j z) c j')) ∨
      (10 ≤ (s.1.2 c).1 ∧ (s.1.2 c).1 < 23 ∧ ∀ (j' : Nat) (u : Nat), (q_ft ((s.1.2 c).1 - 10))[j']? = some u → q_sk (s.1, q_cp s.2 a i b j z) u ((q_cp s.2 a i b j z) c j'))
    rw [e2]
    exact h2
theorem q_ws_cp {s : q_M} {a i b j z : Int} (h0 : 0 ≤ b) (h1 : b < s.1.1) : q_ws E (s.1, q_cp s.2 a i b j z) = (q_ws E s).set b.toNat (q_a E b, q_en E (s.1.2 b) (q_cp s.2 a i b j z b)) := by
  apply List.ext_getElem?
  intro x
  rw [List.getElem?_set]
  by_cases hi : b.toNat = x
  · subst hi
    have hl : b.toNat < (q_ws E s).length := by rw [q_ws_len]; omega
    rw [if_pos rfl, if_pos hl]
    exact q_ws_at (s := (s.1, q_cp s.2 a i b j z)) h0 h1
  · rw [if_neg hi]
    unfold q_ws
    rw [List.getElem?_map, List.getElem?_map]
    show Option.map (fun (k' : Nat) => (E.1 + k', q_en E (s.1.2 k') (q_cp s.2 a i b j z k'))) (List.range s.1.1.toNat)[x]? = _
    by_cases hl : x < s.1.1.toNat
    · rw [List.getElem?_range hl]
      simp only [Option.map_some]
      rw [q_cp_cell s.2 (show (x : Int) ≠ b by omega)]
    · rw [List.getElem?_eq_none (by rw [List.length_range]; omega)]
      rfl
theorem q_rel_cp {s1 : q_M} {a i b j z : Int} {H H' : Heap} (hrel : q_rel E s1 H) (h0 : 0 ≤ b) (h1 : b < s1.1.1) (hz : H'.size = H.size) (ho : ∀ q : Nat, q ≠ q_a E b → H'[q]? = H[q]?)
    (hat : va_at E.2.2.2.1 vwCl (q_a E b, q_en E (s1.1.2 b) (q_cp s1.2 a i b j z b)) H') : q_rel E (s1.1, q_cp s1.2 a i b j z) H' := by
  refine ⟨by rw [hz]; exact hrel.1, fun q hq => ?_, ?_⟩
  · rw [ho q (by unfold q_a; rw [if_pos h0]; omega)]
    exact hrel.2.1 q hq
  · rw [q_ws_cp h0 h1]
    exact hrel.2.2.set (q_mkD E s1) (q_ws_at h0 h1) hat ho
theorem q_cat_map : ∀ st : List q_V, ((st.map (q_cv E)).map fun v => v.category).sum = q_cat st
  | [] => rfl
  | (t, v) :: r => by
    rw [List.map_cons, List.map_cons, List.sum_cons, q_cat_map r, q_cv_cat]
    show (if t = 3 then 2 else 1) + q_cat r = (if Nat.beq t 3 then 2 else 1) + q_cat r
    by_cases h : t = 3
    · subst h; rfl
    · rw [if_neg h, if_neg (fun z => h (Nat.eq_of_beq_eq_true z))]
theorem s_copy {pc idx : Nat} (hd : decode cc pc = .ok (.invokestatic idx, 3)) (hw1 : Cond.methodLink own idx arraycopyName ∈ qG) (hw2 : Cond.native arraycopyName ∈ qG) (hw3 : Cond.static arraycopyName ∈ qG) (hw4 : Cond.initialized "java/lang/System" ∈ qG) : q_sim E l I own cc nL rt nm d pc (o_copy (pc + 3)) := by
  refine ⟨f_copy _, fun p e R s m args below meth c Q s0 r hc hr C K ls st s1 h _ hK => ?_⟩
  obtain ⟨z, j, b, i, a, st', hst, ⟨i0, j0, z0, iz, jz, a0, b0⟩, hcat, h'⟩ := q_copy_spec h
  subst hst
  obtain ⟨hx, hb, -, hml, hown, -, -, hts, henv, -, -, hfr, hlo, -⟩ := hc
  refine q_goM (hK _ _ _ _ h') (q_ext_up _ _) fun hm hf hle => ?_
  have hz := q_vk_i (q_fk_top hf)
  have hj := q_vk_i (q_fk_top (q_fk_pop hf))
  have hi := q_vk_i (q_fk_top (q_fk_pop (q_fk_pop (q_fk_pop hf))))
  have gb : 0 ≤ b ∧ b < s1.1.1 ∧ (s1.1.2 b).1 = 30 := by
    rcases q_vk_ia (q_fk_top (q_fk_pop (q_fk_pop hf))) with y | y | y
    · exact y
    · omega
    · omega
  have ga : 0 ≤ a ∧ a < s1.1.1 ∧ (s1.1.2 a).1 = 30 := by
    rcases q_vk_ia (q_fk_top (q_fk_pop (q_fk_pop (q_fk_pop (q_fk_pop hf))))) with y | y | y
    · exact y
    · omega
    · omega
  refine ⟨q_mok_cp hm ga gb i0 iz, fun x hx' => q_vk_ext (q_ext_up _ _) (hf.2 x (List.mem_cons_of_mem _ (List.mem_cons_of_mem _ (List.mem_cons_of_mem _ (List.mem_cons_of_mem _ (List.mem_cons_of_mem _ hx')))))), fun H locs A a1 a2 a3 kk => ?_⟩
  simp only [List.map_cons, q_cv_i, q_cv_r E b (show 10 ≤ 30 by decide), q_cv_r E a (show 10 ≤ 30 by decide)]
  have hea := q_ws_at (E := E) ga.1 ga.2.1
  rw [q_pr _ ga.2.2, q_en_i (Or.inl rfl)] at hea
  have heb := q_ws_at (E := E) gb.1 gb.2.1
  rw [q_pr _ gb.2.2, q_en_i (Or.inl rfl)] at heb
  intro T hT X
  have hc0 : H[q_a E a]? = some (vp_cell (E.2.2.2.2 30) ((s1.1.2 a).2.toNat, .inl (fun j => Int32.ofInt (s1.2 a j)))) := a1.2.2 a.toNat _ hea
  have hc1 : H[q_a E b]? = some (vp_cell (E.2.2.2.2 30) ((s1.1.2 b).2.toNat, .inl (fun j => Int32.ofInt (s1.2 b j)))) := a1.2.2 b.toNat _ heb
  obtain ⟨-, k0, hk0, cm0, hkk0⟩ := (henv.1.2 0 _ rfl).1 (s1.1.2 a).2.toNat (fun j => .int (Int32.ofInt (s1.2 a j)))
  have n0 : ∀ x : Int, q_i32 x → 0 ≤ x → ¬ Int32.ofInt x < 0 := fun x hx h0 => by rw [q_32_0, q_i32lt hx q_0]; omega
  obtain ⟨vm', X', step⟩ := X.arraycopy hx hown (hts _ hw1) (hts _ hw2) (hts _ hw3) (hts _ hw4) (src := q_a E a) (dst := q_a E b) (cs := vp_cell (E.2.2.2.2 30) ((s1.1.2 a).2.toNat, .inl (fun j => Int32.ofInt (s1.2 a j)))) (cd := vp_cell (E.2.2.2.2 30) ((s1.1.2 b).2.toNat, .inl (fun j => Int32.ofInt (s1.2 b j)))) (srcPos := Int32.ofInt i) (destPos := Int32.ofInt j) (n := Int32.ofInt z) (by rw [hT]; exact hc0) (by rw [hT]; exact hc1)
    (fun _ h => by cases h) (fun _ h => by cases h) (fun h => by cases h) (fun h => by cases h) hk0 hk0 hkk0 hkk0 (by simp [refKind]) (n0 i hi i0) (n0 j hj j0) (n0 z hz z0)
    (by rw [q_ti hi, q_ti hz]; show ¬ _ > ((arrV _ _ _).slots.size : Int); rw [arrV_size]; omega)
    (by rw [q_ti hj, q_ti hz]; show ¬ _ > ((arrV _ _ _).slots.size : Int); rw [arrV_size]; omega)
    (fun vm₁ _ x hx' => by
      rw [q_cl hz z0] at hx'
      have e : (vp_cell (E.2.2.2.2 30) ((s1.1.2 a).2.toNat, .inl (fun j => Int32.ofInt (s1.2 a j)))).slots.getD ((Int32.ofInt i).toNatClampNeg + x) .null = .int (Int32.ofInt (s1.2 a ((i.toNat + x : Nat) : Int))) := by
        show (arrV _ _ _).slots.getD _ _ = _
        rw [q_cl hi i0, Array.getD_eq_getD_getElem?, arrV_read _ _ (by omega)]
        rfl
      refine ⟨?_, ?_⟩
      · rw [e]; rfl
      · rw [e]; exact trivial)
    (g := F0 m pc A (.int (Int32.ofInt z) :: .int (Int32.ofInt j) :: .ref (q_a E b) :: .int (Int32.ofInt i) :: .ref (q_a E a) :: st'.map (q_cv E))) rfl (by rw [hml]; exact a2.2.1) (rest := st'.map (q_cv E)) rfl (by rw [hb]; exact hd) (by omega) (by
      show 2 * 0 + ((st'.map (q_cv E)).map fun v => v.category).sum + _ ≤ _
      rw [q_cat_map]
      have := Nat.le_of_ble_eq_true hcat
      have e9 : nativeFrameWords "java/lang/System" "arraycopy" 5 ≤ 50 := by decide +kernel
      omega)
  have hs9 : (Int32.ofInt i).toNatClampNeg + (Int32.ofInt z).toNatClampNeg ≤ (s1.1.2 a).2.toNat := by rw [q_cl hi i0, q_cl hz z0]; omega
  have e1 : copied (vp_cell (E.2.2.2.2 30) ((s1.1.2 a).2.toNat, .inl (fun j => Int32.ofInt (s1.2 a j)))) (vp_cell (E.2.2.2.2 30) ((s1.1.2 b).2.toNat, .inl (fun j => Int32.ofInt (s1.2 b j)))) (Int32.ofInt i) (Int32.ofInt j) (Int32.ofInt z) = vp_cell (E.2.2.2.2 30) ((s1.1.2 b).2.toNat, .inl (va_cpy (fun j => Int32.ofInt (s1.2 a j)) (fun j => Int32.ofInt (s1.2 b j)) (Int32.ofInt i).toNatClampNeg (Int32.ofInt j).toNatClampNeg (Int32.ofInt z).toNatClampNeg)) := va_copied (fun z => .int z) (E.2.2.2.2 30) (E.2.2.2.2 30) (fun x : Nat => Int32.ofInt (s1.2 a x)) (fun x : Nat => Int32.ofInt (s1.2 b x)) hs9
  rw [e1, q_cl hi i0, q_cl hj j0, q_cl hz z0] at X' step
  have hl : q_a E b < H.size := (Array.getElem?_eq_some_iff.mp hc1).1
  have ef : va_cpy (fun x : Nat => Int32.ofInt (s1.2 a x)) (fun x : Nat => Int32.ofInt (s1.2 b x)) i.toNat j.toNat z.toNat = fun x : Nat => Int32.ofInt (q_cp s1.2 a i b j z b x) := by
    funext x
    unfold va_cpy q_cp
    by_cases hx' : j.toNat ≤ x ∧ x < j.toNat + z.toNat
    · rw [if_pos hx', if_pos (by omega)]
      have : ((i.toNat + (x - j.toNat) : Nat) : Int) = i + ((x : Int) - j) := by omega
      show Int32.ofInt (s1.2 a ((i.toNat + (x - j.toNat) : Nat) : Int)) = _
      rw [this]
    · rw [if_neg hx', if_neg (by omega)]
  rw [ef] at X' step
  generalize hH1 : ((T.setVm vm').setCell (q_a E b) (vp_cell (E.2.2.2.2 30) ((s1.1.2 b).2.toNat, .inl (fun x : Nat => Int32.ofInt (q_cp s1.2 a i b j z b x))))) = T1 at X' step
  have hheap : T1.heap = H.setIfInBounds (q_a E b) (vp_cell (E.2.2.2.2 30) ((s1.1.2 b).2.toNat, .inl (fun x : Nat => Int32.ofInt (q_cp s1.2 a i b j z b x)))) := by rw [← hH1, ← hT]; rfl
  obtain ⟨t, y1, y2⟩ := kk T1.heap _ (q_rel_cp a1 gb.1 gb.2.1 (by rw [hheap]; simp) (fun q hq => by rw [hheap]; simp [Array.getElem?_setIfInBounds, Ne.symm hq]) (by
    rw [q_pr _ gb.2.2, q_en_i (Or.inl rfl)]
    show T1.heap[q_a E b]? = _
    rw [hheap]
    simp [Array.getElem?_setIfInBounds, hl])) (fun x hx' => by
      rcases List.mem_append.mp hx' with y | y
      · exact a3 x y
      · obtain ⟨w, -, hw⟩ := List.mem_map.mp y
        rw [← hw]
        exact q_a_ge gb.1) T1 rfl X'
  exact ⟨t, step t y1, y2⟩
end SCp
