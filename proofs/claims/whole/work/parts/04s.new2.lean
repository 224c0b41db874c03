section SN2
variable {E : q_X} {l : Launch} {I : q_I} {own : String} {cc : ByteArray} {nL : Nat} {rt : Option FieldType} {nm : String} {d : Nat}
theorem q_outer (c : ClassId) (N h0 : Nat) : ∀ i : Nat, Jvm.Free.Multi.outerC c N h0 i = arrV c N (fun j => va_rf (if j < i then some (h0 + 1 + j) else none))
  | 0 => by
    show ({ cls := c, slots := Array.replicate N .null, vm := .none } : Cell) = _
    rw [arrV_new]
    refine congrArg (arrV c N) (funext fun j => ?_)
    simp [va_rf]
  | i + 1 => by
    show (Jvm.Free.Multi.outerC c N h0 i).setSlot i (.ref (h0 + 1 + i)) = _
    rw [q_outer c N h0 i, arrV_store]
    refine congrArg (arrV c N) (funext fun j => ?_)
    by_cases e : j = i
    · subst e
      simp [updV, va_rf]
    · by_cases h : j < i
      · simp [updV, e, h, Nat.lt_succ_of_lt h]
      · simp [updV, e, h, show ¬ j < i + 1 by omega]
theorem q_new2_spec {n : Nat} {C : q_C} {K : q_K} {ls st : List q_V} {s1 : q_M} {r : q_V × q_M} (h : o_new2 n C K ls st s1 = some r) : ∃ a b st', st = (0, b) :: (0, a) :: st' ∧ (0 ≤ a ∧ a ≤ 100 ∧ 0 ≤ b ∧ b ≤ 100) ∧ K n ls ((32, s1.1.1) :: st') (q_mk2 s1 a b) = some r := by
  unfold o_new2 at h
  split at h
  · split at h
    · rename_i hl; exact ⟨_, _, _, rfl, hl, h⟩
    · cases h
  · cases h
theorem q_ext_mk2 (s : q_M) {a b : Int} (ha : 0 ≤ a) : q_ext s (q_mk2 s a b) := by
  refine ⟨?_, fun k hk => ?_⟩
  · show s.1.1 ≤ s.1.1 + 1 + a
    omega
  · show (if k = s.1.1 then _ else if s.1.1 < k ∧ k ≤ s.1.1 + a then _ else s.1.2 k) = _
    rw [if_neg (by omega), if_neg (by omega)]
theorem q_mk2_sh (s : q_M) {a b c : Int} (h : c < s.1.1) : (q_mk2 s a b).1.2 c = s.1.2 c := by
  show (if c = s.1.1 then _ else if s.1.1 < c ∧ c ≤ s.1.1 + a then _ else s.1.2 c) = _
  rw [if_neg (by omega), if_neg (by omega)]
theorem q_mk2_old (s : q_M) {a b c : Int} (h : c < s.1.1) : (q_mk2 s a b).2 c = s.2 c := by
  funext j
  show (if c = s.1.1 then _ else if s.1.1 < c ∧ c ≤ s.1.1 + a then _ else s.2 c j) = _
  rw [if_neg (by omega), if_neg (by omega)]
theorem q_mk2_osh (s : q_M) (a b : Int) : (q_mk2 s a b).1.2 s.1.1 = (32, a) := if_pos rfl
theorem q_mk2_o (s : q_M) (a b : Int) : (q_mk2 s a b).2 s.1.1 = fun j => s.1.1 + 1 + j := by
  funext j
  exact if_pos rfl
theorem q_mk2_ish (s : q_M) {a b c : Int} (h : s.1.1 < c) (h2 : c ≤ s.1.1 + a) : (q_mk2 s a b).1.2 c = (30, b) := by
  show (if c = s.1.1 then _ else if s.1.1 < c ∧ c ≤ s.1.1 + a then _ else s.1.2 c) = _
  rw [if_neg (by omega), if_pos (by omega)]
theorem q_mk2_i (s : q_M) {a b c : Int} (h : s.1.1 < c) (h2 : c ≤ s.1.1 + a) : (q_mk2 s a b).2 c = fun _ => 0 := by
  funext j
  show (if c = s.1.1 then _ else if s.1.1 < c ∧ c ≤ s.1.1 + a then _ else s.2 c j) = _
  rw [if_neg (by omega), if_pos (by omega)]
theorem q_mok_mk2 {s : q_M} {a b : Int} (hm : q_mok E s) (ha : 0 ≤ a ∧ a ≤ 100) (hb : 0 ≤ b ∧ b ≤ 100) : q_mok E (q_mk2 s a b) := by
  have hx := q_ext_mk2 s (a := a) (b := b) ha.1
  obtain ⟨m1, m2, m3, m4, m5⟩ := hm
  refine ⟨?_, fun k k0 k1 => ?_, q_old_ext m3 (q_mk2_sh _ (by omega)) (q_mk2_old _ (by omega)), q_old_ext m4 (q_mk2_sh _ (by omega)) (q_mk2_old _ (by omega)), ?_⟩
  · show 0 ≤ s.1.1 + 1 + a
    omega
  · have k2 : k < s.1.1 + 1 + a := k1
    by_cases e : k < s.1.1
    · exact q_ck_ext hx (m2 k k0 e) (q_mk2_sh _ e) (q_mk2_old _ e)
    · by_cases e2 : k = s.1.1
      · subst e2
        refine Or.inl ?_
        rw [q_mk2_osh, q_mk2_o]
        refine ⟨show 30 ≤ 32 by decide, show 32 ≠ 33 by decide, Or.inl (show 32 ≤ 32 by decide), ha.1, by show a ≤ 10000; omega, fun j j0 j1 => ?_⟩
        have j2 : j < a := j1
        refine Or.inr (Or.inr (Or.inr ⟨show 10 ≤ 30 by decide, Or.inr ⟨by show s.1.1 + 1 + j < s.1.1 + 1 + a; omega, ?_⟩⟩))
        show ((q_mk2 s a b).1.2 (s.1.1 + 1 + j)).1 = 30
        rw [q_mk2_ish s (by omega) (by omega)]
      · refine Or.inl ?_
        rw [q_mk2_ish s (by omega) (by omega), q_mk2_i s (by omega) (by omega)]
        exact ⟨show 30 ≤ 30 by decide, show 30 ≠ 33 by decide, Or.inl (show 30 ≤ 32 by decide), hb.1, by show b ≤ 10000; omega, fun j j0 j1 => Or.inl ⟨rfl, q_0⟩⟩
  · rw [q_mk2_sh _ (by omega)]; exact m5
theorem q_rel_mk2 {s : q_M} {a b : Int} {H H' : Heap} (hrel : q_rel E s H) (h0 : 0 ≤ s.1.1) (ha : 0 ≤ a) (hz : H'.size = H.size + 1 + a.toNat) (ho : ∀ q : Nat, q < H.size → H'[q]? = H[q]?)
    (hat : va_at E.2.2.2.1 vwCl (H.size, q_en E (32, a) (fun j => s.1.1 + 1 + j)) H') (hat2 : ∀ j : Nat, j < a.toNat → va_at E.2.2.2.1 vwCl (H.size + 1 + j, q_en E (30, b) (fun _ => 0)) H') : q_rel E (q_mk2 s a b) H' := by
  refine ⟨?_, fun q hq => ?_, fun i x hx => ?_⟩
  · rw [hz, hrel.1]
    show _ = E.1 + (s.1.1 + 1 + a).toNat
    omega
  · rw [ho q (by rw [hrel.1]; omega)]
    exact hrel.2.1 q hq
  · obtain ⟨hi, rfl⟩ := q_ws_inv hx
    have hi2 : i < (s.1.1 + 1 + a).toNat := hi
    by_cases e : (i : Int) < s.1.1
    · rw [q_mk2_sh s e, q_mk2_old s e]
      have h9 := q_ws_at (E := E) (s := s) (k := i) (by omega) e
      have h8 := hrel.2.2 _ _ h9
      have ea : q_a E (i : Int) = E.1 + i := by unfold q_a; rw [if_pos (by omega)]; omega
      rw [ea] at h8
      exact h8.kept (ho _ h8.lt)
    · by_cases e2 : (i : Int) = s.1.1
      · rw [e2, q_mk2_osh, q_mk2_o]
        have : E.1 + i = H.size := by rw [hrel.1]; omega
        rw [this]
        exact hat
      · rw [q_mk2_ish s (by omega) (by omega), q_mk2_i s (by omega) (by omega)]
        have : E.1 + i = H.size + 1 + (i - s.1.1.toNat - 1) := by rw [hrel.1]; omega
        rw [this]
        exact hat2 _ (by omega)
theorem s_new2 {pc idx : Nat} (hd : decode cc pc = .ok (.multianewarray idx 2, 4)) (hw1 : Cond.classLink own idx ("[" ++ (FieldType.array .int).toString) ∈ qG) (hw2 : Cond.arrayClass .int ∈ qG) : q_sim E l I own cc nL rt nm d pc (o_new2 (pc + 4)) := by
  refine ⟨f_new2 _, fun p e R s m args below meth c Q s0 r hc hr C K ls st s1 h _ hK => ?_⟩
  obtain ⟨a, b, st', hst, ⟨ha0, ha1, hb0, hb1⟩, h'⟩ := q_new2_spec h
  subst hst
  obtain ⟨hx, hb, -, hml, hown, -, -, hts, henv, -, -, hfr, hlo, hce, hsl, -⟩ := hc
  have hK' := hK _ _ _ _ h'
  refine q_goM hK' (q_ext_mk2 _ ha0) fun hm hf hle => ?_
  have h00 := hm.1
  have hbi := q_vk_i (q_fk_top hf)
  have hai := q_vk_i (q_fk_top (q_fk_pop hf))
  refine ⟨q_mok_mk2 hm ⟨ha0, ha1⟩ ⟨hb0, hb1⟩, fun v hv => ?_, fun H locs A a1 a2 a3 kk => ?_⟩
  · rcases List.mem_cons.mp hv with rfl | hv
    · exact Or.inr (Or.inr ⟨show 10 ≤ 32 by decide, Or.inl ⟨hm.1, by show s1.1.1 < s1.1.1 + 1 + a; omega, by rw [q_mk2_osh]⟩⟩)
    · exact q_vk_ext (q_ext_mk2 _ ha0) (hf.2 v (List.mem_cons_of_mem _ (List.mem_cons_of_mem _ hv)))
  · obtain ⟨g1, g2, g3⟩ := q_room (s2 := q_mk2 s1 a b) hce hsl hK'.1.1 (1 + a.toNat) (by show s1.1.1 + 1 + a = s1.1.1 + ((1 + a.toNat : Nat) : Int); omega) hle
    have na : ¬ Int32.ofInt a < 0 := by rw [q_32_0, q_i32lt hai q_0]; omega
    have nb : ¬ Int32.ofInt b < 0 := by rw [q_32_0, q_i32lt hbi q_0]; omega
    have ea := q_cl hai ha0
    have eb := q_cl hbi hb0
    rw [List.map_cons, List.map_cons, q_cv_i, q_cv_i]
    have hmul : a.toNat * b.toNat ≤ 100 * 100 := Nat.mul_le_mul (by omega) (by omega)
    intro T hT X
    have hcb : componentBytes FieldType.int ≤ 8 := by decide
    obtain ⟨vm₁, cA, comp, -, fA, fC, -, -, X', step⟩ := X.multianewarray2F hx hown (hts _ hw1) henv.2.2.2.2.2.2.1 (hts _ hw2) (g := F0 m pc A (.int (Int32.ofInt b) :: .int (Int32.ofInt a) :: st'.map (q_cv E))) rfl (by rw [hb]; exact hd) rfl na nb (by rw [ea]; omega) (by rw [eb]; exact Nat.le_trans (Nat.mul_le_mul (show b.toNat ≤ 100 by omega) hcb) (by decide)) (by rw [eb]; omega) rfl rfl (by rw [ea]; omega) (by rw [ea, eb]; omega)
    have ecA : cA = E.2.2.2.2 32 := Option.some.inj (fA.symm.trans (henv.1.2 2 _ rfl).2)
    have ecC : comp = E.2.2.2.2 30 := Option.some.inj (fC.symm.trans (henv.1.2 0 _ rfl).2)
    subst ecA
    subst ecC
    rw [ea, eb] at X' step
    generalize hF : Jvm.Free.Multi.fill (T.setVm vm₁) (E.2.2.2.2 32) (E.2.2.2.2 30) a.toNat b.toNat (defaultValue .int) a.toNat = F at X' step
    have hTh : (T.setVm vm₁).heap = H := hT
    obtain ⟨f1, f2, -, -⟩ := Jvm.Free.Multi.fill_facts (T.setVm vm₁) (E.2.2.2.2 32) (E.2.2.2.2 30) a.toNat b.toNat (defaultValue .int) a.toNat
    rw [hF, hTh] at f1 f2
    have hold : ∀ x : Nat, x < H.size → F.heap[x]? = H[x]? := fun x hx' => by
      have := Jvm.Free.Multi.fill_old (T.setVm vm₁) (E.2.2.2.2 32) (E.2.2.2.2 30) a.toNat b.toNat (defaultValue .int) (a := x) (by rw [hTh]; exact hx') a.toNat
      rw [hF, hTh] at this
      exact this
    have hrow : ∀ j : Nat, j < a.toNat → F.heap[H.size + 1 + j]? = some (Jvm.Free.Multi.innerC (E.2.2.2.2 30) b.toNat (defaultValue .int)) := fun j hj => by
      have := Jvm.Free.Multi.fill_inner (T.setVm vm₁) (E.2.2.2.2 32) (E.2.2.2.2 30) a.toNat b.toNat (defaultValue .int) a.toNat j hj
      rw [hF, hTh] at this
      exact this
    have k1 := kk F.heap locs (q_rel_mk2 a1 hm.1 ha0 f1 hold (by
      rw [q_en_q (by decide)]
      show F.heap[H.size]? = some (vp_cell _ _)
      rw [f2, q_outer, vp_cell_q]
      congr 1
      have e9 : ∀ (c : ClassId) (N : Nat) (f g : Nat → Value), (∀ j, j < N → f j = g j) → arrV c N f = arrV c N g := fun c N f g hfg => by
        unfold arrV
        congr 1
        apply Array.ext
        · simp
        · intro i h1 h2
          simp at h1 ⊢
          exact hfg i h1
      refine e9 _ _ _ _ fun j hj => ?_
      rw [if_pos hj]
      show va_rf _ = va_rf (q_rf E (s1.1.1 + 1 + j))
      rw [q_rf_some (by omega)]
      congr 2
      unfold q_a
      rw [if_pos (by omega), a1.1]
      omega) (fun j hj => by
      rw [q_en_i (Or.inl rfl)]
      show F.heap[H.size + 1 + j]? = some (vp_cell _ _)
      rw [hrow j hj, vp_cell_i]
      show some ({ cls := _, slots := Array.replicate b.toNat (defaultValue .int), vm := .none } : Cell) = _
      rw [arrV_new]
      rfl)) a3
    rw [g3, List.map_cons, q_cv_r E _ (show 10 ≤ 32 by decide)] at k1
    have eaa : q_a E s1.1.1 = H.size := by rw [a1.1]; unfold q_a; rw [if_pos hm.1]
    rw [eaa] at k1
    have k2 : W p l e R s m args below meth c F.heap locs ((s1.1.1 - s0.1.1).toNat + 1 + a.toNat) (10000 * (s1.1.1 - s0.1.1).toNat + a.toNat + a.toNat * b.toNat) Q (F0 m (pc + 4) A (.ref H.size :: st'.map (q_cv E))) := W.widen (by omega) (by omega) k1
    obtain ⟨t, y1, y2⟩ := k2 F rfl X'
    refine ⟨t, step t ?_, y2⟩
    have e8 : T.heap.size = H.size := by rw [hT]
    rw [e8]
    exact y1
end SN2
