/-! THE SIMULATION: every run of my machine is a run of the JVM -/
theorem q_ent_len {n : Nat} {as : List q_V} (h : (q_sl as).length ≤ n) : (q_ent n as).length = n := by
  unfold q_ent
  rw [List.length_append, List.length_replicate]; omega
theorem q_sl_lg (E : q_X) : ∀ as : List q_V, (lg_sl (as.map (q_cv E))).length = (q_sl as).length
  | [] => rfl
  | (t, v) :: r => by
    have ih := q_sl_lg E r
    rw [List.map_cons]
    show ((if (q_cv E (t, v)).category = 2 then [Slot.val (q_cv E (t, v)), .second] else [Slot.val (q_cv E (t, v))]) ++ lg_sl (r.map (q_cv E))).length = (if Nat.beq t 3 then (3, v) :: (9, 0) :: q_sl r else (t, v) :: q_sl r).length
    by_cases h : t = 3
    · subst h
      simp [q_cv_cat, ih]
    · have h2 : ¬ Nat.beq t 3 = true := fun z => h (Nat.eq_of_beq_eq_true z)
      rw [if_neg h2]
      simp [q_cv_cat, h, ih]
theorem q_at_rep : ∀ (n i : Nat), (q_at (List.replicate n (9, 0)) i) = (9, 0)
  | 0, i => rfl
  | n + 1, 0 => rfl
  | n + 1, i + 1 => q_at_rep n i
theorem q_at_app : ∀ (a b : List q_V) (i : Nat), q_at (a ++ b) i = if i < a.length then q_at a i else q_at b (i - a.length)
  | [], b, i => by simp
  | x :: a, b, 0 => by simp [q_at]
  | x :: a, b, i + 1 => by
    show q_at (a ++ b) i = _
    rw [q_at_app a b i]
    by_cases h : i < a.length
    · rw [if_pos h, if_pos (by simp; omega)]; rfl
    · rw [if_neg h, if_neg (by simp; omega)]
      simp
theorem q_sl_args (E : q_X) : ∀ (as : List q_V) (k i : Nat), (∀ v ∈ as, v.1 ≠ 9) → (q_at (q_sl as) i).1 ≠ 9 → ((k + i, q_cv E (q_at (q_sl as) i)) : Nat × Value) ∈ lv_args k (as.map (q_cv E))
  | [], k, i, _, h => absurd rfl h
  | (t, v) :: r, k, i, h9, h => by
    have hr : ∀ v ∈ r, v.1 ≠ 9 := fun x hx => h9 x (List.mem_cons_of_mem _ hx)
    rw [List.map_cons]
    show _ ∈ (k, q_cv E (t, v)) :: lv_args (if (q_cv E (t, v)).category = 2 then k + 2 else k + 1) (r.map (q_cv E))
    by_cases h3 : t = 3
    · subst h3
      have e : q_sl ((3, v) :: r) = (3, v) :: (9, 0) :: q_sl r := rfl
      rw [e] at h ⊢
      rw [q_cv_cat, if_pos rfl, if_pos rfl]
      match i, h with
      | 0, _ => exact List.mem_cons_self
      | 1, h => exact absurd rfl h
      | i + 2, h =>
        refine List.mem_cons_of_mem _ ?_
        have := q_sl_args E r (k + 2) i hr h
        rw [show k + (i + 2) = k + 2 + i by omega]
        exact this
    · have h2 : ¬ Nat.beq t 3 = true := fun z => h3 (Nat.eq_of_beq_eq_true z)
      have e : q_sl ((t, v) :: r) = (t, v) :: q_sl r := by
        show (if Nat.beq t 3 then _ else _) = _
        rw [if_neg h2]
      rw [e] at h ⊢
      rw [q_cv_cat, if_neg h3, if_neg (by decide)]
      match i, h with
      | 0, _ => exact List.mem_cons_self
      | i + 1, h =>
        refine List.mem_cons_of_mem _ ?_
        have := q_sl_args E r (k + 1) i hr h
        rw [show k + (i + 1) = k + 1 + i by omega]
        exact this
theorem q_ent_at {n : Nat} {as : List q_V} {i : Nat} (h : (q_at (q_ent n as) i).1 ≠ 9) : q_at (q_ent n as) i = q_at (q_sl as) i ∧ (q_at (q_sl as) i).1 ≠ 9 := by
  unfold q_ent at h ⊢
  rw [q_at_app] at h ⊢
  by_cases hi : i < (q_sl as).length
  · rw [if_pos hi] at h ⊢; exact ⟨rfl, h⟩
  · rw [if_neg hi, q_at_rep] at h; exact absurd rfl h
theorem q_sl_vk {s : q_M} : ∀ (as : List q_V) (i : Nat), (∀ v ∈ as, q_vk s v) → (q_at (q_sl as) i).1 ≠ 9 → q_vk s (q_at (q_sl as) i)
  | [], i, _, h => absurd rfl h
  | (t, v) :: r, i, hv, h => by
    have hr : ∀ v ∈ r, q_vk s v := fun x hx => hv x (List.mem_cons_of_mem _ hx)
    by_cases h3 : t = 3
    · subst h3
      have e : q_sl ((3, v) :: r) = (3, v) :: (9, 0) :: q_sl r := rfl
      rw [e] at h ⊢
      match i, h with
      | 0, _ => exact hv _ List.mem_cons_self
      | 1, h => exact absurd rfl h
      | i + 2, h => exact q_sl_vk r i hr h
    · have h2 : ¬ Nat.beq t 3 = true := fun z => h3 (Nat.eq_of_beq_eq_true z)
      have e : q_sl ((t, v) :: r) = (t, v) :: q_sl r := by
        show (if Nat.beq t 3 then _ else _) = _
        rw [if_neg h2]
      rw [e] at h ⊢
      match i, h with
      | 0, _ => exact hv _ List.mem_cons_self
      | i + 1, h => exact q_sl_vk r i hr h
/-- what a program must bring: each instruction stands for the JVM's -/
def q_ok (E : q_X) (l : Launch) (I : q_I) (P : Nat → Nat → Option q_O) (mx : Nat → Nat) : Prop :=
  (∀ M pc op, P M pc = some op → q_sim E l I (I M).1.cls (I M).2.1 (I M).2.2.1 (I M).2.2.2.1 (I M).1.name (I M).2.2.2.2 pc op ∧ q_mon (I M).2.2.2.1 op) ∧ (∀ M, mx M = (I M).2.2.1) ∧ ∀ M pc op, P M pc = some op → plainName (I M).1.cls = true ∧ ((I M).2.2.2.1 = none ∨ (I M).2.2.2.1 = some .int ∨ (I M).2.2.2.1 = some .boolean)
theorem q_mono_all {E : q_X} {l : Launch} {I : q_I} {P : Nat → Nat → Option q_O} {mx : Nat → Nat} (hP : q_ok E l I P mx) : ∀ (n M pc : Nat) (ls st : List q_V) (s : q_M) (r : q_V × q_M), q_run P mx n M pc ls st s = some r → q_ext s r.2 ∧ ((I M).2.2.2.1 = none ↔ r.1.1 = 9) := by
  intro n
  induction n with
  | zero => intro M pc ls st s r h; cases h
  | succ n ih =>
    intro M pc ls st s r h
    cases hp : P M pc with
    | none => rw [q_run_none hp] at h; cases h
    | some op =>
      rw [q_run_some hp] at h
      exact (hP.1 M pc op hp).2 _ _ _ _ _ _ h (fun M' as s' r' h' => (ih _ _ _ _ _ _ (q_ca_some h').2).1) (fun pc' ls' st' s' h' => ih _ _ _ _ _ _ h')
theorem q_all {E : q_X} {l : Launch} {I : q_I} {P : Nat → Nat → Option q_O} {mx : Nat → Nat} (hP : q_ok E l I P mx) : ∀ n : Nat, q_ch E l I (q_ca mx (q_run P mx n)) ∧
    ∀ (M : Nat) (p : Program) (e : Env) (R : Room) (s : State) (m : MethodId) (args : Array Value) (below : List Frame) (meth : Method) (c : Code) (Q : State → Prop) (s0 : q_M) (r : q_V × q_M),
      q_cx E (I M).2.2.1 (I M).2.2.2.1 p R s m args meth c s0 r (I M).1.cls (I M).2.1 (I M).1.name (I M).2.2.2.2 → q_ret E l (I M).2.2.2.1 p e R s m args below meth c Q s0 r (I M).2.1 →
      ∀ (pc : Nat) (ls st : List q_V) (s1 : q_M), q_run P mx n M pc ls st s1 = some r → q_S E l (I M).2.2.1 (I M).2.2.2.1 p e R s m args below meth c Q s0 r pc ls st s1 := by
  intro n
  induction n with
  | zero =>
    refine ⟨fun M as s r h => ?_, fun M p e R s m args below meth c Q s0 r _ _ pc ls st s1 h => ?_⟩
    · have := (q_ca_some h).2; cases this
    · cases h
  | succ n ih =>
    have two : ∀ (M : Nat) (p : Program) (e : Env) (R : Room) (s : State) (m : MethodId) (args : Array Value) (below : List Frame) (meth : Method) (c : Code) (Q : State → Prop) (s0 : q_M) (r : q_V × q_M),
      q_cx E (I M).2.2.1 (I M).2.2.2.1 p R s m args meth c s0 r (I M).1.cls (I M).2.1 (I M).1.name (I M).2.2.2.2 → q_ret E l (I M).2.2.2.1 p e R s m args below meth c Q s0 r (I M).2.1 →
      ∀ (pc : Nat) (ls st : List q_V) (s1 : q_M), q_run P mx (n + 1) M pc ls st s1 = some r → q_S E l (I M).2.2.1 (I M).2.2.2.1 p e R s m args below meth c Q s0 r pc ls st s1 := by
      intro M p e R s m args below meth c Q s0 r hc hr pc ls st s1 h
      cases hp : P M pc with
      | none => rw [q_run_none hp] at h; cases h
      | some op =>
        rw [q_run_some hp] at h
        exact (hP.1 M pc op hp).1.2 p e R s m args below meth c Q s0 r hc hr _ _ ls st s1 h ih.1 (fun pc' ls' st' s' h' => ih.2 M p e R s m args below meth c Q s0 r hc hr pc' ls' st' s' h')
    refine ⟨fun M as s1 r h => ?_, two⟩
    obtain ⟨hlen, hrun⟩ := q_ca_some h
    have hext := q_mono_all hP _ _ _ _ _ _ _ hrun
    refine ⟨hext, fun hm hv => ?_⟩
    obtain ⟨op, hop⟩ : ∃ op, P M 0 = some op := by
      cases hp : P M 0 with
      | none => rw [q_run_none hp] at hrun; cases hrun
      | some op => exact ⟨op, rfl⟩
    rw [hP.2.1 M] at hlen hrun
    have hfk : q_fk s1 (q_ent (I M).2.2.1 as) [] := ⟨fun i hi => by
      obtain ⟨e1, e2⟩ := q_ent_at hi
      rw [e1]
      exact q_sl_vk as i hv e2, fun v hv => by cases hv⟩
    · skip
      unfold q_met
      refine Met.ofW (cc := (I M).2.1) (maxL := (I M).2.2.1) (ret := (I M).2.2.2.1) (hP.2.2 M 0 op hop).1 rfl ?_
      intro p e s m args below meth c s₁ B hml hpc
      obtain ⟨rfl, hrel, henv⟩ := hpc
      have hx := B.exec
      have hb := B.bytes
      have hr := B.returns
      have hts := atoms_spec (ws := Cond.code (I M).1 (I M).2.1 (I M).2.2.1 (I M).2.2.2.1 :: qG) B.pre
      have hown : s.vm.findClass (I M).1.cls = some m.cls := findClass_of_methodNamed B.named
      have hlocks := B.notSynchronized
      have hname : meth.name = (I M).1.name := (name_of_methodNamed B.named B.method).1
      have hcx : q_cx E (I M).2.2.1 (I M).2.2.2.1 p (headSpec (Cond.code (I M).1 (I M).2.1 (I M).2.2.1 (I M).2.2.2.1 :: qG) (q_rm (I M).2.2.2.2 (r.2.1.1 - s1.1.1).toNat)).room s m (as.map (q_cv E)).toArray meth c s1 r (I M).1.cls (I M).2.1 (I M).1.name (I M).2.2.2.2 :=
        ⟨hx, hb, hr, hml, hown, hlocks, fun _ => hname, fun w hw => hts w (List.mem_cons_of_mem _ hw), henv, by rw [hrel.1]; omega, hrel.2.1, Nat.le_refl _, Nat.le_refl _, Nat.le_refl _, Nat.le_refl _, hrel.1, hm.1⟩
      have hret : q_ret E l (I M).2.2.2.1 p e (headSpec (Cond.code (I M).1 (I M).2.1 (I M).2.2.1 (I M).2.2.2.1 :: qG) (q_rm (I M).2.2.2.2 (r.2.1.1 - s1.1.1).toNat)).room s m (as.map (q_cv E)).toArray below meth c (MQ below (q_Qc E r) (as.map (q_cv E)).toArray s (r.2.1.1 - s1.1.1).toNat (10000 * (r.2.1.1 - s1.1.1).toNat) (fun q => E.1 ≤ q)) s1 r (I M).2.1 := by
        intro pc A H locs hm9 hrel2 hl
        refine ⟨fun h9 hrt hd => ?_, fun v hv9 hi hrt hd => ?_⟩
        · exact W.vret hx hb (hr.trans hrt) (fun t ht _ => ⟨by unfold q_rv; rw [if_pos h9], by rw [ht]; exact hrel2, hm9, Or.inl h9⟩) hl hd
        · have e9 : q_rv E r.1 = some (.int (Int32.ofInt v)) := by rw [hv9]; rfl
          rcases hrt with hrt | ⟨hrt, hz⟩
          · exact W.iret hx hb (hr.trans hrt) (fun t ht _ => ⟨by rw [e9], by rw [ht]; exact hrel2, hm9, Or.inr (by rw [hv9]; exact q_vk_int hi)⟩) hl hd
          · exact W.zret (ty := .boolean) hx hb (hr.trans hrt) (by rcases hz with rfl | rfl; exact q_zn0; exact q_zn1) (fun t ht _ => ⟨by rw [e9], by rw [ht]; exact hrel2, hm9, Or.inr (by rw [hv9]; exact q_vk_int hi)⟩) hl hd
      have hS := two M p e _ s m _ below meth c _ s1 r hcx hret 0 _ [] s1 hrun
      have g3 := hS.2 hm hfk (Int.le_refl _)
      have hle2 : (lg_sl (as.map (q_cv E))).length ≤ (I M).2.2.1 := by rw [q_sl_lg]; exact hlen
      have hl := lv_entry (as.map (q_cv E)) (n := (I M).2.2.1) hle2
      rw [lg_entry_eq]
      have k1 := g3 s.heap [] ((lg_sl (as.map (q_cv E)) ++ List.replicate ((I M).2.2.1 - (lg_sl (as.map (q_cv E))).length) Slot.unset).toArray) hrel ⟨q_ent_len hlen, hl.1, hl.2.1, fun i hi => by
        obtain ⟨e1, e2⟩ := q_ent_at hi
        rw [e1]
        have h8 := q_sl_args E as 0 i (fun v hv' => q_vk_not9 (hv v hv')) e2
        rw [Nat.zero_add] at h8
        exact hl.2.2 _ h8⟩ (fun x hx' => by cases hx')
      rw [Int.sub_self] at k1
      exact k1
