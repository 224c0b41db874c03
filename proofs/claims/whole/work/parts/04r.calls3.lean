section SK3
variable {E : q_X} {l : Launch} {I : q_I} {own : String} {cc : ByteArray} {nL : Nat} {rt : Option FieldType} {nm : String} {d : Nat}
theorem s_callVi {pc idx ci M na N : Nat} {Tn : u_T} {y : MethodName} {bytes : ByteArray} {maxL dp : Nat} {ret : Option FieldType} (hd : decode cc pc = .ok (.invokevirtual idx, 3)) (hk : I M = (y, bytes, maxL, ret, dp)) (hdp : dp < d) (hmx : maxL ≤ 80) (hcode : Cond.code y bytes maxL ret ∈ qG) (hmh : y.cls ≠ "java/lang/invoke/MethodHandle" ∧ y.cls ≠ "java/lang/invoke/VarHandle") (hpar : (parseMethodDescriptor y.desc).map (fun d => d.parameters.length) = some na) (hret : ret ≠ none)
    (hw1 : Cond.methodLink own idx y ∈ qG) (hw2 : Cond.instanceMethod y ∈ qG) (hw3 : Cond.selects y.cls y y ∈ qG) (hw4 : Cond.initialized y.cls ∈ qG) (hcl : vwCl[ci]? = some (y.cls, Tn, N)) : q_sim E l I own cc nL rt nm d pc (o_calli (10 + ci) M (na + 1) (pc + 3)) := by
  refine ⟨f_calli _ _ _ _, fun p e R s m args below meth c Q s0 r hc hr C K ls st s1 h hC hK => ?_⟩
  obtain ⟨as, st', r1, hst, hlen, hcat, hhd, h1, h2⟩ := q_calli_spec h
  subst hst
  exact q_goC hc hk hC h1 (hK _ _ _ _ h2) (Or.inl ⟨hret, rfl⟩) (q_runV hc hd hk hdp hmx hcode hmh hpar hw1 hw2 hw3 hw4 hcl hlen hhd hcat)
theorem s_callVv {pc idx ci M na N : Nat} {Tn : u_T} {y : MethodName} {bytes : ByteArray} {maxL dp : Nat} {ret : Option FieldType} (hd : decode cc pc = .ok (.invokevirtual idx, 3)) (hk : I M = (y, bytes, maxL, ret, dp)) (hdp : dp < d) (hmx : maxL ≤ 80) (hcode : Cond.code y bytes maxL ret ∈ qG) (hmh : y.cls ≠ "java/lang/invoke/MethodHandle" ∧ y.cls ≠ "java/lang/invoke/VarHandle") (hpar : (parseMethodDescriptor y.desc).map (fun d => d.parameters.length) = some na) (hret : ret = none)
    (hw1 : Cond.methodLink own idx y ∈ qG) (hw2 : Cond.instanceMethod y ∈ qG) (hw3 : Cond.selects y.cls y y ∈ qG) (hw4 : Cond.initialized y.cls ∈ qG) (hcl : vwCl[ci]? = some (y.cls, Tn, N)) : q_sim E l I own cc nL rt nm d pc (o_callv (10 + ci) M (na + 1) (pc + 3)) := by
  refine ⟨f_callv _ _ _ _, fun p e R s m args below meth c Q s0 r hc hr C K ls st s1 h hC hK => ?_⟩
  obtain ⟨as, st', r1, hst, hlen, hcat, hhd, h1, h2⟩ := q_callv_spec h
  subst hst
  exact q_goC hc hk hC h1 (hK _ _ _ _ h2) (Or.inr ⟨hret, rfl⟩) (q_runV hc hd hk hdp hmx hcode hmh hpar hw1 hw2 hw3 hw4 hcl hlen hhd hcat)
theorem s_callSi {pc idx M na : Nat} {y : MethodName} {bytes : ByteArray} {maxL dp : Nat} {ret : Option FieldType} (hd : decode cc pc = .ok (.invokestatic idx, 3)) (hk : I M = (y, bytes, maxL, ret, dp)) (hdp : dp < d) (hmx : maxL ≤ 80) (hcode : Cond.code y bytes maxL ret ∈ qG) (hmh : y.cls ≠ "java/lang/invoke/MethodHandle" ∧ y.cls ≠ "java/lang/invoke/VarHandle") (hpar : (parseMethodDescriptor y.desc).map (fun d => d.parameters.length) = some na) (hret : ret ≠ none)
    (hw1 : Cond.methodLink own idx y ∈ qG) (hw2 : Cond.static y ∈ qG) (hw4 : Cond.initialized own ∈ qG) (hyo : y.cls = own) : q_sim E l I own cc nL rt nm d pc (o_calli 0 M na (pc + 3)) := by
  refine ⟨f_calli _ _ _ _, fun p e R s m args below meth c Q s0 r hc hr C K ls st s1 h hC hK => ?_⟩
  obtain ⟨as, st', r1, hst, hlen, hcat, hhd, h1, h2⟩ := q_calli_spec h
  subst hst
  exact q_goC hc hk hC h1 (hK _ _ _ _ h2) (Or.inl ⟨hret, rfl⟩) (q_runS hc hd hk hdp hmx hcode hmh hpar hw1 hw2 hw4 hyo hlen hcat)
theorem s_callI {pc idx ci M na : Nat} {y : MethodName} {bytes : ByteArray} {maxL dp : Nat} (hd : decode cc pc = .ok (.invokespecial idx, 3)) (hk : I M = (y, bytes, maxL, none, dp)) (hdp : dp < d) (hmx : maxL ≤ 80) (hcode : Cond.code y bytes maxL none ∈ qG) (hmh : y.cls ≠ "java/lang/invoke/MethodHandle" ∧ y.cls ≠ "java/lang/invoke/VarHandle") (hpar : (parseMethodDescriptor y.desc).map (fun d => d.parameters.length) = some na) 
    (hw1 : Cond.methodLink own idx y ∈ qG ∨ ∃ host, (own, idx, y, host) ∈ q_nM) (hw2 : Cond.instanceMethod y ∈ qG) (hw4 : Cond.initialized y.cls ∈ qG) (hyi : y.name = "<init>") : q_sim E l I own cc nL rt nm d pc (o_callv (10 + ci) M (na + 1) (pc + 3)) := by
  refine ⟨f_callv _ _ _ _, fun p e R s m args below meth c Q s0 r hc hr C K ls st s1 h hC hK => ?_⟩
  obtain ⟨as, st', r1, hst, hlen, hcat, hhd, h1, h2⟩ := q_callv_spec h
  subst hst
  exact q_goC hc hk hC h1 (hK _ _ _ _ h2) (Or.inr ⟨rfl, rfl⟩) (q_runI hc hd hk hdp hmx hcode hmh hpar hw1 hw2 hw4 hyi hlen hhd hcat)
theorem s_objinit {pc idx : Nat} (hd : decode cc pc = .ok (.invokespecial idx, 3)) (hw1 : Cond.methodLink own idx Lib.objectInit ∈ qG) (hw2 : Cond.instanceMethod Lib.objectInit ∈ qG) (hw3 : Cond.code Lib.objectInit ⟨#[0xb1]⟩ 1 none ∈ qG) : q_sim E l I own cc nL rt nm d pc (o_objinit (pc + 3)) := by
  refine ⟨f_objinit _, fun p e R s m args below meth c Q s0 r hc hr C K ls st s1 h _ hK => ?_⟩
  obtain ⟨hx, hb, -, hml, hown, -, -, hts, henv, -, -, hfr, hlo, -⟩ := hc
  unfold o_objinit at h
  split at h
  · rename_i t k st'
    split at h
    · rename_i hcd
      simp only [Bool.and_eq_true] at hcd
      refine q_go (hK _ _ _ _ h) fun hm hf => ⟨q_fk_pop hf, fun H locs A a1 a2 a3 kk => ?_⟩
      rw [List.map_cons, q_cv_r E k (Nat.le_of_ble_eq_true hcd.1.1)]
      refine W.objInit hx hb hown (hts _ hw1) (hts _ hw2) (hts _ hw3) rfl (by rw [hml]; exact a2.2.1) rfl hd (by omega) ?_ (kk A a2)
      have h8 := q_room8 (E := E) (pc := pc) (m := m) (A := A) (x := .ref (q_a E k) :: st'.map (q_cv E)) (Nat.le_of_ble_eq_true hcd.2)
      omega
    · cases h
  · cases h
theorem s_max {pc idx : Nat} (hd : decode cc pc = .ok (.invokestatic idx, 3)) (hw1 : Cond.methodLink own idx Lib.Math.max.name ∈ qG) (hw2 : Cond.static Lib.Math.max.name ∈ qG) (hw3 : Cond.initialized "java/lang/Math" ∈ qG) (hw4 : Cond.code Lib.Math.max.name Lib.Math.max.code 2 (some .int) ∈ qG) : q_sim E l I own cc nL rt nm d pc (o_max (pc + 3)) := by
  refine ⟨f_max _, fun p e R s m args below meth c Q s0 r hc hr C K ls st s1 h _ hK => ?_⟩
  obtain ⟨hx, hb, -, hml, hown, -, -, hts, henv, -, -, hfr, hlo, hce, hsl, -⟩ := hc
  unfold o_max at h
  split at h
  · rename_i b a st'
    split at h
    · rename_i hcd
      have hK' := hK _ _ _ _ h
      have hle := hK'.1.1.1
      refine q_go hK' fun hm hf => ?_
      have hbi := q_vk_i (q_fk_top hf)
      have hai := q_vk_i (q_fk_top (q_fk_pop hf))
      refine ⟨q_fk_push (q_fk_pop (q_fk_pop hf)) (q_vk_int (by split; exact hbi; exact hai)), fun H locs A a1 a2 a3 kk => ?_⟩
      have k1 := kk A a2
      have e1 : Int32.ofInt (if a < b then b else a) = if Int32.ofInt a < Int32.ofInt b then Int32.ofInt b else Int32.ofInt a := by
        by_cases hlt : a < b
        · rw [if_pos hlt, if_pos ((q_i32lt hai hbi).mpr hlt)]
        · rw [if_neg hlt, if_neg (fun z => hlt ((q_i32lt hai hbi).mp z))]
      rw [List.map_cons, q_cv_i, e1] at k1
      have h8 := Nat.le_of_ble_eq_true hcd
      have h9 := q_cat_map (E := E) st'
      exact va_mmax hx hb (by rw [hml]; exact a2.2.1.symm) hown (hts _ hw1) (hts _ hw2) (hts _ hw3) (hts _ hw4) (by omega) (by omega) (by omega) (by omega) hd k1
    · cases h
  · cases h
theorem s_min {pc idx : Nat} (hd : decode cc pc = .ok (.invokestatic idx, 3)) (hw1 : Cond.methodLink own idx Lib.Math.min.name ∈ qG) (hw2 : Cond.static Lib.Math.min.name ∈ qG) (hw3 : Cond.initialized "java/lang/Math" ∈ qG) (hw4 : Cond.code Lib.Math.min.name Lib.Math.min.code 2 (some .int) ∈ qG) : q_sim E l I own cc nL rt nm d pc (o_min (pc + 3)) := by
  refine ⟨f_min _, fun p e R s m args below meth c Q s0 r hc hr C K ls st s1 h _ hK => ?_⟩
  obtain ⟨hx, hb, -, hml, hown, -, -, hts, henv, -, -, hfr, hlo, hce, hsl, -⟩ := hc
  unfold o_min at h
  split at h
  · rename_i b a st'
    split at h
    · rename_i hcd
      have hK' := hK _ _ _ _ h
      have hle := hK'.1.1.1
      refine q_go hK' fun hm hf => ?_
      have hbi := q_vk_i (q_fk_top hf)
      have hai := q_vk_i (q_fk_top (q_fk_pop hf))
      refine ⟨q_fk_push (q_fk_pop (q_fk_pop hf)) (q_vk_int (by split; exact hbi; exact hai)), fun H locs A a1 a2 a3 kk => ?_⟩
      have k1 := kk A a2
      have e1 : Int32.ofInt (if b < a then b else a) = if Int32.ofInt b < Int32.ofInt a then Int32.ofInt b else Int32.ofInt a := by
        by_cases hlt : b < a
        · rw [if_pos hlt, if_pos ((q_i32lt hbi hai).mpr hlt)]
        · rw [if_neg hlt, if_neg (fun z => hlt ((q_i32lt hbi hai).mp z))]
      rw [List.map_cons, q_cv_i, e1] at k1
      have h8 := Nat.le_of_ble_eq_true hcd
      have h9 := q_cat_map (E := E) st'
      exact va_mmin hx hb (by rw [hml]; exact a2.2.1.symm) hown (hts _ hw1) (hts _ hw2) (hts _ hw3) (hts _ hw4) (by omega) (by omega) (by omega) (by omega) hd k1
    · cases h
  · cases h
theorem s_under {pc : Nat} (hd : decode cc pc = .ok (.getstatic 44, 3)) (hown0 : own = "FarDishes$Asking") : q_sim E l I own cc nL rt nm d pc (o_under (pc + 3)) := by
  refine ⟨f_under _, fun p e R s m args below meth c Q s0 r hc hr C K ls st s1 h _ hK => ?_⟩
  obtain ⟨hx, hb, -, hml, hown, -, -, hts, henv, hE1, hE2, -, -, -, -, hE3, hE4⟩ := hc
  refine ⟨(hK _ _ _ _ h).1, fun hm hf h0 => ?_⟩
  have g3 := (hK _ _ _ _ h).2 hm (q_fk_push hf (Or.inr (Or.inr ⟨by decide, Or.inr (Or.inl ⟨rfl, Or.inl rfl⟩)⟩))) h0
  intro H locs A a1 a2 a3
  have k1 := g3 H locs A a1 a2 a3
  rw [List.map_cons, q_cv_r E _ (by decide)] at k1
  have ea : q_a E (-5) = E.2.2.1 (-5) := by unfold q_a; rw [if_neg (by decide)]
  rw [ea] at k1
  have hS := q_mkS (s := s) hE3 hE2 h0 a1 a3
  have hZ : va_Z "FarDishes" "UNDER" "[I" (.ref (E.2.2.1 (-5))) (fun q => E.1 ≤ q) s s.heap := henv.2.2.2.2.2.2.2.1.kept (fun q h1 h2 => hE2 q (Nat.not_le.mp h2))
  exact va_getsN hx hb hZ hS hown (va_Nw.use rfl (by rw [hown0]; exact henv.2.2.2.2.1)) (fun _ h9 => h9) hd k1
end SK3
