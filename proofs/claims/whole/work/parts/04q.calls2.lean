section SK2
variable {E : q_X} {l : Launch} {I : q_I} {own : String} {cc : ByteArray} {nL : Nat} {rt : Option FieldType} {nm : String} {d : Nat}
theorem q_hd_spec {t : Nat} {as : List q_V} (h : q_hd t as = true) (ht : t ≠ 0) : ∃ k as', as = (t, k) :: as' := by
  cases as with
  | nil => exact absurd (Nat.eq_of_beq_eq_true h) ht
  | cons v as' =>
    obtain ⟨t', k⟩ := v
    have h2 : (Nat.beq t 0 || Nat.beq t' t) = true := h
    rw [Bool.or_eq_true] at h2
    rcases h2 with h2 | h2
    · exact absurd (Nat.eq_of_beq_eq_true h2) ht
    · exact ⟨k, as', by rw [Nat.eq_of_beq_eq_true h2]⟩
theorem q_goodV {idx : Nat} {C : String} {y : MethodName} {ws : List Cond} (h1 : Cond.methodLink own idx y ∈ qG) (h2 : Cond.instanceMethod y ∈ qG) (h3 : Cond.selects C y y ∈ qG) (h4 : Cond.initialized C ∈ qG) (h : GoodIn qG ws) : GoodIn qG (wsV own idx C y ws) := by
  intro w hw
  unfold wsV at hw
  rcases List.mem_append.mp hw with hw | hw
  · simp only [List.mem_cons, List.not_mem_nil, or_false] at hw
    rcases hw with rfl | rfl | rfl | rfl
    · exact qG_good _ h1
    · exact qG_good _ h2
    · exact qG_good _ h3
    · exact qG_good _ h4
  · exact h w hw
theorem q_goodS {idx : Nat} {y : MethodName} {ws : List Cond} (h1 : Cond.methodLink own idx y ∈ qG) (h2 : Cond.static y ∈ qG) (h4 : Cond.initialized own ∈ qG) (h : GoodIn qG ws) : GoodIn qG (wsS own idx y ws) := by
  intro w hw
  unfold wsS at hw
  rcases List.mem_append.mp hw with hw | hw
  · simp only [List.mem_cons, List.not_mem_nil, or_false] at hw
    rcases hw with rfl | rfl | rfl
    · exact qG_good _ h1
    · exact qG_good _ h2
    · exact qG_good _ h4
  · exact h w hw
theorem q_room8 {pc : Nat} {m : MethodId} {A : Array Slot} {x : List Value} {st' : List q_V} (h : q_cat st' ≤ 8) : 2 * (F0 m pc A x).monitorRoom + ((st'.map (q_cv E)).map fun v => v.category).sum ≤ 8 := lv_room (by rw [q_cat_map]; exact h)
/-- the run of an instance method, of a static one, of a constructor (of a class of the same nest, too) -/
theorem q_runV {p : Program} {e : Env} {R : Room} {s : State} {m : MethodId} {args : Array Value} {below : List Frame} {meth : Method} {c : Code} {s0 : q_M} {r r1 : q_V × q_M} {pc idx ci M na N : Nat} {ls as st' : List q_V} {s1 : q_M} {Tn : u_T} {y : MethodName} {bytes : ByteArray} {maxL dp : Nat} {ret : Option FieldType}
    (hc : q_cx E nL rt p R s m args meth c s0 r own cc nm d) (hd : decode cc pc = .ok (.invokevirtual idx, 3)) (hk : I M = (y, bytes, maxL, ret, dp)) (hdp : dp < d) (hmx : maxL ≤ 80) (hcode : Cond.code y bytes maxL ret ∈ qG) (hmh : y.cls ≠ "java/lang/invoke/MethodHandle" ∧ y.cls ≠ "java/lang/invoke/VarHandle") (hpar : (parseMethodDescriptor y.desc).map (fun d => d.parameters.length) = some na)
    (hw1 : Cond.methodLink own idx y ∈ qG) (hw2 : Cond.instanceMethod y ∈ qG) (hw3 : Cond.selects y.cls y y ∈ qG) (hw4 : Cond.initialized y.cls ∈ qG) (hcl : vwCl[ci]? = some (y.cls, Tn, N)) (hlen : as.length = na + 1) (hhd : q_hd (10 + ci) as = true) (hcat : q_cat st' ≤ 8) :
    Met l y (Cond.code y bytes maxL ret :: qG) (q_rm dp (r1.2.1.1 - s1.1.1).toNat) (q_Pc E as s1) (q_Qc E r1) (r1.2.1.1 - s1.1.1).toNat (10000 * (r1.2.1.1 - s1.1.1).toNat) (fun q => E.1 ≤ q) → ∀ (H : Heap) (locs : List Loc) (A : Array Slot), q_rel E s1 H → q_ls E nL ls A → q_mok E s1 → q_fk s1 ls (as.reverse ++ st') → (∀ U : State, U.heap = H → s.WarmedH U.vm → q_Pc E as s1 (as.map (q_cv E)).toArray U) → ∀ cells slots, cells + (r1.2.1.1 - s1.1.1).toNat ≤ R.cells ∧ slots + 10000 * (r1.2.1.1 - s1.1.1).toNat ≤ R.slots →
      va_Run p l e R s m args below meth c H locs cells slots (r1.2.1.1 - s1.1.1).toNat (10000 * (r1.2.1.1 - s1.1.1).toNat) (F0 m pc A ((as.reverse ++ st').map (q_cv E))) (st'.map (q_cv E)) (q_Qc E r1 (as.map (q_cv E)).toArray) (fun q => E.1 ≤ q) := by
  intro hM H locs A a1 a2 hm hf hpc cells slots hroom
  obtain ⟨hx, hb, -, hml, hown, -, -, hts, henv, -, -, hfr, hlo, -⟩ := hc
  obtain ⟨k, as', rfl⟩ := q_hd_spec hhd (by omega)
  have hv : q_vk s1 (10 + ci, k) := hf.2 _ (List.mem_append_left _ (List.mem_reverse.mpr List.mem_cons_self))
  have hci := q_cl13 hcl
  obtain ⟨b1, b2, b3⟩ := q_vk_o hv (by omega) (by omega) (by omega)
  have he := q_ws_at (E := E) b1 b2
  rw [q_pr _ b3, q_en_o (by omega)] at he
  have hcr : q_cv E (10 + ci, k) = .ref (q_a E k) := q_cv_r E k (by omega)
  have key := va_runV (m := m) (p := p) (e := e) (R := R) (below := below) (meth := meth) (locs := locs) (cells := cells) (slots := slots) (As := as'.map (q_cv E)) (rest := st'.map (q_cv E)) (b := q_a E k) (H := H) (g := F0 m pc A (((((10 + ci, k) :: as').reverse ++ st')).map (q_cv E))) ⟨hx, hb, hml, hown, hts⟩ hM
    (cwV na hts (q_goodV hw1 hw2 hw3 hw4 (q_goodY hcode)) rfl rfl rfl ⟨rfl, hmh.1, hmh.2, hpar⟩ ⟨by show 2 * dp + 4 + 1 ≤ R.frames; omega, by show 8 + (maxL + 11) + (100 * dp + 100) ≤ R.locals; omega⟩)
    ⟨q_blind _ _ _, va_recv henv.1 a1.2.2 hcl he, fun U hU hW => by
      have h9 := hpc U hU hW
      rw [List.map_cons, hcr] at h9
      exact h9⟩ rfl (by simpa using hlen) a2.2.1 (by simp [hcr]) (q_room8 hcat) hd hroom
  rw [List.map_cons, hcr]
  exact key
theorem q_runS {p : Program} {e : Env} {R : Room} {s : State} {m : MethodId} {args : Array Value} {below : List Frame} {meth : Method} {c : Code} {s0 : q_M} {r r1 : q_V × q_M} {pc idx M na : Nat} {ls as st' : List q_V} {s1 : q_M} {y : MethodName} {bytes : ByteArray} {maxL dp : Nat} {ret : Option FieldType}
    (hc : q_cx E nL rt p R s m args meth c s0 r own cc nm d) (hd : decode cc pc = .ok (.invokestatic idx, 3)) (hk : I M = (y, bytes, maxL, ret, dp)) (hdp : dp < d) (hmx : maxL ≤ 80) (hcode : Cond.code y bytes maxL ret ∈ qG) (hmh : y.cls ≠ "java/lang/invoke/MethodHandle" ∧ y.cls ≠ "java/lang/invoke/VarHandle") (hpar : (parseMethodDescriptor y.desc).map (fun d => d.parameters.length) = some na)
    (hw1 : Cond.methodLink own idx y ∈ qG) (hw2 : Cond.static y ∈ qG) (hw4 : Cond.initialized own ∈ qG) (hyo : y.cls = own) (hlen : as.length = na) (hcat : q_cat st' ≤ 8) :
    Met l y (Cond.code y bytes maxL ret :: qG) (q_rm dp (r1.2.1.1 - s1.1.1).toNat) (q_Pc E as s1) (q_Qc E r1) (r1.2.1.1 - s1.1.1).toNat (10000 * (r1.2.1.1 - s1.1.1).toNat) (fun q => E.1 ≤ q) → ∀ (H : Heap) (locs : List Loc) (A : Array Slot), q_rel E s1 H → q_ls E nL ls A → q_mok E s1 → q_fk s1 ls (as.reverse ++ st') → (∀ U : State, U.heap = H → s.WarmedH U.vm → q_Pc E as s1 (as.map (q_cv E)).toArray U) → ∀ cells slots, cells + (r1.2.1.1 - s1.1.1).toNat ≤ R.cells ∧ slots + 10000 * (r1.2.1.1 - s1.1.1).toNat ≤ R.slots →
      va_Run p l e R s m args below meth c H locs cells slots (r1.2.1.1 - s1.1.1).toNat (10000 * (r1.2.1.1 - s1.1.1).toNat) (F0 m pc A ((as.reverse ++ st').map (q_cv E))) (st'.map (q_cv E)) (q_Qc E r1 (as.map (q_cv E)).toArray) (fun q => E.1 ≤ q) := by
  intro hM H locs A a1 a2 hm hf hpc cells slots hroom
  obtain ⟨hx, hb, -, hml, hown, -, -, hts, henv, -, -, hfr, hlo, -⟩ := hc
  exact va_runS (m := m) (p := p) (e := e) (R := R) (below := below) (meth := meth) (locs := locs) (cells := cells) (slots := slots) (As := as.map (q_cv E)) (rest := st'.map (q_cv E)) (H := H) (g := F0 m pc A ((as.reverse ++ st').map (q_cv E))) ⟨hx, hb, hml, hown, hts⟩ hM
    (cwS na hts (q_goodS hw1 hw2 hw4 (q_goodY hcode)) rfl rfl rfl ⟨hyo, hmh.1, hmh.2, hpar⟩ ⟨by show 2 * dp + 4 + 1 ≤ R.frames; omega, by show 8 + (maxL + 11) + (100 * dp + 100) ≤ R.locals; omega⟩)
    ⟨q_blind _ _ _, hpc⟩ rfl (by simpa using hlen) a2.2.1 (by simp) (q_room8 hcat) hd hroom
theorem q_runI {p : Program} {e : Env} {R : Room} {s : State} {m : MethodId} {args : Array Value} {below : List Frame} {meth : Method} {c : Code} {s0 : q_M} {r r1 : q_V × q_M} {pc idx ci M na : Nat} {ls as st' : List q_V} {s1 : q_M} {y : MethodName} {bytes : ByteArray} {maxL dp : Nat}
    (hc : q_cx E nL rt p R s m args meth c s0 r own cc nm d) (hd : decode cc pc = .ok (.invokespecial idx, 3)) (hk : I M = (y, bytes, maxL, none, dp)) (hdp : dp < d) (hmx : maxL ≤ 80) (hcode : Cond.code y bytes maxL none ∈ qG) (hmh : y.cls ≠ "java/lang/invoke/MethodHandle" ∧ y.cls ≠ "java/lang/invoke/VarHandle") (hpar : (parseMethodDescriptor y.desc).map (fun d => d.parameters.length) = some na)
    (hw1 : Cond.methodLink own idx y ∈ qG ∨ ∃ host, (own, idx, y, host) ∈ q_nM) (hw2 : Cond.instanceMethod y ∈ qG) (hw4 : Cond.initialized y.cls ∈ qG) (hyi : y.name = "<init>") (hlen : as.length = na + 1) (hhd : q_hd (10 + ci) as = true) (hcat : q_cat st' ≤ 8) :
    Met l y (Cond.code y bytes maxL none :: qG) (q_rm dp (r1.2.1.1 - s1.1.1).toNat) (q_Pc E as s1) (q_Qc E r1) (r1.2.1.1 - s1.1.1).toNat (10000 * (r1.2.1.1 - s1.1.1).toNat) (fun q => E.1 ≤ q) → ∀ (H : Heap) (locs : List Loc) (A : Array Slot), q_rel E s1 H → q_ls E nL ls A → q_mok E s1 → q_fk s1 ls (as.reverse ++ st') → (∀ U : State, U.heap = H → s.WarmedH U.vm → q_Pc E as s1 (as.map (q_cv E)).toArray U) → ∀ cells slots, cells + (r1.2.1.1 - s1.1.1).toNat ≤ R.cells ∧ slots + 10000 * (r1.2.1.1 - s1.1.1).toNat ≤ R.slots →
      va_Run p l e R s m args below meth c H locs cells slots (r1.2.1.1 - s1.1.1).toNat (10000 * (r1.2.1.1 - s1.1.1).toNat) (F0 m pc A ((as.reverse ++ st').map (q_cv E))) (st'.map (q_cv E)) (q_Qc E r1 (as.map (q_cv E)).toArray) (fun q => E.1 ≤ q) := by
  intro hM H locs A a1 a2 hm hf hpc cells slots hroom
  obtain ⟨hx, hb, -, hml, hown, -, -, hts, henv, -, -, hfr, hlo, -⟩ := hc
  obtain ⟨k, as', rfl⟩ := q_hd_spec hhd (by omega)
  have hcr : q_cv E (10 + ci, k) = .ref (q_a E k) := q_cv_r E k (by omega)
  have hp2 : PreS s H (q_Pc E ((10 + ci, k) :: as') s1) (.ref (q_a E k) :: as'.map (q_cv E)) := ⟨q_blind _ _ _, fun U hU hW => by
      have h9 := hpc U hU hW
      rw [List.map_cons, hcr] at h9
      exact h9⟩
  rcases hw1 with hw1 | ⟨host, hw1⟩
  · have key := va_runI (m := m) (p := p) (e := e) (R := R) (below := below) (meth := meth) (locs := locs) (cells := cells) (slots := slots) (As := as'.map (q_cv E)) (rest := st'.map (q_cv E)) (b := q_a E k) (H := H) (g := F0 m pc A (((((10 + ci, k) :: as').reverse ++ st')).map (q_cv E))) ⟨hx, hb, hml, hown, hts⟩ hM
      (cwI na hts (q_goodY hcode) rfl rfl rfl (hts _ hw4) (hts _ hw1) (hts _ hw2) hyi ⟨hmh.1, hmh.2, hpar⟩ ⟨by show 2 * dp + 4 + 1 ≤ R.frames; omega, by show 8 + (maxL + 11) + (100 * dp + 100) ≤ R.locals; omega⟩)
      hp2 rfl (by simpa using hlen) a2.2.1 (by simp [hcr]) (q_room8 hcat) hd hroom
    rw [List.map_cons, hcr]
    exact key
  · have key := va_runIN (m := m) (p := p) (e := e) (R := R) (below := below) (meth := meth) (locs := locs) (cells := cells) (slots := slots) (As := as'.map (q_cv E)) (rest := st'.map (q_cv E)) (b := q_a E k) (H := H) (g := F0 m pc A (((((10 + ci, k) :: as').reverse ++ st')).map (q_cv E))) ⟨hx, hb, hml, hown, hts⟩ hM
      ⟨va_cnB na hts (q_goodY hcode) rfl rfl rfl (henv.2.2.2.1 _ hw1) (hts _ hw4) ⟨hmh.1, hmh.2, hpar⟩ ⟨by show 2 * dp + 4 + 1 ≤ R.frames; omega, by show 8 + (maxL + 11) + (100 * dp + 100) ≤ R.locals; omega⟩, hyi, hts _ hw2⟩
      hp2 rfl (by simpa using hlen) a2.2.1 (by simp [hcr]) (q_room8 hcat) hd hroom
    rw [List.map_cons, hcr]
    exact key
end SK2
