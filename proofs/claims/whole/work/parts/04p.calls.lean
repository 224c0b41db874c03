theorem q_AOA_moved {u U : State} (hvm : u.vm.Alike U.vm) (h : q_AOA u) : q_AOA U := Stand.arrayOver_alikeB hvm h
theorem q_envT_warm {E : q_X} {s U : State} (hW : s.WarmedH U.vm) (h : q_envT E s) : q_envT E U := by
  obtain ⟨h1, h2, h3, h4, h5, h6, h7⟩ := h
  refine ⟨h1.warm hW, va_O.moved hW.alike h2, va_OF.moved hW.alike h3, va_OF.moved hW.alike h4, va_T.moved hW.alike h5, va_Z.moved hW.alike h6, ?_⟩
  rcases h7 with h7 | ⟨t, h7⟩
  · exact Or.inl (va_Z.moved hW.alike h7)
  · exact Or.inr ⟨t, va_Z.moved hW.alike h7⟩
theorem q_envT_vm {E : q_X} {u U : State} (hv : u.vm = U.vm) (h : q_envT E u) : q_envT E U := by
  have hA : u.vm.Alike U.vm := by rw [hv]; exact Vm.Alike.refl _
  obtain ⟨h1, h2, h3, h4, h5, h6, h7⟩ := h
  refine ⟨h1.same hv.symm, va_O.moved hA h2, va_OF.moved hA h3, va_OF.moved hA h4, va_T.moved hA h5, va_Z.moved hA h6, ?_⟩
  rcases h7 with h7 | ⟨t, h7⟩
  · exact Or.inl (va_Z.moved hA h7)
  · exact Or.inr ⟨t, va_Z.moved hA h7⟩
theorem q_env_warm {E : q_X} {s U : State} (hW : s.WarmedH U.vm) (h : q_env E s) : q_env E U := by
  obtain ⟨h1, h2, h3, h4, h5, h6, h6a, h7, h8⟩ := h
  exact ⟨va_K.moved hW.alike h1, fun cell hc => State.isArrayOf_alike hW.alike (h2 cell hc), fun cell hc => State.isArrayOf_alike hW.alike (h3 cell hc), fun x hx => va_Nw.warmM hW (h4 x hx), va_Nw.warmF hW h5, fun C hC => va_AO.moved hW.alike (h6 C hC), q_AOA_moved hW.alike h6a, va_Z.moved hW.alike h7, q_envT_warm hW h8⟩
theorem q_env_vm {E : q_X} {u U : State} (hv : u.vm = U.vm) (h : q_env E u) : q_env E U := by
  have hA : u.vm.Alike U.vm := by rw [hv]; exact Vm.Alike.refl _
  obtain ⟨h1, h2, h3, h4, h5, h6, h6a, h7, h8⟩ := h
  exact ⟨va_K.moved hA h1, fun cell hc => State.isArrayOf_alike hA (h2 cell hc), fun cell hc => State.isArrayOf_alike hA (h3 cell hc), fun x hx => va_Nw.same rfl hv (h4 x hx), va_Nw.same rfl hv h5, fun C hC => va_AO.moved hA (h6 C hC), q_AOA_moved hA h6a, va_Z.moved hA h7, q_envT_vm hv h8⟩
theorem q_blind (E : q_X) (as : List q_V) (s : q_M) : FrameBlind (q_Pc E as s) := fun a U g mk q => ⟨q.1, q.2.1, q_env_vm rfl q.2.2⟩
theorem q_args_spec : ∀ (na : Nat) (st acc : List q_V) (as st' : List q_V), q_args na st acc = some (as, st') → ∃ xs, as = xs.reverse ++ acc ∧ st = xs ++ st' ∧ xs.length = na
  | 0, st, acc, as, st', h => by cases h; exact ⟨[], rfl, rfl, rfl⟩
  | n + 1, [], acc, as, st', h => by cases h
  | n + 1, v :: st, acc, as, st', h => by
    obtain ⟨xs, e1, e2, e3⟩ := q_args_spec n st (v :: acc) as st' h
    exact ⟨v :: xs, by rw [e1]; simp, by rw [e2]; rfl, by simp [e3]⟩
section SK
variable {E : q_X} {l : Launch} {I : q_I} {own : String} {cc : ByteArray} {nL : Nat} {rt : Option FieldType} {nm : String} {d : Nat}
theorem q_calli_spec {t M na n : Nat} {C : q_C} {K : q_K} {ls st : List q_V} {s1 : q_M} {r : q_V × q_M} (h : o_calli t M na n C K ls st s1 = some r) : ∃ as st' r1, st = as.reverse ++ st' ∧ as.length = na ∧ q_cat st' ≤ 8 ∧ q_hd t as = true ∧ C M as s1 = some r1 ∧ K n ls (r1.1 :: st') r1.2 = some r := by
  unfold o_calli at h
  split at h
  · rename_i as st' heq
    split at h
    · rename_i hc
      rw [Bool.and_eq_true] at hc
      obtain ⟨r1, h1, h2⟩ := Option.bind_eq_some_iff.mp h
      obtain ⟨xs, e1, e2, e3⟩ := q_args_spec _ _ _ _ _ heq
      refine ⟨as, st', r1, ?_, ?_, Nat.le_of_ble_eq_true hc.1, hc.2, h1, h2⟩
      · rw [e1, e2]; simp
      · rw [e1]; simp [e3]
    · cases h
  · cases h
theorem q_callv_spec {t M na n : Nat} {C : q_C} {K : q_K} {ls st : List q_V} {s1 : q_M} {r : q_V × q_M} (h : o_callv t M na n C K ls st s1 = some r) : ∃ as st' r1, st = as.reverse ++ st' ∧ as.length = na ∧ q_cat st' ≤ 8 ∧ q_hd t as = true ∧ C M as s1 = some r1 ∧ K n ls st' r1.2 = some r := by
  unfold o_callv at h
  split at h
  · rename_i as st' heq
    split at h
    · rename_i hc
      rw [Bool.and_eq_true] at hc
      obtain ⟨r1, h1, h2⟩ := Option.bind_eq_some_iff.mp h
      obtain ⟨xs, e1, e2, e3⟩ := q_args_spec _ _ _ _ _ heq
      refine ⟨as, st', r1, ?_, ?_, Nat.le_of_ble_eq_true hc.1, hc.2, h1, h2⟩
      · rw [e1, e2]; simp
      · rw [e1]; simp [e3]
    · cases h
  · cases h
/-- behind a call -/
theorem q_back {p : Program} {e : Env} {R : Room} {s : State} {m : MethodId} {args : Array Value} {below : List Frame} {meth : Method} {c : Code} {Q : State → Prop} {H : Heap} {locs : List Loc} {cells slots mc ms pc : Nat} {A : Array Slot} {st0 rest : List Value} {a : Array Value} {r1 : q_V × q_M}
    (hr : va_Run p l e R s m args below meth c H locs cells slots mc ms (F0 m pc A st0) rest (q_Qc E r1 a) (fun q => E.1 ≤ q)) (hlocs : ∀ x ∈ locs, E.1 ≤ x.base)
    (kk : q_mok E r1.2 → q_rk r1 → ∀ (H' : Heap) (locs' : List Loc), q_rel E r1.2 H' → (∀ x ∈ locs', E.1 ≤ x.base) → W p l e R s m args below meth c H' locs' (cells + mc) (slots + ms) Q (F0 m (pc + 3) A ((q_rv E r1.1).toList ++ rest))) : W p l e R s m args below meth c H locs cells slots Q (F0 m pc A st0) := by
  intro T hT X
  obtain ⟨v, st₀, t, T', L, h0, X', hL, e1, e2, ⟨hv, hq, hq2, hq3⟩, st⟩ := hr T hT X
  cases hv
  obtain ⟨t2, a1, b1⟩ := kk hq2 hq3 T'.heap (locs ++ L) (by rw [e1]; exact hq) (fun x hx => by
    rcases List.mem_append.mp hx with h | h
    · exact hlocs x h
    · exact hL x h) T' rfl X'
  exact ⟨t2, st t2 a1, b1⟩
/-- what a call's method must be: its row in the table of methods, and its depth -/
def q_ck4 (I : q_I) (M : Nat) (y : MethodName) (bytes : ByteArray) (maxL : Nat) (ret : Option FieldType) (d n : Nat) : Prop := ∃ dp, I M = (y, bytes, maxL, ret, dp) ∧ dp < d ∧ maxL ≤ 80 ∧ Cond.code y bytes maxL ret ∈ qG ∧ y.cls ≠ "java/lang/invoke/MethodHandle" ∧ y.cls ≠ "java/lang/invoke/VarHandle" ∧ (parseMethodDescriptor y.desc).map (fun d => d.parameters.length) = some n
theorem q_goodY {y : MethodName} {bytes : ByteArray} {maxL : Nat} {ret : Option FieldType} (h : Cond.code y bytes maxL ret ∈ qG) : GoodIn qG (Cond.code y bytes maxL ret :: qG) := fun w hw => by
  rcases List.mem_cons.mp hw with rfl | hw
  · exact qG_good _ h
  · exact qG_good _ hw
/-- the frame behind the call is good, the rest is the kit's row -/
theorem q_goC {p : Program} {e : Env} {R : Room} {s : State} {m : MethodId} {args : Array Value} {below : List Frame} {meth : Method} {c : Code} {Q : State → Prop} {s0 : q_M} {r r1 : q_V × q_M} {pc : Nat} {ls as st' : List q_V} {s1 : q_M} {M : Nat} {C : q_C} {st2 : List q_V} {dp maxL : Nat} {y : MethodName} {bytes : ByteArray} {ret : Option FieldType}
    (hc : q_cx E nL rt p R s m args meth c s0 r own cc nm d) (hI : I M = (y, bytes, maxL, ret, dp)) (hC : q_ch E l I C) (h1 : C M as s1 = some r1) (hK : q_S E l nL rt p e R s m args below meth c Q s0 r (pc + 3) ls st2 r1.2)
    (hst2' : (ret ≠ none ∧ st2 = r1.1 :: st') ∨ (ret = none ∧ st2 = st'))
    (hrun : Met l y (Cond.code y bytes maxL ret :: qG) (q_rm dp (r1.2.1.1 - s1.1.1).toNat) (q_Pc E as s1) (q_Qc E r1) (r1.2.1.1 - s1.1.1).toNat (10000 * (r1.2.1.1 - s1.1.1).toNat) (fun q => E.1 ≤ q) → ∀ (H : Heap) (locs : List Loc) (A : Array Slot), q_rel E s1 H → q_ls E nL ls A → q_mok E s1 → q_fk s1 ls (as.reverse ++ st') → (∀ U : State, U.heap = H → s.WarmedH U.vm → q_Pc E as s1 (as.map (q_cv E)).toArray U) → ∀ cells slots, cells + (r1.2.1.1 - s1.1.1).toNat ≤ R.cells ∧ slots + 10000 * (r1.2.1.1 - s1.1.1).toNat ≤ R.slots →
      va_Run p l e R s m args below meth c H locs cells slots (r1.2.1.1 - s1.1.1).toNat (10000 * (r1.2.1.1 - s1.1.1).toNat) (F0 m pc A ((as.reverse ++ st').map (q_cv E))) (st'.map (q_cv E)) (q_Qc E r1 (as.map (q_cv E)).toArray) (fun q => E.1 ≤ q)) :
    q_S E l nL rt p e R s m args below meth c Q s0 r pc ls (as.reverse ++ st') s1 := by
  obtain ⟨hx, hb, -, hml, hown, -, -, hts, henv, -, -, hfr, hlo, hce, hsl, -⟩ := hc
  obtain ⟨c1, c2⟩ := hC M as s1 r1 h1
  have hst2 : (r1.1.1 ≠ 9 ∧ st2 = r1.1 :: st') ∨ (r1.1.1 = 9 ∧ st2 = st') := by
    have c9 := c1.2
    rw [hI] at c9
    rcases hst2' with ⟨z, z2⟩ | ⟨z, z2⟩
    · exact Or.inl ⟨fun q => z (c9.mpr q), z2⟩
    · exact Or.inr ⟨c9.mp z, z2⟩
  refine ⟨⟨q_ext_tr c1.1 hK.1.1, hK.1.2⟩, fun hm hf h0 => ?_⟩
  have hfa : ∀ v ∈ as, q_vk s1 v := fun v hv => hf.2 v (List.mem_append_left _ (List.mem_reverse.mpr hv))
  have d3 := c2 hm hfa
  have hf2 : q_rk r1 → q_fk r1.2 ls st2 := by
    intro d2
    refine ⟨fun i hi => q_vk_ext c1.1 (hf.1 i hi), fun v hv => ?_⟩
    rcases hst2 with ⟨z, rfl⟩ | ⟨z, rfl⟩
    · rcases List.mem_cons.mp hv with rfl | hv
      · rcases d2 with d2 | d2
        · exact absurd d2 z
        · exact d2
      · exact q_vk_ext c1.1 (hf.2 v (List.mem_append_right _ hv))
    · exact q_vk_ext c1.1 (hf.2 v (List.mem_append_right _ hv))
  intro H locs A a1 a2 a3
  unfold q_met at d3
  rw [hI] at d3
  have hx1 := c1.1.1
  have hx2 := hK.1.1.1
  refine q_back (hrun d3 H locs A a1 a2 hm hf (fun U hU hW => ⟨rfl, by rw [hU]; exact a1, q_env_warm hW henv⟩) _ _ ⟨by omega, by omega⟩) a3 fun d1 d2 H' locs' b1 b2 => ?_
  have k1 := hK.2 d1 (hf2 d2) (Int.le_trans h0 c1.1.1) H' locs' A b1 a2 b2
  have e1 : (s1.1.1 - s0.1.1).toNat + (r1.2.1.1 - s1.1.1).toNat = (r1.2.1.1 - s0.1.1).toNat := by omega
  have e2 : 10000 * (s1.1.1 - s0.1.1).toNat + 10000 * (r1.2.1.1 - s1.1.1).toNat = 10000 * (r1.2.1.1 - s0.1.1).toNat := by omega
  rw [e1, e2]
  have e3 : (q_rv E r1.1).toList ++ st'.map (q_cv E) = st2.map (q_cv E) := by
    rcases hst2 with ⟨z, rfl⟩ | ⟨z, rfl⟩
    · unfold q_rv; rw [if_neg z]; rfl
    · unfold q_rv; rw [if_pos z]; rfl
  rw [e3]
  exact k1
end SK
