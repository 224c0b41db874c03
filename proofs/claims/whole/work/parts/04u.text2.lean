/-! the JDK's words -/
def q_jw : List Cond := [Cond.fieldLink RJ0 38 "java/lang/String" "COMPACT_STRINGS" "Z", Cond.fieldLink RJ0 15 "java/lang/String" "coder" "B", Cond.fieldLink RJ0 9 "java/lang/String" "value" "[B",
  Cond.methodLink RJ0 335 yJ0_coder_7d493, Cond.instanceMethod yJ0_coder_7d493, Cond.selects RJ0 yJ0_coder_7d493 yJ0_coder_7d493, Cond.initialized RJ0, Cond.code yJ0_coder_7d493 cJ0_coder_7d493 1 (some .byte),
  Cond.methodLink RJ0 492 yJ0_isLatin1_aae02, Cond.instanceMethod yJ0_isLatin1_aae02, Cond.selects RJ0 yJ0_isLatin1_aae02 yJ0_isLatin1_aae02, Cond.code yJ0_isLatin1_aae02 cJ0_isLatin1_aae02 1 (some .boolean),
  Cond.methodLink RJ0 495 yJ1_charAt_3b067, Cond.static yJ1_charAt_3b067, Cond.initialized RJ1, Cond.code yJ1_charAt_3b067 cJ1_charAt_3b067 2 (some .char),
  Cond.methodLink RJ1 9 yJ0_checkIndex_df160, Cond.static yJ0_checkIndex_df160, Cond.code yJ0_checkIndex_df160 cJ0_checkIndex_df160 2 none,
  Cond.fieldLink RJ0 1053 "jdk/internal/util/Preconditions" "SIOOBE_FORMATTER" "Ljava/util/function/BiFunction;", Cond.methodLink RJ0 1059 yJ3_checkIndex_8e157, Cond.static yJ3_checkIndex_8e157, Cond.initialized RJ3, Cond.code yJ3_checkIndex_8e157 cJ3_checkIndex_8e157 3 (some .int),
  Cond.code yJ0_length_8abf5 cJ0_length_8abf5 1 (some .int), Cond.code yJ0_charAt_5068e cJ0_charAt_5068e 2 (some .char), Cond.instanceMethod yJ0_length_8abf5, Cond.instanceMethod yJ0_charAt_5068e, Cond.selects RJ0 yJ0_length_8abf5 yJ0_length_8abf5, Cond.selects RJ0 yJ0_charAt_5068e yJ0_charAt_5068e]
def q_Qn : Array Value → State → Outcome → State → Prop := fun _ st o t => o = .returned none ∧ t.heap = st.heap
theorem q_jc {hc : ∀ w ∈ q_jw, w ∈ qG} : ∀ w ∈ [Cond.fieldLink RJ0 38 "java/lang/String" "COMPACT_STRINGS" "Z", Cond.fieldLink RJ0 15 "java/lang/String" "coder" "B"], w ∈ qG := fun w hw => hc w (by
  simp only [List.mem_cons, List.not_mem_nil, or_false] at hw
  rcases hw with rfl | rfl
  · exact List.mem_cons_self
  · exact List.mem_cons_of_mem _ List.mem_cons_self)
section JT2
variable {E : q_X}
set_option maxRecDepth 100000 in
theorem j_length (l : Launch)  (hc : ∀ w ∈ q_jw, w ∈ qG) : Met l yJ0_length_8abf5 (Cond.code yJ0_length_8abf5 cJ0_length_8abf5 1 (some .int) :: qG) (q_rm 1 0) (fun v U => v = #[.ref (E.2.2.1 (-4))] ∧ q_jh E U) (QcRead 56) 0 0 (fun _ => False) := by
  refine Met.ofW (cc := cJ0_length_8abf5) (maxL := 1) (ret := (some .int)) (by decide) rfl ?_
  intro p e s m args below meth c s₁ B hml hv
  obtain ⟨rfl, hj⟩ := hv
  have hx := B.exec
  have hb := B.bytes
  have hr := B.returns
  have hts0 := atoms_spec (ws := Cond.code yJ0_length_8abf5 cJ0_length_8abf5 1 (some .int) :: qG) B.pre
  have hts : ∀ w ∈ qG, w.before #[.ref (E.2.2.1 (-4))] s = true := fun w hw => hts0 w (List.mem_cons_of_mem _ hw)
  have hown : s.vm.findClass yJ0_length_8abf5.cls = some m.cls := findClass_of_methodNamed B.named
  have hlocks := B.notSynchronized
  have hl := lv_entry ([.ref (E.2.2.1 (-4))]) (n := 1) (Nat.le_of_ble_eq_true rfl)
  rw [lg_entry_eq]
  generalize (lg_sl ([.ref (E.2.2.1 (-4))]) ++ List.replicate (1 - (lg_sl ([.ref (E.2.2.1 (-4))])).length) Slot.unset).toArray = ls at hl ⊢
  have hl : lv_has ls 1 [(0, .ref (E.2.2.1 (-4)))] := hl
  obtain ⟨t1, t2, t3, t4, t5, t6, t7⟩ := id hj.2.2
  refine lv_aload_n hx hb (show decode cJ0_length_8abf5 0 = .ok (.aload_n 0, 1) by decide +kernel) rfl (lv_at hl 0 rfl) ?_
  refine vk_getf hx hb (t4.kept (q_jh_k hj)) va_S.rf hown (hts _ (hc _ (List.mem_of_getElem? (i := 2) rfl))) (fun _ h9 => h9) (show decode cJ0_length_8abf5 1 = .ok (.getfield 9, 3) by decide +kernel) ?_
  obtain ⟨cell, c1, c2, c3, c4, c5, c6, c7⟩ := t5.kept (q_jh_k hj)
  refine W.alen (n := 56) hx hb c1 c2 c5 rfl rfl (show decode cJ0_length_8abf5 4 = .ok (.arraylength, 1) by decide +kernel) ?_
  refine lv_aload_n hx hb (show decode cJ0_length_8abf5 5 = .ok (.aload_n 0, 1) by decide +kernel) rfl (lv_at hl 0 rfl) ?_
  refine W.callR (W.runV (As := []) (rest := [.int 56]) (C := RJ0) (Ts := qG) (own := RJ0) ⟨hx, hb, hml, hown, hts⟩ (j_coder (E := E) l (q_jc (hc := hc))) (cwV 0 hts (q_goodV (hc _ (List.mem_of_getElem? (i := 3) rfl)) (hc _ (List.mem_of_getElem? (i := 4) rfl)) (hc _ (List.mem_of_getElem? (i := 5) rfl)) (hc _ (List.mem_of_getElem? (i := 6) rfl)) (q_goodY (hc _ (List.mem_of_getElem? (i := 7) rfl)))) rfl rfl rfl (by decide +kernel) ⟨by show 2 * 0 + 4 + 1 ≤ 2 * 1 + 4; omega, by show 8 + (1 + 11) + (100 * 0 + 100) ≤ 100 * 1 + 100; omega⟩)
    ⟨q_jh_blind, by obtain ⟨cell, g1, g2, g3, -⟩ := t2.kept (q_jh_k hj); exact ⟨cell, g1, g2, g3⟩, fun U hU hW => ⟨rfl, by rw [hU]; exact hj.1, by rw [hU]; exact hj.2.1, q_envT_warm hW hj.2.2⟩⟩ rfl rfl hl.1 rfl (lv_room (by decide)) (show decode cJ0_length_8abf5 6 = .ok (.invokevirtual 335, 3) by decide +kernel) ⟨Nat.le_refl _, Nat.le_refl _⟩) ?_
  refine lv_ishr hx hb (show decode cJ0_length_8abf5 9 = .ok (.ishr, 1) by decide +kernel) ?_
  refine W.eq (g2 := F0 m 10 ls [.int 56]) (by
    have e0 : (56 : Int32) >>> ((0 : Int32) &&& 31) = 56 := by decide +kernel
    show F0 m 10 ls [.int ((56 : Int32) >>> ((0 : Int32) &&& 31))] = _
    rw [e0]) ?_
  exact W.iret hx hb hr (fun t ht _ => ⟨rfl, ht⟩) (by simp) (show decode cJ0_length_8abf5 10 = .ok (.ireturn, 1) by decide +kernel)
set_option maxRecDepth 100000 in
theorem j_check0 (l : Launch) (i n : Int32) (h0 : ¬ i < 0) (h1 : i < n) (hc : ∀ w ∈ q_jw, w ∈ qG) : Met l yJ0_checkIndex_df160 (Cond.code yJ0_checkIndex_df160 cJ0_checkIndex_df160 2 none :: qG) (q_rm 1 0) (fun v U => v = #[.int i, .int n] ∧ q_jh E U) (q_Qn) 0 0 (fun _ => False) := by
  refine Met.ofW (cc := cJ0_checkIndex_df160) (maxL := 2) (ret := none) (by decide) rfl ?_
  intro p e s m args below meth c s₁ B hml hv
  obtain ⟨rfl, hj⟩ := hv
  have hx := B.exec
  have hb := B.bytes
  have hr := B.returns
  have hts0 := atoms_spec (ws := Cond.code yJ0_checkIndex_df160 cJ0_checkIndex_df160 2 none :: qG) B.pre
  have hts : ∀ w ∈ qG, w.before #[.int i, .int n] s = true := fun w hw => hts0 w (List.mem_cons_of_mem _ hw)
  have hown : s.vm.findClass yJ0_checkIndex_df160.cls = some m.cls := findClass_of_methodNamed B.named
  have hlocks := B.notSynchronized
  have hl := lv_entry ([.int i, .int n]) (n := 2) (Nat.le_of_ble_eq_true rfl)
  rw [lg_entry_eq]
  generalize (lg_sl ([.int i, .int n]) ++ List.replicate (2 - (lg_sl ([.int i, .int n])).length) Slot.unset).toArray = ls at hl ⊢
  have hl : lv_has ls 2 [(0, .int i), (1, .int n)] := hl
  obtain ⟨t1, t2, t3, t4, t5, t6, t7⟩ := id hj.2.2
  refine lv_iload_n hx hb (show decode cJ0_checkIndex_df160 0 = .ok (.iload_n 0, 1) by decide +kernel) rfl (lv_at hl 0 rfl) ?_
  refine lv_iload_n hx hb (show decode cJ0_checkIndex_df160 1 = .ok (.iload_n 1, 1) by decide +kernel) rfl (lv_at hl 1 rfl) ?_
  rcases t7.kept (q_jh_k hj) with h7 | ⟨w, h7⟩
  · skip
    refine va_gets hx hb h7 va_S.rf hown (hts _ (hc _ (List.mem_of_getElem? (i := 19) rfl))) (fun _ h9 => h9) (show decode cJ0_checkIndex_df160 2 = .ok (.getstatic 1053, 3) by decide +kernel) ?_
    refine W.callR (W.runS (As := [.int i, .int n, .null]) (rest := []) (Ts := qG) (own := RJ0) ⟨hx, hb, hml, hown, hts⟩ (j_check3 (E := E) l i n .null rfl h0 h1) ⟨callB_of 3 hts (q_goodY (hc _ (List.mem_of_getElem? (i := 23) rfl))) rfl rfl rfl (hts _ (hc _ (List.mem_of_getElem? (i := 22) rfl))) (hts _ (hc _ (List.mem_of_getElem? (i := 20) rfl))) (by decide +kernel) ⟨by show 2 * 0 + 4 + 1 ≤ 2 * 1 + 4; omega, by show 8 + (3 + 11) + (100 * 0 + 100) ≤ 100 * 1 + 100; omega⟩, (hts _ (hc _ (List.mem_of_getElem? (i := 21) rfl)))⟩
      ⟨q_jh_blind, fun U hU hW => ⟨rfl, by rw [hU]; exact hj.1, by rw [hU]; exact hj.2.1, q_envT_warm hW hj.2.2⟩⟩ rfl rfl hl.1 rfl (lv_room (by decide)) (show decode cJ0_checkIndex_df160 5 = .ok (.invokestatic 1059, 3) by decide +kernel) ⟨Nat.le_refl _, Nat.le_refl _⟩) ?_
    refine lv_pop hx hb (show decode cJ0_checkIndex_df160 8 = .ok (.pop, 1) by decide +kernel) rfl ?_
    exact W.vret hx hb hr (fun t ht _ => ⟨rfl, ht⟩) (by simp) (show decode cJ0_checkIndex_df160 9 = .ok (.return_, 1) by decide +kernel)
  · skip
    refine va_gets hx hb h7 va_S.rf hown (hts _ (hc _ (List.mem_of_getElem? (i := 19) rfl))) (fun _ h9 => h9) (show decode cJ0_checkIndex_df160 2 = .ok (.getstatic 1053, 3) by decide +kernel) ?_
    refine W.callR (W.runS (As := [.int i, .int n, (.ref w)]) (rest := []) (Ts := qG) (own := RJ0) ⟨hx, hb, hml, hown, hts⟩ (j_check3 (E := E) l i n (.ref w) rfl h0 h1) ⟨callB_of 3 hts (q_goodY (hc _ (List.mem_of_getElem? (i := 23) rfl))) rfl rfl rfl (hts _ (hc _ (List.mem_of_getElem? (i := 22) rfl))) (hts _ (hc _ (List.mem_of_getElem? (i := 20) rfl))) (by decide +kernel) ⟨by show 2 * 0 + 4 + 1 ≤ 2 * 1 + 4; omega, by show 8 + (3 + 11) + (100 * 0 + 100) ≤ 100 * 1 + 100; omega⟩, (hts _ (hc _ (List.mem_of_getElem? (i := 21) rfl)))⟩
      ⟨q_jh_blind, fun U hU hW => ⟨rfl, by rw [hU]; exact hj.1, by rw [hU]; exact hj.2.1, q_envT_warm hW hj.2.2⟩⟩ rfl rfl hl.1 rfl (lv_room (by decide)) (show decode cJ0_checkIndex_df160 5 = .ok (.invokestatic 1059, 3) by decide +kernel) ⟨Nat.le_refl _, Nat.le_refl _⟩) ?_
    refine lv_pop hx hb (show decode cJ0_checkIndex_df160 8 = .ok (.pop, 1) by decide +kernel) rfl ?_
    exact W.vret hx hb hr (fun t ht _ => ⟨rfl, ht⟩) (by simp) (show decode cJ0_checkIndex_df160 9 = .ok (.return_, 1) by decide +kernel)
theorem q_tb_c : ∀ k, k < 56 → (((q_tb8.getD k 0) &&& 255).toUInt32 % 65536).toInt32 = q_tb8.getD k 0 ∧ narrow .char (.int (q_tb8.getD k 0)) = .int (q_tb8.getD k 0) := by decide +kernel
set_option maxRecDepth 100000 in
theorem j_charAt1 (l : Launch) (k : Nat) (hk : k < 56) (hc : ∀ w ∈ q_jw, w ∈ qG) : Met l yJ1_charAt_3b067 (Cond.code yJ1_charAt_3b067 cJ1_charAt_3b067 2 (some .char) :: qG) (q_rm 2 0) (fun v U => v = #[.ref (E.2.2.1 (-3)), .int (nI k)] ∧ q_jh E U) (QcRead (q_tb8.getD k 0)) 0 0 (fun _ => False) := by
  refine Met.ofW (cc := cJ1_charAt_3b067) (maxL := 2) (ret := (some .char)) (by decide) rfl ?_
  intro p e s m args below meth c s₁ B hml hv
  obtain ⟨rfl, hj⟩ := hv
  have hx := B.exec
  have hb := B.bytes
  have hr := B.returns
  have hts0 := atoms_spec (ws := Cond.code yJ1_charAt_3b067 cJ1_charAt_3b067 2 (some .char) :: qG) B.pre
  have hts : ∀ w ∈ qG, w.before #[.ref (E.2.2.1 (-3)), .int (nI k)] s = true := fun w hw => hts0 w (List.mem_cons_of_mem _ hw)
  have hown : s.vm.findClass yJ1_charAt_3b067.cls = some m.cls := findClass_of_methodNamed B.named
  have hlocks := B.notSynchronized
  have hl := lv_entry ([.ref (E.2.2.1 (-3)), .int (nI k)]) (n := 2) (Nat.le_of_ble_eq_true rfl)
  rw [lg_entry_eq]
  generalize (lg_sl ([.ref (E.2.2.1 (-3)), .int (nI k)]) ++ List.replicate (2 - (lg_sl ([.ref (E.2.2.1 (-3)), .int (nI k)])).length) Slot.unset).toArray = ls at hl ⊢
  have hl : lv_has ls 2 [(0, .ref (E.2.2.1 (-3))), (1, .int (nI k))] := hl
  obtain ⟨t1, t2, t3, t4, t5, t6, t7⟩ := id hj.2.2
  refine lv_iload_n hx hb (show decode cJ1_charAt_3b067 0 = .ok (.iload_n 1, 1) by decide +kernel) rfl (lv_at hl 1 rfl) ?_
  refine lv_aload_n hx hb (show decode cJ1_charAt_3b067 1 = .ok (.aload_n 0, 1) by decide +kernel) rfl (lv_at hl 0 rfl) ?_
  obtain ⟨cell, c1, c2, c3, c4, c5, c6, c7⟩ := t5.kept (q_jh_k hj)
  refine W.alen (n := 56) hx hb c1 c2 c5 rfl rfl (show decode cJ1_charAt_3b067 2 = .ok (.arraylength, 1) by decide +kernel) ?_
  refine W.callX (free := fun _ => False) (W.runS (As := [.int (nI k), .int 56]) (rest := []) (Ts := qG) (own := RJ1) ⟨hx, hb, hml, hown, hts⟩ (j_check0 (E := E) l (nI k) 56 (nI_pos (by omega)) (nI_lt hk (by decide)) hc) ⟨callB_of 2 hts (q_goodY (hc _ (List.mem_of_getElem? (i := 18) rfl))) rfl rfl rfl (hts _ (hc _ (List.mem_of_getElem? (i := 6) rfl))) (hts _ (hc _ (List.mem_of_getElem? (i := 16) rfl))) (by decide +kernel) ⟨by show 2 * 1 + 4 + 1 ≤ 2 * 2 + 4; omega, by show 8 + (2 + 11) + (100 * 1 + 100) ≤ 100 * 2 + 100; omega⟩, (hts _ (hc _ (List.mem_of_getElem? (i := 17) rfl)))⟩
      ⟨q_jh_blind, fun U hU hW => ⟨rfl, by rw [hU]; exact hj.1, by rw [hU]; exact hj.2.1, q_envT_warm hW hj.2.2⟩⟩ rfl rfl hl.1 rfl (lv_room (by decide)) (show decode cJ1_charAt_3b067 3 = .ok (.invokestatic 9, 3) by decide +kernel) ⟨Nat.le_refl _, Nat.le_refl _⟩) (fun _ h => h.elim) fun v st₀ t0 e0 hq => ?_
  obtain ⟨hv9, hh9⟩ := hq
  cases hv9
  rw [hh9, e0]
  refine W.eq (g2 := F0 m 6 ls []) rfl ?_
  refine lv_aload_n hx hb (show decode cJ1_charAt_3b067 6 = .ok (.aload_n 0, 1) by decide +kernel) rfl (lv_at hl 0 rfl) ?_
  refine lv_iload_n hx hb (show decode cJ1_charAt_3b067 7 = .ok (.iload_n 1, 1) by decide +kernel) rfl (lv_at hl 1 rfl) ?_
  have hck : (nI k).toNatClampNeg = k := nI_clamp (by omega)
  refine W.bald (v := .int (q_tb8.getD k 0)) hx hb c1 c2 c3 ?_ (by rw [hck]; exact c6 k hk) rfl rfl (show decode cJ1_charAt_3b067 8 = .ok (.baload, 1) by decide +kernel) ?_
  · rw [hck]
    intro z
    rcases z with z | z
    · exact nI_pos (by omega) z
    · omega
  refine lv_sipush (v := 255) hx hb (show decode cJ1_charAt_3b067 9 = .ok (.sipush 255, 3) by decide +kernel) (by decide) ?_
  refine lv_iand hx hb (show decode cJ1_charAt_3b067 12 = .ok (.iand, 1) by decide +kernel) ?_
  refine lv_i2c (v := q_tb8.getD k 0) hx hb (show decode cJ1_charAt_3b067 13 = .ok (.i2c, 1) by decide +kernel) (q_tb_c k hk).1 ?_
  exact W.zret (ty := .char) hx hb hr (q_tb_c k hk).2 (fun t ht _ => ⟨rfl, ht⟩) (by simp) (show decode cJ1_charAt_3b067 14 = .ok (.ireturn, 1) by decide +kernel)
set_option maxRecDepth 100000 in
theorem j_charAt (l : Launch) (k : Nat) (hk : k < 56) (hc : ∀ w ∈ q_jw, w ∈ qG) : Met l yJ0_charAt_5068e (Cond.code yJ0_charAt_5068e cJ0_charAt_5068e 2 (some .char) :: qG) (q_rm 3 0) (fun v U => v = #[.ref (E.2.2.1 (-4)), .int (nI k)] ∧ q_jh E U) (QcRead (q_tb8.getD k 0)) 0 0 (fun _ => False) := by
  refine Met.ofW (cc := cJ0_charAt_5068e) (maxL := 2) (ret := (some .char)) (by decide) rfl ?_
  intro p e s m args below meth c s₁ B hml hv
  obtain ⟨rfl, hj⟩ := hv
  have hx := B.exec
  have hb := B.bytes
  have hr := B.returns
  have hts0 := atoms_spec (ws := Cond.code yJ0_charAt_5068e cJ0_charAt_5068e 2 (some .char) :: qG) B.pre
  have hts : ∀ w ∈ qG, w.before #[.ref (E.2.2.1 (-4)), .int (nI k)] s = true := fun w hw => hts0 w (List.mem_cons_of_mem _ hw)
  have hown : s.vm.findClass yJ0_charAt_5068e.cls = some m.cls := findClass_of_methodNamed B.named
  have hlocks := B.notSynchronized
  have hl := lv_entry ([.ref (E.2.2.1 (-4)), .int (nI k)]) (n := 2) (Nat.le_of_ble_eq_true rfl)
  rw [lg_entry_eq]
  generalize (lg_sl ([.ref (E.2.2.1 (-4)), .int (nI k)]) ++ List.replicate (2 - (lg_sl ([.ref (E.2.2.1 (-4)), .int (nI k)])).length) Slot.unset).toArray = ls at hl ⊢
  have hl : lv_has ls 2 [(0, .ref (E.2.2.1 (-4))), (1, .int (nI k))] := hl
  obtain ⟨t1, t2, t3, t4, t5, t6, t7⟩ := id hj.2.2
  refine lv_aload_n hx hb (show decode cJ0_charAt_5068e 0 = .ok (.aload_n 0, 1) by decide +kernel) rfl (lv_at hl 0 rfl) ?_
  refine W.callR (W.runV (As := []) (rest := []) (C := RJ0) (Ts := qG) (own := RJ0) ⟨hx, hb, hml, hown, hts⟩ (j_isLatin1 (E := E) l (q_jc (hc := hc))) (cwV 0 hts (q_goodV (hc _ (List.mem_of_getElem? (i := 8) rfl)) (hc _ (List.mem_of_getElem? (i := 9) rfl)) (hc _ (List.mem_of_getElem? (i := 10) rfl)) (hc _ (List.mem_of_getElem? (i := 6) rfl)) (q_goodY (hc _ (List.mem_of_getElem? (i := 11) rfl)))) rfl rfl rfl (by decide +kernel) ⟨by show 2 * 0 + 4 + 1 ≤ 2 * 3 + 4; omega, by show 8 + (1 + 11) + (100 * 0 + 100) ≤ 100 * 3 + 100; omega⟩)
    ⟨q_jh_blind, by obtain ⟨cell, g1, g2, g3, -⟩ := t2.kept (q_jh_k hj); exact ⟨cell, g1, g2, g3⟩, fun U hU hW => ⟨rfl, by rw [hU]; exact hj.1, by rw [hU]; exact hj.2.1, q_envT_warm hW hj.2.2⟩⟩ rfl rfl hl.1 rfl (lv_room (by decide)) (show decode cJ0_charAt_5068e 1 = .ok (.invokevirtual 492, 3) by decide +kernel) ⟨Nat.le_refl _, Nat.le_refl _⟩) ?_
  refine W.eq (g2 := F0 m 4 ls [.int 1]) rfl ?_
  refine lv_if_eq (tgt := 16) hx hb (show decode cJ0_charAt_5068e 4 = .ok (.ifCond .eq 12, 3) by decide +kernel) (by decide) (fun z => absurd z (by decide)) (fun _ => ?_)
  refine lv_aload_n hx hb (show decode cJ0_charAt_5068e 7 = .ok (.aload_n 0, 1) by decide +kernel) rfl (lv_at hl 0 rfl) ?_
  refine vk_getf hx hb (t4.kept (q_jh_k hj)) va_S.rf hown (hts _ (hc _ (List.mem_of_getElem? (i := 2) rfl))) (fun _ h9 => h9) (show decode cJ0_charAt_5068e 8 = .ok (.getfield 9, 3) by decide +kernel) ?_
  refine lv_iload_n hx hb (show decode cJ0_charAt_5068e 11 = .ok (.iload_n 1, 1) by decide +kernel) rfl (lv_at hl 1 rfl) ?_
  refine W.callR (W.runS (As := [.ref (E.2.2.1 (-3)), .int (nI k)]) (rest := []) (Ts := qG) (own := RJ0) ⟨hx, hb, hml, hown, hts⟩ (j_charAt1 (E := E) l k hk hc) ⟨callB_of 2 hts (q_goodY (hc _ (List.mem_of_getElem? (i := 15) rfl))) rfl rfl rfl (hts _ (hc _ (List.mem_of_getElem? (i := 14) rfl))) (hts _ (hc _ (List.mem_of_getElem? (i := 12) rfl))) (by decide +kernel) ⟨by show 2 * 2 + 4 + 1 ≤ 2 * 3 + 4; omega, by show 8 + (2 + 11) + (100 * 2 + 100) ≤ 100 * 3 + 100; omega⟩, (hts _ (hc _ (List.mem_of_getElem? (i := 13) rfl)))⟩
      ⟨q_jh_blind, fun U hU hW => ⟨rfl, by rw [hU]; exact hj.1, by rw [hU]; exact hj.2.1, q_envT_warm hW hj.2.2⟩⟩ rfl rfl hl.1 rfl (lv_room (by decide)) (show decode cJ0_charAt_5068e 12 = .ok (.invokestatic 495, 3) by decide +kernel) ⟨Nat.le_refl _, Nat.le_refl _⟩) ?_
  exact W.zret (ty := .char) hx hb hr (q_tb_c k hk).2 (fun t ht _ => ⟨rfl, ht⟩) (by simp) (show decode cJ0_charAt_5068e 15 = .ok (.ireturn, 1) by decide +kernel)
end JT2
