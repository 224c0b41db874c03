/-! the JDK's length() and charAt(k) on the one text -/
def q_jh (E : q_X) (U : State) : Prop := (∀ q : Nat, q < E.1 → U.heap[q]? = E.2.1[q]?) ∧ E.1 ≤ U.heap.size ∧ q_envT E U
theorem q_jh_blind {E : q_X} {as : Array Value} : FrameBlind (fun v U => v = as ∧ q_jh E U) := fun a U g mk q => ⟨q.1, q.2.1, q.2.2.1, q_envT_vm rfl q.2.2.2⟩
theorem q_jh_S {E : q_X} {U : State} (h : q_jh E U) : va_S (fun q => E.1 ≤ q) U.heap U.heap [] := va_S.rf
theorem q_jh_k {E : q_X} {U : State} (h : q_jh E U) : ∀ a : Nat, a < E.2.1.size → ¬ (fun q => E.1 ≤ q) a → U.heap[a]? = E.2.1[a]? := fun a _ h2 => h.1 a (Nat.not_le.mp h2)
section JT
variable {E : q_X}
set_option maxRecDepth 100000 in
theorem j_coder (l : Launch) (hc : ∀ w ∈ [Cond.fieldLink RJ0 38 "java/lang/String" "COMPACT_STRINGS" "Z", Cond.fieldLink RJ0 15 "java/lang/String" "coder" "B"], w ∈ qG) : Met l yJ0_coder_7d493 (Cond.code yJ0_coder_7d493 cJ0_coder_7d493 1 (some .byte) :: qG) (q_rm 0 0) (fun v U => v = #[.ref (E.2.2.1 (-4))] ∧ q_jh E U) (QcRead 0) 0 0 (fun _ => False) := by
  refine Met.ofW (cc := cJ0_coder_7d493) (maxL := 1) (ret := some .byte) (by decide) rfl ?_
  intro p e s m args below meth c s₁ B hml hv
  obtain ⟨rfl, hj⟩ := hv
  have hx := B.exec
  have hb := B.bytes
  have hr := B.returns
  have hts := atoms_spec (ws := Cond.code yJ0_coder_7d493 cJ0_coder_7d493 1 (some .byte) :: qG) B.pre
  have hown : s.vm.findClass RJ0 = some m.cls := findClass_of_methodNamed B.named
  have hlocks := B.notSynchronized
  have hl := lv_entry ([.ref (E.2.2.1 (-4))]) (n := 1) (Nat.le_of_ble_eq_true rfl)
  rw [lg_entry_eq]
  generalize (lg_sl ([.ref (E.2.2.1 (-4))]) ++ List.replicate (1 - (lg_sl ([.ref (E.2.2.1 (-4))])).length) Slot.unset).toArray = ls at hl ⊢
  have hl : lv_has ls 1 [(0, .ref (E.2.2.1 (-4)))] := hl
  obtain ⟨t1, t2, t3, t4, t5, t6, t7⟩ := id hj.2.2
  refine va_gets hx hb (t6.kept (q_jh_k hj)) va_S.rf hown (hts _ (List.mem_cons_of_mem _ (hc _ (by simp)))) (fun _ h9 => h9) (show decode cJ0_coder_7d493 0 = .ok (.getstatic 38, 3) by decide +kernel) ?_
  refine lv_if_eq (tgt := 13) hx hb (show decode cJ0_coder_7d493 3 = .ok (.ifCond .eq 10, 3) by decide +kernel) (by decide) (fun z => absurd z (by decide)) (fun _ => ?_)
  refine lv_aload_n hx hb (show decode cJ0_coder_7d493 6 = .ok (.aload_n 0, 1) by decide +kernel) rfl (lv_at hl 0 rfl) ?_
  refine vk_getf hx hb (t3.kept (q_jh_k hj)) va_S.rf hown (hts _ (List.mem_cons_of_mem _ (hc _ (by simp)))) (fun _ h9 => h9) (show decode cJ0_coder_7d493 7 = .ok (.getfield 15, 3) by decide +kernel) ?_
  refine lv_goto (tgt := 14) hx hb (show decode cJ0_coder_7d493 10 = .ok (.goto 4, 3) by decide +kernel) (by decide) ?_
  exact W.zret (ty := .byte) hx hb hr (by decide +kernel) (fun t ht _ => ⟨rfl, ht⟩) (by simp) (show decode cJ0_coder_7d493 14 = .ok (.ireturn, 1) by decide +kernel)
set_option maxRecDepth 100000 in
theorem j_isLatin1 (l : Launch) (hc : ∀ w ∈ [Cond.fieldLink RJ0 38 "java/lang/String" "COMPACT_STRINGS" "Z", Cond.fieldLink RJ0 15 "java/lang/String" "coder" "B"], w ∈ qG) : Met l yJ0_isLatin1_aae02 (Cond.code yJ0_isLatin1_aae02 cJ0_isLatin1_aae02 1 (some .boolean) :: qG) (q_rm 0 0) (fun v U => v = #[.ref (E.2.2.1 (-4))] ∧ q_jh E U) (QcRead 1) 0 0 (fun _ => False) := by
  refine Met.ofW (cc := cJ0_isLatin1_aae02) (maxL := 1) (ret := some .boolean) (by decide) rfl ?_
  intro p e s m args below meth c s₁ B hml hv
  obtain ⟨rfl, hj⟩ := hv
  have hx := B.exec
  have hb := B.bytes
  have hr := B.returns
  have hts := atoms_spec (ws := Cond.code yJ0_isLatin1_aae02 cJ0_isLatin1_aae02 1 (some .boolean) :: qG) B.pre
  have hown : s.vm.findClass RJ0 = some m.cls := findClass_of_methodNamed B.named
  have hlocks := B.notSynchronized
  have hl := lv_entry ([.ref (E.2.2.1 (-4))]) (n := 1) (Nat.le_of_ble_eq_true rfl)
  rw [lg_entry_eq]
  generalize (lg_sl ([.ref (E.2.2.1 (-4))]) ++ List.replicate (1 - (lg_sl ([.ref (E.2.2.1 (-4))])).length) Slot.unset).toArray = ls at hl ⊢
  have hl : lv_has ls 1 [(0, .ref (E.2.2.1 (-4)))] := hl
  obtain ⟨t1, t2, t3, t4, t5, t6, t7⟩ := id hj.2.2
  refine va_gets hx hb (t6.kept (q_jh_k hj)) va_S.rf hown (hts _ (List.mem_cons_of_mem _ (hc _ (by simp)))) (fun _ h9 => h9) (show decode cJ0_isLatin1_aae02 0 = .ok (.getstatic 38, 3) by decide +kernel) ?_
  refine lv_if_eq (tgt := 17) hx hb (show decode cJ0_isLatin1_aae02 3 = .ok (.ifCond .eq 14, 3) by decide +kernel) (by decide) (fun z => absurd z (by decide)) (fun _ => ?_)
  refine lv_aload_n hx hb (show decode cJ0_isLatin1_aae02 6 = .ok (.aload_n 0, 1) by decide +kernel) rfl (lv_at hl 0 rfl) ?_
  refine vk_getf hx hb (t3.kept (q_jh_k hj)) va_S.rf hown (hts _ (List.mem_cons_of_mem _ (hc _ (by simp)))) (fun _ h9 => h9) (show decode cJ0_isLatin1_aae02 7 = .ok (.getfield 15, 3) by decide +kernel) ?_
  refine lv_if_ne (tgt := 17) hx hb (show decode cJ0_isLatin1_aae02 10 = .ok (.ifCond .ne 7, 3) by decide +kernel) (by decide) (fun z => absurd rfl z) (fun _ => ?_)
  refine lv_iconst (v := 1) hx hb (show decode cJ0_isLatin1_aae02 13 = .ok (.iconst 1, 1) by decide +kernel) (by decide) ?_
  refine lv_goto (tgt := 18) hx hb (show decode cJ0_isLatin1_aae02 14 = .ok (.goto 4, 3) by decide +kernel) (by decide) ?_
  exact W.zret (ty := .boolean) hx hb hr (by decide +kernel) (fun t ht _ => ⟨rfl, ht⟩) (by simp) (show decode cJ0_isLatin1_aae02 18 = .ok (.ireturn, 1) by decide +kernel)
set_option maxRecDepth 100000 in
theorem j_check3 (l : Launch) (i n : Int32) (w : Value) (hw : w.category = 1) (h0 : ¬ i < 0) (h1 : i < n) : Met l yJ3_checkIndex_8e157 (Cond.code yJ3_checkIndex_8e157 cJ3_checkIndex_8e157 3 (some .int) :: qG) (q_rm 0 0) (fun v U => v = #[.int i, .int n, w] ∧ q_jh E U) (QcRead i) 0 0 (fun _ => False) := by
  refine Met.ofW (cc := cJ3_checkIndex_8e157) (maxL := 3) (ret := some .int) (by decide) rfl ?_
  intro p e s m args below meth c s₁ B hml hv
  obtain ⟨rfl, hj⟩ := hv
  have hx := B.exec
  have hb := B.bytes
  have hr := B.returns
  have hlocks := B.notSynchronized
  have hlen : (lg_sl ([.int i, .int n, w])).length ≤ 3 := by cases w <;> first | exact Nat.le_of_ble_eq_true rfl | (simp [Value.category] at hw)
  have hl := lv_entry ([.int i, .int n, w]) (n := 3) hlen
  rw [lg_entry_eq]
  generalize (lg_sl ([.int i, .int n, w]) ++ List.replicate (3 - (lg_sl ([.int i, .int n, w])).length) Slot.unset).toArray = ls at hl ⊢
  have hl : lv_has ls 3 [(0, .int i), (1, .int n)] := ⟨hl.1, hl.2.1, fun q hq => hl.2.2 q (by
    simp only [List.mem_cons, List.not_mem_nil, or_false] at hq
    rcases hq with rfl | rfl
    · exact List.mem_cons_self
    · exact List.mem_cons_of_mem _ List.mem_cons_self)⟩
  refine lv_iload_n hx hb (show decode cJ3_checkIndex_8e157 0 = .ok (.iload_n 0, 1) by decide +kernel) rfl (lv_at hl 0 rfl) ?_
  refine lv_if_lt (tgt := 9) hx hb (show decode cJ3_checkIndex_8e157 1 = .ok (.ifCond .lt 8, 3) by decide +kernel) (by decide) (fun z => absurd z h0) (fun _ => ?_)
  refine lv_iload_n hx hb (show decode cJ3_checkIndex_8e157 4 = .ok (.iload_n 0, 1) by decide +kernel) rfl (lv_at hl 0 rfl) ?_
  refine lv_iload_n hx hb (show decode cJ3_checkIndex_8e157 5 = .ok (.iload_n 1, 1) by decide +kernel) rfl (lv_at hl 1 rfl) ?_
  refine lv_icmp_lt (tgt := 16) hx hb (show decode cJ3_checkIndex_8e157 6 = .ok (.if_icmp .lt 10, 3) by decide +kernel) (by decide) (fun _ => ?_) (fun z => absurd h1 z)
  refine lv_iload_n hx hb (show decode cJ3_checkIndex_8e157 16 = .ok (.iload_n 0, 1) by decide +kernel) rfl (lv_at hl 0 rfl) ?_
  exact W.iret hx hb hr (fun t ht _ => ⟨rfl, ht⟩) (by simp) (show decode cJ3_checkIndex_8e157 17 = .ok (.ireturn, 1) by decide +kernel)
end JT
