section SM
variable {E : q_X} {l : Launch} {I : q_I} {own : String} {cc : ByteArray} {nL : Nat} {rt : Option FieldType} {nm : String} {d : Nat}
theorem q_ext_mk (s : q_M) (t : Nat) (len : Int) (z : Int → Int) : q_ext s (q_mk s t len z) := by
  refine ⟨?_, fun k hk => ?_⟩
  · show s.1.1 ≤ s.1.1 + 1
    omega
  · exact if_neg (by omega)
theorem q_mk_old (s : q_M) (t : Nat) (len : Int) (z : Int → Int) {a : Int} (ha : a ≠ s.1.1) : (q_mk s t len z).2 a = s.2 a := by
  funext b
  exact if_neg ha
theorem q_mk_sh (s : q_M) (t : Nat) (len : Int) (z : Int → Int) {a : Int} (ha : a ≠ s.1.1) : (q_mk s t len z).1.2 a = s.1.2 a := if_neg ha
theorem q_mk_new (s : q_M) (t : Nat) (len : Int) (z : Int → Int) : (q_mk s t len z).2 s.1.1 = z := by
  funext b
  exact if_pos rfl
theorem q_mk_nsh (s : q_M) (t : Nat) (len : Int) (z : Int → Int) : (q_mk s t len z).1.2 s.1.1 = (t, len) := if_pos rfl
theorem q_ck_ext {s t : q_M} (h : q_ext s t) {k : Int} (hk : q_ck s k) (e1 : t.1.2 k = s.1.2 k) (e2 : t.2 k = s.2 k) : q_ck t k := by
  unfold q_ck at hk ⊢
  rw [e1, e2]
  rcases hk with ⟨b1, b2, b3, b4, b5, b6⟩ | ⟨b1, b2, b3⟩
  · exact Or.inl ⟨b1, b2, b3, b4, b5, fun j j0 j1 => q_sk_ext h (b6 j j0 j1)⟩
  · exact Or.inr ⟨b1, b2, fun j u hu => q_sk_ext h (b3 j u hu)⟩
theorem q_old_ext {s t : q_M} {k : Int} (ho : q_old E s k) (e1 : t.1.2 k = s.1.2 k) (e2 : t.2 k = s.2 k) : q_old E t k := by
  unfold q_old at ho ⊢
  rw [e1, e2]
  exact ho
theorem q_mok_mk {s : q_M} {t : Nat} {len : Int} {z : Int → Int} (hm : q_mok E s) (hn : q_ck (q_mk s t len z) s.1.1) : q_mok E (q_mk s t len z) := by
  obtain ⟨m1, m2, m3, m4, m5⟩ := hm
  refine ⟨?_, fun k k0 k1 => ?_, q_old_ext m3 (q_mk_sh _ _ _ _ (by omega)) (q_mk_old _ _ _ _ (by omega)), q_old_ext m4 (q_mk_sh _ _ _ _ (by omega)) (q_mk_old _ _ _ _ (by omega)), ?_⟩
  · show 0 ≤ s.1.1 + 1
    omega
  · by_cases e : k = s.1.1
    · rw [e]; exact hn
    · have k2 : k < s.1.1 + 1 := k1
      exact q_ck_ext (q_ext_mk s t len z) (m2 k k0 (by omega)) (q_mk_sh _ _ _ _ e) (q_mk_old _ _ _ _ e)
  · rw [q_mk_sh _ _ _ _ (by omega)]; exact m5
theorem q_ws_mk {s : q_M} {t : Nat} {len : Int} {z : Int → Int} (h0 : 0 ≤ s.1.1) : q_ws E (q_mk s t len z) = q_ws E s ++ [(E.1 + s.1.1.toNat, q_en E (t, len) z)] := by
  unfold q_ws
  have e : (q_mk s t len z).1.1.toNat = s.1.1.toNat + 1 := by
    show (s.1.1 + 1).toNat = _
    omega
  rw [e, List.range_succ, List.map_append]
  congr 1
  · apply List.map_congr_left
    intro k hk
    have hk2 := List.mem_range.mp hk
    rw [q_mk_sh s t len z (show (k : Int) ≠ s.1.1 by omega), q_mk_old s t len z (show (k : Int) ≠ s.1.1 by omega)]
  · have e2 : ((s.1.1.toNat : Nat) : Int) = s.1.1 := by omega
    simp only [List.map_cons, List.map_nil, e2]
    rw [q_mk_nsh, q_mk_new]
theorem q_rel_mk {s : q_M} {t : Nat} {len : Int} {z : Int → Int} {H H' : Heap} (hrel : q_rel E s H) (h0 : 0 ≤ s.1.1) (hz : H'.size = H.size + 1) (ho : ∀ q : Nat, q < H.size → H'[q]? = H[q]?)
    (hat : va_at E.2.2.2.1 vwCl (H.size, q_en E (t, len) z) H') : q_rel E (q_mk s t len z) H' := by
  refine ⟨?_, fun q hq => ?_, ?_⟩
  · rw [hz, hrel.1]
    show _ = E.1 + (s.1.1 + 1).toNat
    omega
  · rw [ho q (by rw [hrel.1]; omega)]
    exact hrel.2.1 q hq
  · rw [q_ws_mk h0]
    refine (hrel.2.2.kept (fun k x hx => ho x.1 (hrel.2.2 k x hx).lt)).app (fun k x hx => ?_)
    have hz : k < 1 := (List.getElem?_eq_some_iff.mp hx).1
    rw [show k = 0 by omega] at hx
    cases hx
    rw [← hrel.1]
    exact hat
/-- there is room for one more cell -/
theorem q_room {R : Room} {s0 s1 s2 : q_M} {r : q_V × q_M} (hcells : (r.2.1.1 - s0.1.1).toNat ≤ R.cells) (hslots : 10000 * (r.2.1.1 - s0.1.1).toNat ≤ R.slots) (hx : q_ext s2 r.2) (n : Nat) (h2 : s2.1.1 = s1.1.1 + n) (h0 : s0.1.1 ≤ s1.1.1) :
    (s1.1.1 - s0.1.1).toNat + n ≤ R.cells ∧ 10000 * (s1.1.1 - s0.1.1).toNat + 10000 * n ≤ R.slots ∧ (s2.1.1 - s0.1.1).toNat = (s1.1.1 - s0.1.1).toNat + n := by
  have := hx.1
  refine ⟨by omega, by omega, by omega⟩
def q_zc (fts : List Nat) (z : Int → Int) (ty : Nat → FieldType) (j : Nat) : Bool := match fts[j]? with
  | none => false
  | some u => (decide (u = 0 ∨ u = 7) && decide (z j = 0) && decide (defaultValue (ty j) = .int 0)) || (decide (u = 3) && decide (z j = 0) && decide (defaultValue (ty j) = .long 0)) || (decide (10 ≤ u) && decide (z j = -1) && decide (defaultValue (ty j) = .null))
theorem q_zc_spec {fts : List Nat} {z : Int → Int} {ty : Nat → FieldType} {j : Nat} (h : q_zc fts z ty j = true) : ∃ u, fts[j]? = some u ∧ q_fv E u (z j) = defaultValue (ty j) ∧ ∀ s : q_M, q_sk s u (z j) := by
  unfold q_zc at h
  split at h
  · cases h
  · rename_i u hu
    refine ⟨u, hu, ?_⟩
    simp only [Bool.or_eq_true, Bool.and_eq_true, decide_eq_true_eq] at h
    rcases h with (⟨⟨h1, h2⟩, h3⟩ | ⟨⟨h1, h2⟩, h3⟩) | ⟨⟨h1, h2⟩, h3⟩
    · refine ⟨?_, fun s => ?_⟩
      · unfold q_fv; rw [if_pos h1, h2, h3]; rfl
      · rw [h2]
        rcases h1 with h1 | h1
        · exact Or.inl ⟨h1, q_0⟩
        · exact Or.inr (Or.inl ⟨h1, Or.inl rfl⟩)
    · refine ⟨?_, fun s => ?_⟩
      · unfold q_fv; rw [if_neg (by omega), if_pos h1, h2, h3]; rfl
      · rw [h2]; exact Or.inr (Or.inr (Or.inl ⟨h1, by unfold q_i64; omega⟩))
    · refine ⟨?_, fun s => ?_⟩
      · unfold q_fv; rw [if_neg (by omega), if_neg (by omega), if_pos (by omega), h3]
      · exact Or.inr (Or.inr (Or.inr ⟨h1, Or.inl (by omega)⟩))
theorem s_new {pc idx ci N : Nat} {Cn : String} {Tn : u_T} {len : Int} {z : Int → Int} (hd : decode cc pc = .ok (.new idx, 3)) (hcl : vwCl[ci]? = some (Cn, Tn, N)) (hin : ∀ w ∈ u_ws Cn Tn N, w ∈ qG) (ty0 : Nat → FieldType) (hty : ∀ k, k < N → parseFieldDescriptor (Tn k).2.2.1 = some (ty0 k))
    (hw1 : Cond.classLink own idx Cn ∈ qG) (hw2 : Cond.instantiable Cn N ∈ qG) (hw3 : Cond.initialized Cn ∈ qG) (hz : (List.range N).all (q_zc (q_ft ci) z ty0) = true) (hN : (q_ft ci).length = N) (hN2 : N ≤ 10000) : q_sim E l I own cc nL rt nm d pc (o_new (10 + ci) len z (pc + 3)) := by
  have hci := q_cl13 hcl
  have hzz : ∀ j, j < N → q_zc (q_ft ci) z ty0 j = true := fun j hj => List.all_eq_true.mp hz j (List.mem_range.mpr hj)
  refine ⟨f_new _ _ _ _, fun p e R s m args below meth c Q s0 r hc hr C K ls st s1 h _ hK => ?_⟩
  obtain ⟨hx, hb, -, hml, hown, -, -, hts, henv, -, -, hfr, hlo, hce, hsl, -⟩ := hc
  have hK' := hK _ _ _ _ h
  refine q_goM hK' (q_ext_mk _ _ _ _) fun hm hf hle => ?_
  have hck : q_ck (q_mk s1 (10 + ci) len z) s1.1.1 := by
    refine Or.inr ?_
    rw [q_mk_nsh, q_mk_new]
    refine ⟨by show 10 ≤ 10 + ci; omega, by show 10 + ci < 23; omega, fun j u hu => ?_⟩
    have hu' : (q_ft ci)[j]? = some u := by simpa using hu
    obtain ⟨u2, e1, -, e3⟩ := q_zc_spec (E := E) (hzz j (by rw [← hN]; exact (List.getElem?_eq_some_iff.mp hu').1))
    rw [hu'] at e1
    cases e1
    exact e3 _
  refine ⟨q_mok_mk hm hck, fun v hv => ?_, fun H locs A a1 a2 a3 kk => ?_⟩
  · rcases List.mem_cons.mp hv with rfl | hv
    · exact Or.inr (Or.inr ⟨by show 10 ≤ 10 + ci; omega, Or.inl ⟨hm.1, by show s1.1.1 < s1.1.1 + 1; omega, by rw [q_mk_nsh]⟩⟩)
    · exact q_vk_ext (q_ext_mk _ _ _ _) (hf.2 v hv)
  · obtain ⟨g1, g2, g3⟩ := q_room hce hsl hK'.1.1 1 rfl hle
    have hKn := henv.1.1 ci _ hcl
    refine W.newcK hx hb hown (hts _ hw1) (hts _ hw2) (hts _ hw3) rfl hd g1 (by omega) hKn.2.1 rfl fun H1 kC hkC e1 z1 o1 => ?_
    have k1 := kk H1 locs (q_rel_mk a1 hm.1 z1 o1 (by
      rw [q_en_o (by omega)]
      refine ⟨_, hcl, (u_born ty0 hts hin hKn hkC e1 hty).to fun j hj => ?_⟩
      obtain ⟨u2, w1, w2, -⟩ := q_zc_spec (E := E) (hzz j hj)
      show _ = ((q_ft ci).mapIdx (fun j u => q_fv E u (z j))).getD j .null
      rw [List.getD_eq_getElem?_getD, q_fs_at w1, ← w2]
      rfl)) a3
    rw [g3] at k1
    rw [List.map_cons, q_cv_r E _ (show 10 ≤ 10 + ci by omega)] at k1
    have ea : q_a E s1.1.1 = H.size := by rw [a1.1]; unfold q_a; rw [if_pos hm.1]
    rw [ea] at k1
    exact W.widen (Nat.le_refl _) (by omega) k1
theorem q_newa_spec {t n : Nat} {C : q_C} {K : q_K} {ls st : List q_V} {s1 : q_M} {r : q_V × q_M} (h : o_newa t n C K ls st s1 = some r) : ∃ len st', st = (0, len) :: st' ∧ (0 ≤ len ∧ len ≤ 10000) ∧ K n ls ((t, s1.1.1) :: st') (q_mk s1 t len (fun _ => 0)) = some r := by
  unfold o_newa at h
  split at h
  · split at h
    · rename_i hl; exact ⟨_, _, rfl, hl, h⟩
    · cases h
  · cases h
theorem q_newq_spec {t n : Nat} {C : q_C} {K : q_K} {ls st : List q_V} {s1 : q_M} {r : q_V × q_M} (h : o_newq t n C K ls st s1 = some r) : ∃ len st', st = (0, len) :: st' ∧ (0 ≤ len ∧ len ≤ 10000) ∧ K n ls ((t, s1.1.1) :: st') (q_mk s1 t len (fun _ => -1)) = some r := by
  unfold o_newq at h
  split at h
  · split at h
    · rename_i hl; exact ⟨_, _, rfl, hl, h⟩
    · cases h
  · cases h
theorem s_newa {pc t t0 : Nat} {aty : ArrayType} {ty : FieldType} (hd : decode cc pc = .ok (.newarray aty, 2)) (hty : newarray.typeOf aty = ty) (ht : (t = 30 ∧ t0 = 0 ∧ ty = .int) ∨ (t = 31 ∧ t0 = 1 ∧ ty = .boolean)) (hw : Cond.arrayClass ty ∈ qG) : q_sim E l I own cc nL rt nm d pc (o_newa t (pc + 2)) := by
  have ht3 : t = 30 ∨ t = 31 := by omega
  have htt : (q_tys E)[t0]? = some (E.2.2.2.2 t, ty) := by rcases ht with ⟨rfl, rfl, rfl⟩ | ⟨rfl, rfl, rfl⟩ <;> rfl
  have hdv : defaultValue ty = .int (Int32.ofInt 0) := by rcases ht with ⟨rfl, rfl, rfl⟩ | ⟨rfl, rfl, rfl⟩ <;> rfl
  have hcb : componentBytes ty ≤ 8 := by rcases ht with ⟨rfl, rfl, rfl⟩ | ⟨rfl, rfl, rfl⟩ <;> decide
  refine ⟨f_newa _ _, fun p e R s m args below meth c Q s0 r hc hr C K ls st s1 h _ hK => ?_⟩
  obtain ⟨len, st', hst, ⟨l0, l1⟩, h'⟩ := q_newa_spec h
  subst hst
  subst hty
  obtain ⟨hx, hb, -, hml, hown, -, -, hts, henv, -, -, hfr, hlo, hce, hsl, -⟩ := hc
  have hK' := hK _ _ _ _ h'
  refine q_goM hK' (q_ext_mk _ _ _ _) fun hm hf hle => ?_
  have hck : q_ck (q_mk s1 t len (fun _ => 0)) s1.1.1 := by
    refine Or.inl ?_
    rw [q_mk_nsh, q_mk_new]
    refine ⟨by show 30 ≤ t; omega, by show t ≠ 33; omega, by show t ≤ 32 ∨ _; omega, l0, l1, fun j j0 j1 => ?_⟩
    rcases ht3 with rfl | rfl
    · exact Or.inl ⟨rfl, q_0⟩
    · exact Or.inr (Or.inl ⟨rfl, Or.inl rfl⟩)
  have hlen := q_vk_i (q_fk_top hf)
  refine ⟨q_mok_mk hm hck, fun v hv => ?_, fun H locs A a1 a2 a3 kk => ?_⟩
  · rcases List.mem_cons.mp hv with rfl | hv
    · exact Or.inr (Or.inr ⟨by show 10 ≤ t; omega, Or.inl ⟨hm.1, by show s1.1.1 < s1.1.1 + 1; omega, by rw [q_mk_nsh]⟩⟩)
    · exact q_vk_ext (q_ext_mk _ _ _ _) (hf.2 v (List.mem_cons_of_mem _ hv))
  · obtain ⟨g1, g2, g3⟩ := q_room hce hsl hK'.1.1 1 rfl hle
    have n0 : ¬ Int32.ofInt len < 0 := by rw [q_32_0, q_i32lt hlen q_0]; omega
    have hby : len.toNat * componentBytes (newarray.typeOf aty) ≤ 536870912 := Nat.le_trans (Nat.mul_le_mul (show len.toNat ≤ 10000 by omega) hcb) (by decide)
    rw [List.map_cons, q_cv_i]
    refine va_newaK (n := Int32.ofInt len) (N := len.toNat) (rest := st'.map (q_cv E)) hx hb (hts _ hw) rfl hd rfl n0 (q_cl hlen l0) hby g1 (by omega) rfl fun H1 cA e1 z1 o1 hAr hNm => ?_
    have hcA : cA = E.2.2.2.2 t := by
      have h9 := (henv.1.2 t0 _ htt).2
      have h8 : s.vm.findClass ("[" ++ (newarray.typeOf aty).toString) = some (E.2.2.2.2 t) := by
        rcases ht with ⟨_, _, e9⟩ | ⟨_, _, e9⟩ <;> (rw [e9] at h9 ⊢; exact h9)
      exact Option.some.inj (hNm.symm.trans h8)
    subst hcA
    have k1 := kk H1 locs (q_rel_mk a1 hm.1 z1 o1 (by
      rw [q_en_i ht3]
      show H1[H.size]? = some (vp_cell _ _)
      rw [e1, vp_cell_i, hdv])) a3
    rw [g3, List.map_cons, q_cv_r E _ (show 10 ≤ t by omega)] at k1
    have ea : q_a E s1.1.1 = H.size := by rw [a1.1]; unfold q_a; rw [if_pos hm.1]
    rw [ea] at k1
    exact W.widen (Nat.le_refl _) (by omega) k1
theorem s_newq {pc ci t0 idx : Nat} {Cn : String} (hd : decode cc pc = .ok (.anewarray idx, 3)) (hci : ci < 13) (htt : ∀ E : q_X, (q_tys E)[t0]? = some (E.2.2.2.2 (40 + ci), .object Cn)) (hw : Cond.classLink own idx Cn ∈ qG) (hao : ∀ U, q_env2 E U → va_AO Cn U) : q_sim E l I own cc nL rt nm d pc (o_newq (40 + ci) (pc + 3)) := by
  refine ⟨f_newq _ _, fun p e R s m args below meth c Q s0 r hc hr C K ls st s1 h _ hK => ?_⟩
  obtain ⟨len, st', hst, ⟨l0, l1⟩, h'⟩ := q_newq_spec h
  subst hst
  obtain ⟨hx, hb, -, hml, hown, -, -, hts, henv, -, -, hfr, hlo, hce, hsl, -⟩ := hc
  have hK' := hK _ _ _ _ h'
  refine q_goM hK' (q_ext_mk _ _ _ _) fun hm hf hle => ?_
  have hel : q_el (40 + ci) = 10 + ci := by unfold q_el; rw [if_neg (by omega), if_neg (by omega), if_neg (by omega)]; omega
  have hck : q_ck (q_mk s1 (40 + ci) len (fun _ => -1)) s1.1.1 := by
    refine Or.inl ?_
    rw [q_mk_nsh, q_mk_new]
    refine ⟨by show 30 ≤ 40 + ci; omega, by show 40 + ci ≠ 33; omega, Or.inr ⟨by show 40 ≤ 40 + ci; omega, by show 40 + ci < 53; omega⟩, l0, l1, fun j j0 j1 => ?_⟩
    show q_sk _ (q_el (40 + ci)) (-1)
    rw [hel]
    exact Or.inr (Or.inr (Or.inr ⟨by omega, Or.inl (by decide)⟩))
  have hlen := q_vk_i (q_fk_top hf)
  refine ⟨q_mok_mk hm hck, fun v hv => ?_, fun H locs A a1 a2 a3 kk => ?_⟩
  · rcases List.mem_cons.mp hv with rfl | hv
    · exact Or.inr (Or.inr ⟨by show 10 ≤ 40 + ci; omega, Or.inl ⟨hm.1, by show s1.1.1 < s1.1.1 + 1; omega, by rw [q_mk_nsh]⟩⟩)
    · exact q_vk_ext (q_ext_mk _ _ _ _) (hf.2 v (List.mem_cons_of_mem _ hv))
  · obtain ⟨g1, g2, g3⟩ := q_room hce hsl hK'.1.1 1 rfl hle
    have n0 : ¬ Int32.ofInt len < 0 := by rw [q_32_0, q_i32lt hlen q_0]; omega
    have ecl := q_cl hlen l0
    rw [List.map_cons, q_cv_i]
    refine W.anew (n := Int32.ofInt len) (rest := st'.map (q_cv E)) hx hb hown (hts _ hw) (va_AO.use (hao s henv.2.2.2)) rfl hd rfl n0 (by rw [ecl]; omega) g1 (by rw [ecl]; omega) fun cA kA comp f1 f2 f3 f4 => ?_
    have hcA : cA = E.2.2.2.2 (40 + ci) := by
      obtain ⟨_, _, _, _, _, h9⟩ := (henv.1.2 t0 _ (htt E)).2
      exact Option.some.inj (f1.symm.trans h9)
    subst hcA
    rw [ecl]
    generalize hH1 : H.push ({ cls := E.2.2.2.2 (40 + ci), slots := Array.replicate len.toNat .null, vm := .none } : Cell) = H1
    have z1 : H1.size = H.size + 1 := by rw [← hH1, Array.size_push]
    have e1 : H1[H.size]? = some (arrV (E.2.2.2.2 (40 + ci)) len.toNat (fun _ => .null)) := by rw [← hH1, Array.getElem?_push_size, ← arrV_new]
    have o1 : ∀ q : Nat, q < H.size → H1[q]? = H[q]? := fun q hq => by rw [← hH1, Array.getElem?_push, if_neg (Nat.ne_of_lt hq)]
    have k1 := kk H1 locs (q_rel_mk a1 hm.1 z1 o1 (by
      rw [q_en_q (by omega)]
      show H1[H.size]? = some (vp_cell _ _)
      rw [e1, vp_cell_q]
      rfl)) a3
    rw [g3, List.map_cons, q_cv_r E _ (show 10 ≤ 40 + ci by omega)] at k1
    have ea : q_a E s1.1.1 = H.size := by rw [a1.1]; unfold q_a; rw [if_pos hm.1]
    rw [ea] at k1
    exact W.widen (Nat.le_refl _) (by omega) k1
end SM
