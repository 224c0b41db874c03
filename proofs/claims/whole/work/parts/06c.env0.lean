/-! from a run of my machine on the law's code to the claim's walk -/
def q_und (j : Int) : Int := ([-1, 0, 0, 0, 3, 2, 2] : List Int).getD j.toNat 0
/-- the memory at the law's entry: no cell of mine; the text (-4), UNDER (-5), the script (-6) -/
def q_m0 (L : Nat) (xs : Nat → Int32) : q_M := ((0, fun k => if k = -5 then (30, 7) else if k = -6 then (30, (L : Int)) else if k = -4 then (33, 56) else (9, 0)), fun k j => if k = -5 then q_und j else if k = -6 then (xs j.toNat).toInt else 0)
theorem q_arrT {s : State} {cA : ClassId} {kA : Class} {comp : ClassId} {ty : FieldType} (h2 : s.vm.classes[cA]? = some kA) (h3 : kA.kind = .array comp ty) : ArrOfT s cA ty := fun n z => ⟨fun k h => (by cases h), kA, h2, comp, h3⟩
set_option maxHeartbeats 4000000 in
set_option maxRecDepth 100000 in
theorem q_env0 {s : State} {b L : Nat} {xs : Nat → Int32} (hts : ∀ w ∈ lw_tbl, w.before #[Value.ref b] s = true) (hX : va_X b L xs s s.heap) (hbl : b < s.heap.size) (hgv : (Jvm.Cond.and given_1 narrow_1).before #[Value.ref b] s = true) (hL : L ≤ 3072) :
    ∃ E : q_X, E.1 = s.heap.size ∧ E.2.1 = s.heap ∧ E.2.2.1 (-6) = b ∧ q_env E s ∧ q_mok E (q_m0 L xs) := by
  have htG : ∀ w ∈ qG, w.before #[Value.ref b] s = true := fun w h => hts w (qG_in w h)
  have htT : ∀ w ∈ tables_1, w.before #[Value.ref b] s = true := fun w h => hts w (List.mem_append_right _ h)
  have hs := flat_of_before _ hgv
  obtain ⟨c0, i0, K0⟩ := u_known (C := RX0) (T := TX0) (N := 9) htG iG_0 (htG _ ugI_0)
  obtain ⟨c1, i1, K1⟩ := u_known (C := RX1) (T := TX1) (N := 8) htG iG_1 (htG _ ugI_1)
  obtain ⟨c2, i2, K2⟩ := u_known (C := RX2) (T := TX2) (N := 8) htG iG_2 (htG _ ugI_2)
  obtain ⟨c3, i3, K3⟩ := u_known (C := RX3) (T := TX3) (N := 4) htG iG_3 (htG _ ugI_3)
  obtain ⟨c4, i4, K4⟩ := u_known (C := RX4) (T := TX4) (N := 7) htG iG_4 (htG _ ugI_4)
  obtain ⟨c5, i5, K5⟩ := u_known (C := RX5) (T := TX5) (N := 12) htG iG_5 (htG _ ugI_5)
  obtain ⟨c6, i6, K6⟩ := u_known (C := RX6) (T := TX6) (N := 2) htG iG_6 (htG _ ugI_6)
  obtain ⟨c7, i7, K7⟩ := u_known (C := RX7) (T := TX7) (N := 3) htG iG_7 (htG _ ugI_7)
  obtain ⟨c8, i8, K8⟩ := u_known (C := RX8) (T := TX8) (N := 2) htG iG_8 (htG _ ugI_8)
  obtain ⟨c9, i9, K9⟩ := u_known (C := RX9) (T := TX9) (N := 8) htG iG_9 (htG _ ugI_9)
  obtain ⟨c10, i10, K10⟩ := u_known (C := RX10) (T := TX10) (N := 9) htG iG_10 (htG _ ugI_10)
  obtain ⟨c11, i11, K11⟩ := u_known (C := RX11) (T := TX11) (N := 8) htG iG_11 (htG _ ugI_11)
  obtain ⟨c12, i12, K12⟩ := u_known (C := RX12) (T := TX12) (N := 28) htG iG_12 (htG _ ugI_12)
  obtain ⟨dC, dI, hKc⟩ : ∃ (dC : Nat → ClassId) (dI : Nat → Nat → Nat), ∀ (k : Nat) (q : vw_C), vwCl[k]? = some q → u_Kn s q.1 q.2.1 q.2.2 (dC k) (dI k) := by
    refine ⟨fun k => [c0, c1, c2, c3, c4, c5, c6, c7, c8, c9, c10, c11, c12].getD k c0, fun k => [i0, i1, i2, i3, i4, i5, i6, i7, i8, i9, i10, i11, i12].getD k i0, ?_⟩
    intro k q hq
    match k, hq with
    | 0, hq => cases hq; exact K0
    | 1, hq => cases hq; exact K1
    | 2, hq => cases hq; exact K2
    | 3, hq => cases hq; exact K3
    | 4, hq => cases hq; exact K4
    | 5, hq => cases hq; exact K5
    | 6, hq => cases hq; exact K6
    | 7, hq => cases hq; exact K7
    | 8, hq => cases hq; exact K8
    | 9, hq => cases hq; exact K9
    | 10, hq => cases hq; exact K10
    | 11, hq => cases hq; exact K11
    | 12, hq => cases hq; exact K12
    | k + 13, hq => simp [vwCl] at hq
  obtain ⟨aI, kI, pI, fI1, fI2, fI3⟩ := Cond.arrayClass_spec (args := #[Value.ref b]) (first := s) (o := none) (idx := []) (type := .int) (htG _ ugA_int)
  obtain ⟨aZ, kZ, pZ, fZ1, fZ2, fZ3⟩ := Cond.arrayClass_spec (args := #[Value.ref b]) (first := s) (o := none) (idx := []) (type := .boolean) (htG _ ugA_bool)
  obtain ⟨pA, aA, kA, fA1, -, fA2, fA3, fA4⟩ := Stand.arrayOver_specB (args := #[Value.ref b]) (first := s) (o := none) (idx := []) (t := .int) (htT _ ugO_arr)
  obtain ⟨p40, a40, k40, e40, -, g40, h40, j40⟩ := Cond.arrayOver_spec (args := #[Value.ref b]) (first := s) (o := none) (idx := []) (n := RX0) (htT _ ugO_0)
  obtain ⟨p42, a42, k42, e42, -, g42, h42, j42⟩ := Cond.arrayOver_spec (args := #[Value.ref b]) (first := s) (o := none) (idx := []) (n := RX2) (htT _ ugO_2)
  obtain ⟨p43, a43, k43, e43, -, g43, h43, j43⟩ := Cond.arrayOver_spec (args := #[Value.ref b]) (first := s) (o := none) (idx := []) (n := RX3) (htT _ ugO_3)
  obtain ⟨p47, a47, k47, e47, -, g47, h47, j47⟩ := Cond.arrayOver_spec (args := #[Value.ref b]) (first := s) (o := none) (idx := []) (n := RX7) (htT _ ugO_7)
  have hA : ∀ a : Nat, a < s.heap.size → ¬ (fun q => s.heap.size ≤ q) a := fun a h => Nat.not_le.mpr h
  have hU : ∀ j, j < 7 → Cond.eq (.elem (.static "FarDishes" "UNDER" "[I") (.int (Int32.ofNat j))) (.int (Int32.ofInt (q_und j))) ∈ flatC (Jvm.Cond.and given_1 narrow_1) := by decide +kernel
  obtain ⟨tU, etU, hTU⟩ := va_Tof (s := s) (args := #[Value.ref b]) (tm := .static "FarDishes" "UNDER" "[I") (ty := .int) (N := 7) (f := fun j => .int (Int32.ofInt (q_und j))) (A := fun q => s.heap.size ≤ q) (by decide) (hs _ (by decide +kernel)) (va_eqt (hs (Cond.eq (.length (.static "FarDishes" "UNDER" "[I")) (.int 7)) (by decide +kernel))) (fun j hj => va_eqt (hs _ (hU j hj))) hA
  have hB : ∀ j, j < 56 → Cond.eq (.elem (.field (.string "FarDishes$Text" 81) "java/lang/String" "value" "[B") (.int (Int32.ofNat j))) (.int (q_tb8.getD j 0)) ∈ flatC (Jvm.Cond.and given_1 narrow_1) := by decide +kernel
  obtain ⟨adK, adV, hKS, hev⟩ := vk_Sof (s := s) (args := #[Value.ref b]) (N := 1) (tm := fun _ => .string "FarDishes$Text" 81) (len := [56]) (byt := [q_tb8]) (A := fun q => s.heap.size ≤ q) (fun i hi => by rw [show i = 0 by omega]; decide) (fun i hi => hs _ (by decide +kernel)) (fun i hi => hs _ (by decide +kernel)) (fun i hi => hs _ (by decide +kernel)) (fun i hi => by rw [show i = 0 by omega]; exact hs _ (by decide +kernel)) (fun i hi j hj => by rw [show i = 0 by omega] at hj ⊢; exact hs _ (hB j hj)) (fun i j hi hj hij => absurd (show i = j by omega) hij) hA
  obtain ⟨t2, t3, t4, t5⟩ := hKS.1 0 (by decide)
  have hev0 := hev 0 (by decide)
  obtain ⟨scr, x1, x2, x3, x4, x5⟩ := hX
  obtain ⟨cu, y1, y2, y3, y4, y5, y6, y7⟩ := id hTU
  refine ⟨(s.heap.size, s.heap, fun k => if k = -6 then b else if k = -5 then tU else if k = -4 then adK 0 else adV 0, (dC, dI), fun t => if t = 30 then aI else if t = 31 then aZ else if t = 32 then aA else if t = 40 then a40 else if t = 42 then a42 else if t = 43 then a43 else a47), rfl, rfl, rfl, ⟨⟨hKc, fun k q hk => ?_⟩, fun cell hc => ?_, fun cell hc => ?_, fun x hx => va_Nw.of rfl (htT _ (ug_nest x hx)), va_Nw.of rfl (htT _ ug_fnest), fun C hC => ?_, Stand.arrayOver_alikeB (Vm.Alike.refl s.vm) (htT _ ugO_arr), va_Zof (htT _ ug_ls_under) (htT _ ug_in_under) etU hA, vk_R.of (htT _ ug_str) hev0, t2, t3, t4, t5, va_Zof (htT _ ug_ls_compact) (htT _ ug_in_compact) (va_eqi (hs _ (by decide +kernel))) hA, va_Zqof (htT _ ug_ls_fmt) (htT _ ug_in_fmt) (hs _ (by decide +kernel)) hA⟩, ?_⟩
  · match k, hk with
    | 0, hk => cases hk; exact ⟨q_arrT fI2 fI3, fI1⟩
    | 1, hk => cases hk; exact ⟨q_arrT fZ2 fZ3, fZ1⟩
    | 2, hk => cases hk; exact ⟨q_arrT fA2 fA3, fA4⟩
    | 3, hk => cases hk; exact ⟨q_arrT g40 h40, k40, p40, g40, h40, e40, j40⟩
    | 4, hk => cases hk; exact ⟨q_arrT g42 h42, k42, p42, g42, h42, e42, j42⟩
    | 5, hk => cases hk; exact ⟨q_arrT g43 h43, k43, p43, g43, h43, e43, j43⟩
    | 6, hk => cases hk; exact ⟨q_arrT g47 h47, k47, p47, g47, h47, e47, j47⟩
    | k + 7, hk => simp [q_tys] at hk
  · have e9 : s.heap[tU]? = some cell := hc
    rw [y1] at e9
    cases e9
    exact y2
  · have e9 : s.heap[b]? = some cell := hc
    rw [x1] at e9
    cases e9
    exact x2
  · simp only [List.mem_cons, List.not_mem_nil, or_false] at hC
    rcases hC with rfl | rfl | rfl | rfl
    · exact va_AO.of (htT _ ugO_0)
    · exact va_AO.of (htT _ ugO_2)
    · exact va_AO.of (htT _ ugO_3)
    · exact va_AO.of (htT _ ugO_7)
  · refine ⟨Int.le_refl _, fun k h0 h1 => ?_, ⟨rfl, show (0 : Int) ≤ 7 by decide, show (7 : Int) ≤ 10000 by decide, Nat.not_le.mp y7, fun j j0 j1 => ?_, cu, y1, y3, y4, y5, fun j hj => y6 j hj⟩, ⟨rfl, ?_, ?_, hbl, fun j j0 j1 => q_toin _, scr, x1, x3, ?_, ?_, fun j hj => ?_⟩, rfl⟩
    · have h2 : k < 0 := h1
      omega
    · have j2 : j < 7 := j1
      have h9 : ∀ n : Nat, n < 7 → q_i32 (q_und n) := by
        intro n hn
        match n, hn with
        | 0, _ => exact ⟨by decide, by decide⟩
        | 1, _ => exact ⟨by decide, by decide⟩
        | 2, _ => exact ⟨by decide, by decide⟩
        | 3, _ => exact ⟨by decide, by decide⟩
        | 4, _ => exact ⟨by decide, by decide⟩
        | 5, _ => exact ⟨by decide, by decide⟩
        | 6, _ => exact ⟨by decide, by decide⟩
        | n + 7, hn => omega
      have e8 : j = ((j.toNat : Nat) : Int) := by omega
      rw [e8]
      exact h9 _ (by omega)
    · show 0 ≤ (L : Int)
      omega
    · show (L : Int) ≤ 10000
      omega
    · show (L : Int).toNat ≤ scr.slots.size
      rw [x4]; omega
    · show scr.slots.size.toInt32 = Int32.ofInt (L : Int)
      rw [x4]; rfl
    · have j2 : j < (L : Int).toNat := hj
      rw [x5 j (by omega)]
      show some (Value.int (xs j)) = some (.int (Int32.ofInt (xs ((j : Int).toNat)).toInt))
      rw [q_ofi]
      rfl
