/-! copies of p -/
theorem r_keeps {sh : Int × (Int → Nat × Int)} {h : Int → Int → Int} {a b : Int} (hab : b ≠ a) (a0 : 0 ≤ a) (la : (sh.2 a).2 = 1354) (lb : (sh.2 b).2 = 1354) : q_Cc 230 [(22, 469), (30, a), (30, b)] (sh, h) = some ((9, 0), (sh, q_row h a (fun i => if 0 ≤ i ∧ i < 1354 then h b i else h a i))) := by
  rw [c_X12_keeps, e_X12_keeps_0]
  have := lp (fun i (F : Int → Int) => q_L 230 2 [(22, 469), (30, a), (30, b), (0, i)] [] (sh, q_row h a F)) (fun i F => ∀ x, F x = if 0 ≤ x ∧ x < i then h b x else h a x) (fun r => r = some ((9, 0), (sh, q_row h a (fun i => if 0 ≤ i ∧ i < 1354 then h b i else h a i)))) 1354 ?_ ?_ 0 (h a) (by omega) (by omega) (fun x => by rw [if_neg (by omega)])
  · have this : q_L 230 2 [(22, 469), (30, a), (30, b), (0, 0)] [] (sh, q_row h a (h a)) = some ((9, 0), (sh, q_row h a (fun i => if 0 ≤ i ∧ i < 1354 then h b i else h a i))) := this
    rw [q_row_id] at this
    exact this
  · intro i F i0 i1 hI
    refine Or.inl ⟨ud F i (h b i), ?_, ?_⟩
    · rw [e_X12_keeps_2]
      simp (disch := omega) only [q_470, q_up_far, q_row_row, q_row_self, q_row_ne, q_up_ne, q_up_eq, q_rowup, ud_eq, ud_ne, q_add_id, q_sub_id, q_mul_id, q_w_eq, q_rem_n, q_div_n, ↓reduceIte, leT, leF, ltT, ltF, eqT, eqF, true_or, or_true, false_or, or_false, true_and, and_true, false_and, and_false, or_self, and_self, Option.bind_some, la, lb]
    · intro x
      by_cases e : x = i
      · rw [ud_eq e, if_pos (by omega), e]
      · rw [ud_ne e, hI x]
        by_cases e2 : 0 ≤ x ∧ x < i
        · rw [if_pos e2, if_pos (by omega)]
        · rw [if_neg e2, if_neg (by omega)]
  · intro F hI
    have e : F = fun i => if 0 ≤ i ∧ i < 1354 then h b i else h a i := funext hI
    show q_L 230 2 _ _ _ = _
    rw [e_X12_keeps_2, e]
    simp (disch := omega) only [q_470, q_up_far, q_row_row, q_row_self, q_row_ne, q_up_ne, q_up_eq, q_rowup, ud_eq, ud_ne, q_add_id, q_sub_id, q_mul_id, q_w_eq, q_rem_n, q_div_n, ↓reduceIte, leT, leF, ltT, ltF, eqT, eqF, true_or, or_true, false_or, or_false, true_and, and_true, false_and, and_false, or_self, and_self, Option.bind_some, ]
/-! how many looks -/
theorem smN_one {f g : Int → Int} {b : Nat} : ∀ n : Nat, b < n → (∀ i : Nat, i < n → i ≠ b → g i = f i) → smN g n = smN f n + (g b - f b) := by
  intro n
  induction n with
  | zero => intro hb; omega
  | succ n ih =>
    intro hb hf
    show smN g n + g n = smN f n + f n + (g b - f b)
    by_cases e : b = n
    · subst e
      rw [smN_congr b (fun i hi => hf i (by omega) (by omega))]
      omega
    · rw [ih (by omega) (fun i hi hne => hf i (by omega) hne), hf n (by omega) (by omega)]
      omega
theorem sm_one {f g : Int → Int} {b n : Int} (b0 : 0 ≤ b) (b1 : b < n) (hf : ∀ i, 0 ≤ i → i < n → i ≠ b → g i = f i) : sm g n = sm f n + (g b - f b) := by
  have := smN_one (f := f) (g := g) (b := b.toNat) n.toNat (by omega) (fun i hi hne => hf i (by omega) (by omega) (by omega))
  rw [Int.toNat_of_nonneg b0] at this
  exact this
def fO (G : Int → Int) (i : Int) : Int := if G (1290 + i) = 0 then G (1226 + i) else 0
def fC (G : Int → Int) (i : Int) : Int := if G (1290 + i) = 0 ∧ 0 < G (1226 + i) then 1 else 0
def zF (v t : Int) : Nat → (Int → Int) → Int → Int → Int
  | 0, _, _, _ => -1
  | m + 1, G, s, k => if 100 * (s + G (1226 + bN G 64)) < v * t then zF v t m (ud G (1290 + bN G 64) 1) (s + G (1226 + bN G 64)) (k + 1) else k + 1
def ZI (v t : Int) (m : Nat) (G : Int → Int) (s : Int) : Prop := (∀ i, 0 ≤ i → i < 64 → (G (1290 + i) = 0 ∨ G (1290 + i) = 1) ∧ 0 ≤ G (1226 + i) ∧ G (1226 + i) ≤ 99) ∧ 0 ≤ s ∧ s + sm (fO G) 64 = t ∧ t ≤ 6400 ∧ 1 ≤ v ∧ v ≤ 100 ∧ sm (fC G) 64 ≤ m ∧ 100 * s < v * t
theorem fO_none {G : Int → Int} (hg : ∀ i, 0 ≤ i → i < 64 → (G (1290 + i) = 0 ∨ G (1290 + i) = 1) ∧ 0 ≤ G (1226 + i) ∧ G (1226 + i) ≤ 99) (hn : ∀ i : Int, 0 ≤ i → i < 64 → ¬ (G (1290 + i) = 0 ∧ 0 < G (1226 + i))) : sm (fO G) 64 = 0 := by
  have := sm_bnd (f := fO G) (a := 0) (b := 0) (n := 64) (by omega) (fun i h0 h1 => by
    have a := hg i h0 h1
    have b := hn i h0 h1
    unfold fO
    split <;> omega)
  omega
/-- one is found -/
theorem ZI.some {v t : Int} {m : Nat} {G : Int → Int} {s : Int} (z : ZI v t m G s) : 0 ≤ bN G 64 ∧ bN G 64 < 64 ∧ G (1290 + bN G 64) = 0 ∧ 0 < G (1226 + bN G 64) := by
  rcases bN_b G 64 with ⟨b1, b2⟩ | h
  · exfalso
    obtain ⟨z1, z2, z3, z4, z5, z6, z7, z8⟩ := z
    have e := fO_none z1 b2
    have : v * t ≤ 100 * t := Int.mul_le_mul_of_nonneg_right z6 (by omega)
    omega
  · exact ⟨h.1, by omega, h.2.2⟩
theorem ZI.pos {v t : Int} {m : Nat} {G : Int → Int} {s : Int} (z : ZI v t m G s) : 1 ≤ sm (fC G) 64 := by
  obtain ⟨b1, b2, b3, b4⟩ := z.some
  have h0 := sm_one (f := fun i => if i = bN G 64 then 0 else fC G i) (g := fC G) (b := bN G 64) (n := 64) b1 b2 (fun i i0 i1 hne => by show fC G i = if i = bN G 64 then 0 else fC G i; rw [if_neg hne])
  have h1 := sm_bnd (f := fun i => if i = bN G 64 then 0 else fC G i) (a := 0) (b := 1) (n := 64) (by omega) (fun i i0 i1 => by
    show 0 ≤ (if i = bN G 64 then 0 else fC G i) ∧ (if i = bN G 64 then 0 else fC G i) ≤ 1
    unfold fC
    split
    · omega
    · split <;> omega)
  have e1 : fC G (bN G 64) = 1 := by unfold fC; rw [if_pos ⟨b3, b4⟩]
  rw [e1] at h0
  have e2 : (if bN G 64 = bN G 64 then (0 : Int) else 1) = 0 := if_pos rfl
  simp only [if_true] at h0
  omega
theorem ZI.next {v t : Int} {m : Nat} {G : Int → Int} {s : Int} (z : ZI v t (m + 1) G s) (hc : 100 * (s + G (1226 + bN G 64)) < v * t) : ZI v t m (ud G (1290 + bN G 64) 1) (s + G (1226 + bN G 64)) := by
  obtain ⟨b1, b2, b3, b4⟩ := z.some
  obtain ⟨z1, z2, z3, z4, z5, z6, z7, z8⟩ := z
  obtain ⟨b, eb⟩ : ∃ b, bN G 64 = b := ⟨_, rfl⟩
  rw [eb] at b1 b2 b3 b4 hc ⊢
  have ho : ∀ i, 0 ≤ i → i < 64 → ud G (1290 + b) 1 (1226 + i) = G (1226 + i) := fun i i0 i1 => ud_ne (by omega)
  have hs : ∀ i, 0 ≤ i → i < 64 → i ≠ b → ud G (1290 + b) 1 (1290 + i) = G (1290 + i) := fun i i0 i1 hn => ud_ne (by omega)
  have hb : ud G (1290 + b) 1 (1290 + b) = 1 := ud_self _ _ _
  have s1 := sm_one (f := fO G) (g := fO (ud G (1290 + b) 1)) (b := b) (n := 64) b1 b2 (fun i i0 i1 hn => by unfold fO; rw [ho i i0 i1, hs i i0 i1 hn])
  have s2 := sm_one (f := fC G) (g := fC (ud G (1290 + b) 1)) (b := b) (n := 64) b1 b2 (fun i i0 i1 hn => by unfold fC; rw [ho i i0 i1, hs i i0 i1 hn])
  have e1 : fO G b = G (1226 + b) := by unfold fO; rw [if_pos b3]
  have e2 : fO (ud G (1290 + b) 1) b = 0 := by unfold fO; rw [hb, if_neg (by decide)]
  have e3 : fC G b = 1 := by unfold fC; rw [if_pos ⟨b3, b4⟩]
  have e4 : fC (ud G (1290 + b) 1) b = 0 := by unfold fC; rw [hb, if_neg (by omega)]
  rw [e1, e2] at s1
  rw [e3, e4] at s2
  refine ⟨?_, by omega, by omega, z4, z5, z6, by omega, hc⟩
  intro i i0 i1
  rw [ho i i0 i1]
  refine ⟨?_, (z1 i i0 i1).2⟩
  by_cases e : i = b
  · rw [e, hb]; right; rfl
  · rw [hs i i0 i1 e]; exact (z1 i i0 i1).1
theorem zF_b {v t : Int} : ∀ (m : Nat) (G : Int → Int) (s k : Int), ZI v t m G s → k < zF v t m G s k := by
  intro m
  induction m with
  | zero => intro G s k z; have := z.pos; have := z.2.2.2.2.2.2.1; omega
  | succ m ih =>
    intro G s k z
    unfold zF
    split
    · rename_i hc
      have := ih _ _ (k + 1) (z.next hc)
      omega
    · omega
theorem mulb {v t : Int} (v0 : 1 ≤ v) (v1 : v ≤ 100) (t0 : 0 ≤ t) (t1 : t ≤ 6400) : 0 ≤ v * t ∧ v * t ≤ 640000 := by
  refine ⟨Int.mul_nonneg (by omega) t0, ?_⟩
  have := Int.mul_le_mul v1 t1 t0 (by decide : (0 : Int) ≤ 100)
  omega
theorem ZI.t0 {v t : Int} {m : Nat} {G : Int → Int} {s : Int} (z : ZI v t m G s) : 0 ≤ t := by
  have := sm_bnd (f := fO G) (a := 0) (b := 99) (n := 64) (by omega) (fun i i0 i1 => by
    have := z.1 i i0 i1
    unfold fO
    split <;> omega)
  have := z.2.1
  have := z.2.2.1
  omega
theorem l_looks {sh : Int × (Int → Nat × Int)} {h : Int → Int → Int} {b v t : Int} (b0 : 0 ≤ b) (p0 : h b 0 = b + 1) (l0 : (sh.2 (b + 1)).2 = 64) : ∀ (m : Nat) (G : Int → Int) (s k x : Int) (x7 : q_V), ZI v t m G s → 0 ≤ k → k + m = 64 → (∀ i, 0 ≤ i → i < 64 → h (b + 1) i = G (1226 + i)) → (∀ i, 0 ≤ i → i < 64 → lb x i = G (1290 + i)) → q_L 60 16 [(16, b), (0, v), (0, t), (0, s), (3, x), (9, 0), (0, k + 1), x7] [] (sh, h) = some ((0, zF v t m G s k), (sh, h)) := by
  intro m
  induction m with
  | zero => intro G s k x x7 z; have := z.pos; have := z.2.2.2.2.2.2.1; exfalso; omega
  | succ m ih =>
    intro G s k x x7 z k0 km ho hx
    have z0 := z.t0
    obtain ⟨b1, b2, b3, b4⟩ := z.some
    have nx := z.next
    obtain ⟨z1, z2, z3, z4, z5, z6, z7, z8⟩ := id z
    obtain ⟨m0, m1⟩ := mulb z5 z6 z0 z4
    have kb := k_bestBut (sh := sh) (h := h) (b := b) (x := x) (G := G) b0 p0 l0 ho hx (fun i a c => (z1 i a c).1)
    obtain ⟨y, eb⟩ : ∃ y, bN G 64 = y := ⟨_, rfl⟩
    have zy := z1 (bN G 64) b1 b2
    unfold zF
    rw [eb] at kb b1 b2 b3 b4 nx zy ⊢
    have hoy := ho y b1 b2
    have bs : 0 ≤ sm (fO G) 64 := by
      have := sm_bnd (f := fO G) (a := 0) (b := 99) (n := 64) (by omega) (fun i i0 i1 => by
        have := z1 i i0 i1
        unfold fO
        split <;> omega)
      omega
    rw [e_X6_looksFor_16]
    have mc : t * v = v * t := Int.mul_comm _ _
    by_cases c : 100 * (s + G (1226 + y)) < v * t
    · have := ih (ud G (1290 + y) 1) (s + G (1226 + y)) (k + 1) (q_lor x (q_lshl 1 y)) (0, y) (nx c) (by omega) (by omega) (fun i i0 i1 => by rw [ud_ne (by omega)]; exact ho i i0 i1) (fun i i0 i1 => by
        rw [lb_or b1 b2 i0 i1]
        by_cases e : i = y
        · rw [if_pos e, e, ud_self]
        · rw [if_neg e, ud_ne (by omega)]; exact hx i i0 i1)
      simp (disch := omega) only [q_470, q_up_far, q_row_row, q_row_self, q_row_ne, q_up_ne, q_up_eq, q_rowup, ud_eq, ud_ne, q_add_id, q_sub_id, q_mul_id, q_w_eq, q_rem_n, q_div_n, ↓reduceIte, leT, leF, ltT, ltF, eqT, eqF, true_or, or_true, false_or, or_false, true_and, and_true, false_and, and_false, or_self, and_self, Option.bind_some, kb, p0, l0, hoy, mc, this, e_X6_looksFor_29]
    · simp (disch := omega) only [q_470, q_up_far, q_row_row, q_row_self, q_row_ne, q_up_ne, q_up_eq, q_rowup, ud_eq, ud_ne, q_add_id, q_sub_id, q_mul_id, q_w_eq, q_rem_n, q_div_n, ↓reduceIte, leT, leF, ltT, ltF, eqT, eqF, true_or, or_true, false_or, or_false, true_and, and_true, false_and, and_false, or_self, and_self, Option.bind_some, kb, p0, l0, hoy, mc, e_X6_looksFor_29]
theorem r_looks {sh : Int × (Int → Nat × Int)} {h : Int → Int → Int} {v t : Int} (p0 : h 469 0 = 470) (p2 : h 469 2 = 472) (l : (sh.2 470).2 = 1354) (l2 : (sh.2 472).2 = 1354) : ∀ (m : Nat) (G : Int → Int) (s k : Int) (x5 : q_V), ZI v t m G s → 0 ≤ k → k + m = 64 → q_L 244 91 [(22, 469), (0, v), (0, t), (0, k), (0, s), x5] [] (sh, q_row h 470 G) = some ((0, zF v t m G s k), (sh, q_row h 470 (fun i => if 0 ≤ i ∧ i < 1354 then h 472 i else G i))) := by
  intro m
  induction m with
  | zero => intro G s k x5 z; have := z.pos; have := z.2.2.2.2.2.2.1; exfalso; omega
  | succ m ih =>
    intro G s k x5 z k0 km
    have z0 := z.t0
    obtain ⟨b1, b2, b3, b4⟩ := z.some
    have nx := z.next
    obtain ⟨z1, z2, z3, z4, z5, z6, z7, z8⟩ := id z
    obtain ⟨m0, m1⟩ := mulb z5 z6 z0 z4
    have kb := r_nextCell (sh := sh) (h := q_row h 470 G) (G := G) (by rw [q_row_ne (by decide)]; exact p0) l (q_row_self _ _ _)
    have zy := z1 (bN G 64) b1 b2
    obtain ⟨y, eb⟩ : ∃ y, bN G 64 = y := ⟨_, rfl⟩
    unfold zF
    rw [eb] at kb b1 b2 b3 b4 nx zy ⊢
    have bs : 0 ≤ sm (fO G) 64 := by
      have := sm_bnd (f := fO G) (a := 0) (b := 99) (n := 64) (by omega) (fun i i0 i1 => by
        have := z1 i i0 i1
        unfold fO
        split <;> omega)
      omega
    rw [e_X12_stop_91]
    have ef : (fun i => if 0 ≤ i ∧ i < 1354 then h 472 i else ud G (1290 + y) 1 i) = (fun i => if 0 ≤ i ∧ i < 1354 then h 472 i else G i) := by
      funext i
      by_cases e : 0 ≤ i ∧ i < 1354
      · rw [if_pos e, if_pos e]
      · rw [if_neg e, if_neg e, ud_ne (by omega)]
    by_cases c : 100 * (s + G (1226 + y)) < v * t
    · have := ih (ud G (1290 + y) 1) (s + G (1226 + y)) (k + 1) (0, y) (nx c) (by omega) (by omega)
      rw [ef] at this
      simp (disch := omega) only [q_470, q_up_far, q_row_row, q_row_self, q_row_ne, q_up_ne, q_up_eq, q_rowup, ud_eq, ud_ne, q_add_id, q_sub_id, q_mul_id, q_w_eq, q_rem_n, q_div_n, ↓reduceIte, leT, leF, ltT, ltF, eqT, eqF, true_or, or_true, false_or, or_false, true_and, and_true, false_and, and_false, or_self, and_self, Option.bind_some, kb, p0, l, this, e_X12_stop_109]
    · have kk := r_keeps (sh := sh) (h := q_row h 470 (ud G (1290 + y) 1)) (a := 470) (b := 472) (by decide) (by decide) l l2
      rw [q_row_self, q_row_row, q_row_ne (by decide), ef] at kk
      simp (disch := omega) only [q_470, q_up_far, q_row_row, q_row_self, q_row_ne, q_up_ne, q_up_eq, q_rowup, ud_eq, ud_ne, q_add_id, q_sub_id, q_mul_id, q_w_eq, q_rem_n, q_div_n, ↓reduceIte, leT, leF, ltT, ltF, eqT, eqF, true_or, or_true, false_or, or_false, true_and, and_true, false_and, and_false, or_self, and_self, Option.bind_some, kb, p0, l, e_X12_stop_109, e_X12_stop_91, e_X12_stop_157, p2, kk]
theorem l_oddsLeft {sh : Int × (Int → Nat × Int)} {h : Int → Int → Int} {b : Int} {G : Int → Int} (b0 : 0 ≤ b) (p0 : h b 0 = b + 1) (l0 : (sh.2 (b + 1)).2 = 64) (ho : ∀ i, 0 ≤ i → i < 64 → h (b + 1) i = G (1226 + i)) (hx : ∀ i, 0 ≤ i → i < 64 → lb (h b 1) i = G (1290 + i)) (hg : ∀ i, 0 ≤ i → i < 64 → (G (1290 + i) = 0 ∨ G (1290 + i) = 1) ∧ 0 ≤ G (1226 + i) ∧ G (1226 + i) ≤ 99) : q_Cc 61 [(16, b)] (sh, h) = some ((0, sm (fO G) 64), (sh, h)) := by
  rw [c_X6_oddsLeft, e_X6_oddsLeft_0]
  refine lp (fun i (y : Int) => q_L 61 4 [(16, b), (0, y), (0, i)] [] (sh, h)) (fun i y => y = sm (fO G) i) (fun r => r = some ((0, sm (fO G) 64), (sh, h))) 64 ?_ ?_ 0 0 (by omega) (by omega) rfl
  · intro i y i0 i1 hy
    subst hy
    have bd := sm_bnd (f := fO G) (a := 0) (b := 99) (n := i) i0 (fun j j0 j1 => by
      have := hg j j0 (by omega)
      unfold fO
      split <;> omega)
    have open1 := k_isOpen (sh := sh) (h := h) (hx i i0 i1) (hg i i0 i1).1
    have gi := hg i i0 i1
    refine Or.inl ⟨sm (fO G) (i + 1), ?_, rfl⟩
    rw [sm_succ i0, e_X6_oddsLeft_4]
    rcases gi.1 with g0 | g0
    · have e1 : fO G i = G (1226 + i) := by unfold fO; rw [if_pos g0]
      simp (disch := omega) only [q_470, q_up_far, q_row_row, q_row_self, q_row_ne, q_up_ne, q_up_eq, q_rowup, ud_eq, ud_ne, q_add_id, q_sub_id, q_mul_id, q_w_eq, q_rem_n, q_div_n, ↓reduceIte, leT, leF, ltT, ltF, eqT, eqF, true_or, or_true, false_or, or_false, true_and, and_true, false_and, and_false, or_self, and_self, Option.bind_some, open1, p0, l0, ho, g0, e1, e_X6_oddsLeft_18, e_X6_oddsLeft_30, Int.reduceSub]
    · have e1 : fO G i = 0 := by unfold fO; rw [if_neg (by omega)]
      simp (disch := omega) only [q_470, q_up_far, q_row_row, q_row_self, q_row_ne, q_up_ne, q_up_eq, q_rowup, ud_eq, ud_ne, q_add_id, q_sub_id, q_mul_id, q_w_eq, q_rem_n, q_div_n, ↓reduceIte, leT, leF, ltT, ltF, eqT, eqF, true_or, or_true, false_or, or_false, true_and, and_true, false_and, and_false, or_self, and_self, Option.bind_some, open1, p0, l0, ho, g0, e1, e_X6_oddsLeft_18, e_X6_oddsLeft_30, Int.reduceSub, Int.add_zero]
  · intro y hy
    subst hy
    show q_L 61 4 _ _ _ = _
    rw [e_X6_oddsLeft_4]
    simp (disch := omega) only [q_470, q_up_far, q_row_row, q_row_self, q_row_ne, q_up_ne, q_up_eq, q_rowup, ud_eq, ud_ne, q_add_id, q_sub_id, q_mul_id, q_w_eq, q_rem_n, q_div_n, ↓reduceIte, leT, leF, ltT, ltF, eqT, eqF, true_or, or_true, false_or, or_false, true_and, and_true, false_and, and_false, or_self, and_self, Option.bind_some, ]
theorem l_all {sh : Int × (Int → Nat × Int)} {h : Int → Int → Int} {v : Int} {G : Int → Int} (p0 : h 469 0 = 470) (l : (sh.2 470).2 = 1354) (hG : h 470 = G) (hg : ∀ i, 0 ≤ i → i < 64 → (G (1290 + i) = 0 ∨ G (1290 + i) = 1) ∧ 0 ≤ G (1226 + i) ∧ G (1226 + i) ≤ 99) : q_L 244 21 [(22, 469), (0, v), (0, 0), (0, 0), (9, 0), (9, 0)] [] (sh, h) = q_L 244 21 [(22, 469), (0, v), (0, sm (fO G) 64), (0, 64), (9, 0), (9, 0)] [] (sh, h) := by
  refine lp (fun i (y : Int) => q_L 244 21 [(22, 469), (0, v), (0, y), (0, i), (9, 0), (9, 0)] [] (sh, h)) (fun i y => y = sm (fO G) i) (fun r => r = q_L 244 21 [(22, 469), (0, v), (0, sm (fO G) 64), (0, 64), (9, 0), (9, 0)] [] (sh, h)) 64 ?_ ?_ 0 0 (by omega) (by omega) rfl
  · intro i y i0 i1 hy
    subst hy
    have bd := sm_bnd (f := fO G) (a := 0) (b := 99) (n := i) i0 (fun j j0 j1 => by
      have := hg j j0 (by omega)
      unfold fO
      split <;> omega)
    have gi := hg i i0 i1
    refine Or.inl ⟨sm (fO G) (i + 1), ?_, rfl⟩
    rw [sm_succ i0, e_X12_stop_21]
    rcases gi.1 with g0 | g0
    · have e1 : fO G i = G (1226 + i) := by unfold fO; rw [if_pos g0]
      simp (disch := omega) only [q_470, q_up_far, q_row_row, q_row_self, q_row_ne, q_up_ne, q_up_eq, q_rowup, ud_eq, ud_ne, q_add_id, q_sub_id, q_mul_id, q_w_eq, q_rem_n, q_div_n, ↓reduceIte, leT, leF, ltT, ltF, eqT, eqF, true_or, or_true, false_or, or_false, true_and, and_true, false_and, and_false, or_self, and_self, Option.bind_some, p0, l, hG, g0, e1, e_X12_stop_55]
    · have e1 : fO G i = 0 := by unfold fO; rw [if_neg (by omega)]
      simp (disch := omega) only [q_470, q_up_far, q_row_row, q_row_self, q_row_ne, q_up_ne, q_up_eq, q_rowup, ud_eq, ud_ne, q_add_id, q_sub_id, q_mul_id, q_w_eq, q_rem_n, q_div_n, ↓reduceIte, leT, leF, ltT, ltF, eqT, eqF, true_or, or_true, false_or, or_false, true_and, and_true, false_and, and_false, or_self, and_self, Option.bind_some, p0, l, hG, g0, e1, e_X12_stop_55, Int.add_zero]
  · intro y hy
    subst hy
    rfl
theorem st_stop (v : Int) : Step 143 244 [(0, v)] := by
  intro sh h hs ho hi
  obtain ⟨w, G, hw1, iw, ew, hG, hp, hr, wf, hh⟩ := hi.opn
  have wr := wf.1
  have u0 := wr.hour; have u1 := wr.nd; have u2 := wr.nc; have u3 := wr.na
  by_cases v1 : 1 ≤ v ∧ v ≤ 100
  · have hg : ∀ i, 0 ≤ i → i < 64 → (G (1290 + i) = 0 ∨ G (1290 + i) = 1) ∧ 0 ≤ G (1226 + i) ∧ G (1226 + i) ≤ 99 := fun i a b => by have := wr.seen (d := i) a b; have := wr.odds (d := i) a b; omega
    have po : h (w + 5) 0 = w + 5 + 1 := by rw [hp.odds iw]; omega
    have lo : (sh.2 (w + 5 + 1)).2 = 64 := by rw [show w + 5 + 1 = w + 6 by omega]; exact hs.odds iw
    have ho : ∀ i, 0 ≤ i → i < 64 → h (w + 5 + 1) i = G (1226 + i) := fun i a b => by rw [show w + 5 + 1 = w + 6 by omega]; exact hr.odds wr i a b
    have ol := l_oddsLeft (sh := sh) (h := h) (b := w + 5) (G := G) (by omega) po lo ho hr.2.2 hg
    have bd := sm_bnd (f := fO G) (a := 0) (b := 99) (n := 64) (by omega) (fun j j0 j1 => by
      have := hg j j0 (by omega)
      unfold fO
      split <;> omega)
    have bc := sm_bnd (f := fC G) (a := 0) (b := 1) (n := 64) (by omega) (fun j j0 j1 => by
      unfold fC
      split <;> omega)
    obtain ⟨t, et⟩ : ∃ t, sm (fO G) 64 = t := ⟨_, rfl⟩
    by_cases t0 : t = 0
    · have bn : bN G 64 = -1 := by
        rcases bN_b G 64 with ⟨b1, _⟩ | ⟨b1, b2, b3, b4⟩
        · exact b1
        · exfalso
          have h0 := sm_one (f := fun i => if i = bN G 64 then 0 else fO G i) (g := fO G) (b := bN G 64) (n := 64) b1 (by omega) (fun i i0 i1 hne => by show fO G i = if i = bN G 64 then 0 else fO G i; rw [if_neg hne])
          have h1 := sm_bnd (f := fun i => if i = bN G 64 then 0 else fO G i) (a := 0) (b := 99) (n := 64) (by omega) (fun i i0 i1 => by
            show 0 ≤ (if i = bN G 64 then 0 else fO G i) ∧ (if i = bN G 64 then 0 else fO G i) ≤ 99
            have := hg i i0 i1
            unfold fO
            split
            · omega
            · split <;> omega)
          have e1 : fO G (bN G 64) = G (1226 + bN G 64) := by unfold fO; rw [if_pos b3]
          simp only [if_true] at h0
          omega
      have kb := k_bestBut (sh := sh) (h := h) (b := w + 5) (x := h (w + 5) 1) (G := G) (by omega) po lo ho hr.2.2 (fun i a c => (hg i a c).1)
      have la := l_all (sh := sh) (h := q_up h 468 3 (q_add (h 468 3) 1)) (v := v) (G := G) (by rw [q_up_far (by decide)]; exact hp.m0) hs.k470 (by rw [q_up_far (by decide)]; exact hG) hg
      have la' := la
      rw [et, t0] at la' ol
      rw [bn] at kb
      refine ⟨-1000004, (q_up h 468 3 (q_add (h 468 3) 1)), q_up (q_up h 468 3 (q_add (h 468 3) 1)) 474 3 (q_add (h 474 3) 1), ?_, ?_, hi.find 3 (by decide) (by decide), fun k hk => ⟨by rw [q_up_far (by omega), q_up_far (by omega)], by rw [q_up_far (by omega)]⟩⟩
      · simp (disch := omega) only [q_470, q_up_far, q_row_row, q_row_self, q_row_ne, q_up_ne, q_up_eq, q_rowup, ud_eq, ud_ne, q_add_id, q_sub_id, q_mul_id, q_w_eq, q_rem_n, q_div_n, ↓reduceIte, leT, leF, ltT, ltF, eqT, eqF, true_or, or_true, false_or, or_false, true_and, and_true, false_and, and_false, or_self, and_self, Option.bind_some, ew, hp.w4 iw, hp.w5 iw, hp.w6 iw, hp.w7 iw, hp.w8 iw, hp.dish iw, hp.craft iw, hp.ask iw, hp.t6, hs.rains iw, hs.dishes iw, hs.crafts iw, hs.asks iw, hs.k468, hr.hour wr, hr.nd wr, hr.nc wr, hr.na wr, k_X11_outside, k_f3 hp.t6 hs.k468, ol, kb, c_X11_stop, e_X11_stop_0, e_X11_stop_7, e_X11_stop_16, e_X11_stop_28, e_X11_stop_39, e_X11_stop_43, c_X6_looksFor, e_X6_looksFor_0, e_X6_looksFor_4, e_X6_looksFor_16, e_X6_looksFor_29]
      · have kg := k_g3 (sh := sh) (h := (q_up h 468 3 (q_add (h 468 3) 1))) (by rw [q_up_far (by decide)]; exact hp.m6) hs.k474
        simp (disch := omega) only [q_470, q_up_far, q_row_row, q_row_self, q_row_ne, q_up_ne, q_up_eq, q_rowup, ud_eq, ud_ne, q_add_id, q_sub_id, q_mul_id, q_w_eq, q_rem_n, q_div_n, ↓reduceIte, leT, leF, ltT, ltF, eqT, eqF, true_or, or_true, false_or, or_false, true_and, and_true, false_and, and_false, or_self, and_self, Option.bind_some, hp.m0, hp.m6, hs.k470, hs.k474, hG, k_X12_in, la', c_X12_stop, e_X12_stop_0, e_X12_stop_7]
        rw [e_X12_stop_21]
        simp (disch := omega) only [q_470, q_up_far, q_row_row, q_row_self, q_row_ne, q_up_ne, q_up_eq, q_rowup, ud_eq, ud_ne, q_add_id, q_sub_id, q_mul_id, q_w_eq, q_rem_n, q_div_n, ↓reduceIte, leT, leF, ltT, ltF, eqT, eqF, true_or, or_true, false_or, or_false, true_and, and_true, false_and, and_false, or_self, and_self, Option.bind_some, hp.m0, hp.m6, hs.k470, hs.k474, hG, kg, e_X12_stop_73]
    · have z : ZI v t 64 G 0 := by
        refine ⟨hg, by omega, by omega, by omega, by omega, by omega, by omega, ?_⟩
        have : 0 < v * t := Int.mul_pos (by omega) (by omega)
        omega
      have ll := l_looks (sh := sh) (h := h) (b := w + 5) (v := v) (t := t) (by omega) po lo 64 G 0 0 (h (w + 5) 1) (9, 0) z (by omega) (by omega) ho hr.2.2
      rw [show (0 : Int) + 1 = 1 from rfl] at ll
      obtain ⟨A, hA⟩ : ∃ A : Int → Int, (fun i => if 0 ≤ i ∧ i < 1354 then h 470 i else h 472 i) = A := ⟨_, rfl⟩
      have k1 := r_keeps (sh := sh) (h := h) (a := 472) (b := 470) (by decide) (by decide) hs.k472 hs.k470
      rw [hA] at k1
      have la := l_all (sh := sh) (h := h) (v := v) (G := G) hp.m0 hs.k470 hG hg
      have rl := r_looks (sh := sh) (h := q_row h 472 A) (v := v) (t := t) (by rw [q_row_ne (by decide)]; exact hp.m0) (by rw [q_row_ne (by decide)]; exact hp.m2) hs.k470 hs.k472 64 G 0 0 (9, 0) z (by omega) (by omega)
      have eA : (fun i => if 0 ≤ i ∧ i < 1354 then q_row h 472 A 472 i else G i) = G := by
        funext i
        rw [q_row_self, ← hA]
        show (if 0 ≤ i ∧ i < 1354 then (if 0 ≤ i ∧ i < 1354 then h 470 i else h 472 i) else G i) = G i
        by_cases e : 0 ≤ i ∧ i < 1354
        · rw [if_pos e, if_pos e, hG]
        · rw [if_neg e]
      have eR : q_row (q_row h 472 A) 470 G = q_row h 472 A := by
        have : (q_row h 472 A) 470 = G := by rw [q_row_ne (by decide)]; exact hG
        rw [← this, q_row_id]
      rw [eA, eR] at rl
      have zb := zF_b 64 G 0 0 z
      rw [et] at ol la
      refine ⟨zF v t 64 G 0 0, h, q_row h 472 A, ?_, ?_, hi.scr ?_ ?_, ?_⟩
      · simp (disch := omega) only [q_470, q_up_far, q_row_row, q_row_self, q_row_ne, q_up_ne, q_up_eq, q_rowup, ud_eq, ud_ne, q_add_id, q_sub_id, q_mul_id, q_w_eq, q_rem_n, q_div_n, ↓reduceIte, leT, leF, ltT, ltF, eqT, eqF, true_or, or_true, false_or, or_false, true_and, and_true, false_and, and_false, or_self, and_self, Option.bind_some, ew, hp.w4 iw, hp.w5 iw, hp.w6 iw, hp.w7 iw, hp.w8 iw, hp.dish iw, hp.craft iw, hp.ask iw, hp.t6, hs.rains iw, hs.dishes iw, hs.crafts iw, hs.asks iw, hs.k468, hr.hour wr, hr.nd wr, hr.nc wr, hr.na wr, k_X11_outside, ol, ll, Int.reduceAdd, c_X11_stop, e_X11_stop_0, e_X11_stop_7, e_X11_stop_16, e_X11_stop_28, e_X11_stop_39, e_X11_stop_43, c_X6_looksFor, e_X6_looksFor_0, e_X6_looksFor_4]
      · simp (disch := omega) only [q_470, q_up_far, q_row_row, q_row_self, q_row_ne, q_up_ne, q_up_eq, q_rowup, ud_eq, ud_ne, q_add_id, q_sub_id, q_mul_id, q_w_eq, q_rem_n, q_div_n, ↓reduceIte, leT, leF, ltT, ltF, eqT, eqF, true_or, or_true, false_or, or_false, true_and, and_true, false_and, and_false, or_self, and_self, Option.bind_some, hp.m0, hp.m6, hs.k470, hs.k474, hG, k_X12_in, la, c_X12_stop, e_X12_stop_0, e_X12_stop_7]
        rw [e_X12_stop_21]
        simp (disch := omega) only [q_470, q_up_far, q_row_row, q_row_self, q_row_ne, q_up_ne, q_up_eq, q_rowup, ud_eq, ud_ne, q_add_id, q_sub_id, q_mul_id, q_w_eq, q_rem_n, q_div_n, ↓reduceIte, leT, leF, ltT, ltF, eqT, eqF, true_or, or_true, false_or, or_false, true_and, and_true, false_and, and_false, or_self, and_self, Option.bind_some, hp.m0, hp.m6, hs.k470, hs.k474, hG, k1, e_X12_stop_86, hp.m2, rl]
      · exact hp.row (fun j => VP_ref (by decide))
      · intro k j hS
        rw [q_row_ne (fun e => hS (by unfold Scr; omega))]
      · intro k hk
        exact ⟨by rw [q_row_ne (by omega)], rfl⟩
  · refine ⟨-1000001, (q_up h 468 0 (q_add (h 468 0) 1)), q_up (q_up h 468 0 (q_add (h 468 0) 1)) 474 0 (q_add (h 474 0) 1), ?_, ?_, hi.find 0 (by decide) (by decide), fun k hk => ⟨by rw [q_up_far (by omega), q_up_far (by omega)], by rw [q_up_far (by omega)]⟩⟩
    · simp (disch := omega) only [q_470, q_up_far, q_row_row, q_row_self, q_row_ne, q_up_ne, q_up_eq, q_rowup, ud_eq, ud_ne, q_add_id, q_sub_id, q_mul_id, q_w_eq, q_rem_n, q_div_n, ↓reduceIte, leT, leF, ltT, ltF, eqT, eqF, true_or, or_true, false_or, or_false, true_and, and_true, false_and, and_false, or_self, and_self, Option.bind_some, ew, hp.w4 iw, hp.w5 iw, hp.w6 iw, hp.w7 iw, hp.w8 iw, hp.dish iw, hp.craft iw, hp.ask iw, hp.t6, hs.rains iw, hs.dishes iw, hs.crafts iw, hs.asks iw, hs.k468, hr.hour wr, hr.nd wr, hr.nc wr, hr.na wr, k_X11_outside, k_f0 hp.t6 hs.k468, c_X11_stop, e_X11_stop_0, e_X11_stop_7, e_X11_stop_16, e_X11_stop_28, e_X11_stop_39, e_X11_stop_43]
    · simp (disch := omega) only [q_470, q_up_far, q_row_row, q_row_self, q_row_ne, q_up_ne, q_up_eq, q_rowup, ud_eq, ud_ne, q_add_id, q_sub_id, q_mul_id, q_w_eq, q_rem_n, q_div_n, ↓reduceIte, leT, leF, ltT, ltF, eqT, eqF, true_or, or_true, false_or, or_false, true_and, and_true, false_and, and_false, or_self, and_self, Option.bind_some, hp.m0, hp.m6, hs.k470, hs.k474, hG, k_X12_in, k_g0 (sh := sh) (h := (q_up h 468 0 (q_add (h 468 0) 1))) (by rw [q_up_far (by decide)]; exact hp.m6) hs.k474, c_X12_stop, e_X12_stop_0, e_X12_stop_7, e_X12_stop_16]
