/-! the whole tape is read -/
theorem q_add_k {K : Int} (h0 : 0 ≤ K) (h1 : K < 4) : q_add K 1 = K + 1 := q_add_id (by omega) (by omega)
theorem q_w_k {K : Int} (h0 : 0 ≤ K) (h1 : K < 4) : q_w (K + 1) = K + 1 := q_w_eq (by omega) (by omega)
def psN (b : Int → Int) (L nc : Int) : Nat → Int
  | 0 => 0
  | n + 1 => (nx b L (rd1 b L nc (psN b L nc n)).2.2.1).1
/-- the fault (-1: none) and how many -/
def rdAll (b : Int → Int) (L nc : Int) : Nat → Nat → Int × Int
  | 0, _ => (0, 0)
  | j + 1, k => if (rd1 b L nc (psN b L nc k)).1 = 1 then (if (nx b L (rd1 b L nc (psN b L nc k)).2.2.1).2.2.1 = 0 then (-1, (k : Int) + 1) else if (nx b L (rd1 b L nc (psN b L nc k)).2.2.1).2.2.1 = 3 ∧ j ≠ 0 then rdAll b L nc j (k + 1) else ((nx b L (rd1 b L nc (psN b L nc k)).2.2.1).2.1, (k : Int) + 1)) else ((rd1 b L nc (psN b L nc k)).2.1, (k : Int) + 1)
/-- all before k are read well -/
def AO (b : Int → Int) (L nc : Int) (k : Int) : Prop := ∀ x : Nat, (x : Int) < k → (rd1 b L nc (psN b L nc x)).1 = 1 ∧ 0 ≤ psN b L nc x ∧ psN b L nc x ≤ L
theorem AO.add {b : Int → Int} {L nc : Int} {k : Nat} (a : AO b L nc k) (h : (rd1 b L nc (psN b L nc k)).1 = 1) (p0 : 0 ≤ psN b L nc k) (p1 : psN b L nc k ≤ L) : AO b L nc ((k : Int) + 1) := by
  intro x hx
  by_cases e : x = k
  · rw [e]; exact ⟨h, p0, p1⟩
  · exact a x (by omega)
def FG (h h' : Int → Int → Int) : Prop := ∀ x y, ¬ ((x = 452 ∧ 3 ≤ y ∧ y ≤ 7) ∨ (455 ≤ x ∧ x ≤ 458)) → h' x y = h x y
theorem FG.trans {h h' h'' : Int → Int → Int} (a : FG h h') (b : FG h' h'') : FG h h'' := fun x y hn => (b x y hn).trans (a x y hn)
theorem FT.fg {R : Int} {h h' : Int → Int → Int} (a : FT R h h') (r0 : 455 ≤ R) (r1 : R ≤ 458) : FG h h' := fun x y hn => a x y (by omega)
theorem TX.fg {h h' : Int → Int → Int} {b : Int → Int} {L : Int} (t : TX h b L) (f : FG h h') : TX h' b L := by
  refine ⟨by rw [f 452 0 (by omega)]; exact t.1, by rw [f 452 1 (by omega)]; exact t.2.1, t.2.2.1, t.2.2.2.1, fun i i0 i1 => ?_⟩
  rw [f 453 i (by omega)]; exact t.2.2.2.2 i i0 i1
/-- the class's rows bear what is read -/
def CV (h : Int → Int → Int) (b : Int → Int) (L nc k : Int) : Prop := ∀ x : Nat, (x : Int) < k → ∀ i, 0 ≤ i → i < 6 → h (455 + x) i = (rd1 b L nc (psN b L nc x)).2.2.2 i
theorem k_all {sh : Int × (Int → Nat × Int)} {b : Int → Int} {L nc : Int} (hs : Sh sh) (nc0 : 0 ≤ nc) (nc1 : nc ≤ 8) : ∀ (j k : Nat) (h : Int → Int → Int), k + (j + 1) = 4 → Ptr h → TX h b L → h 452 3 = k → h 452 4 = psN b L nc k → 0 ≤ psN b L nc k → psN b L nc k ≤ L → AO b L nc k → CV h b L nc k → ∃ h', q_L 78 12 [(19, 452), (0, nc), (0, k)] [] (sh, h) = some ((0, (rdAll b L nc (j + 1) k).1), (sh, h')) ∧ FG h h' ∧ ((rdAll b L nc (j + 1) k).1 = -1 → h' 452 3 = (rdAll b L nc (j + 1) k).2 ∧ 1 ≤ (rdAll b L nc (j + 1) k).2 ∧ (rdAll b L nc (j + 1) k).2 ≤ 4 ∧ AO b L nc (rdAll b L nc (j + 1) k).2 ∧ CV h' b L nc (rdAll b L nc (j + 1) k).2) := by
  have step : ∀ (j k : Nat) (h : Int → Int → Int), k + (j + 1) = 4 → Ptr h → TX h b L → h 452 3 = k → h 452 4 = psN b L nc k → 0 ≤ psN b L nc k → psN b L nc k ≤ L → AO b L nc k → CV h b L nc k → (∀ (h1 : Int → Int → Int), j ≠ 0 → Ptr h1 → TX h1 b L → h1 452 3 = ((k + 1 : Nat) : Int) → h1 452 4 = psN b L nc (k + 1) → 0 ≤ psN b L nc (k + 1) → psN b L nc (k + 1) ≤ L → AO b L nc ((k + 1 : Nat) : Int) → CV h1 b L nc ((k + 1 : Nat) : Int) → ∃ h', q_L 78 12 [(19, 452), (0, nc), (0, ((k + 1 : Nat) : Int))] [] (sh, h1) = some ((0, (rdAll b L nc j (k + 1)).1), (sh, h')) ∧ FG h1 h' ∧ ((rdAll b L nc j (k + 1)).1 = -1 → h' 452 3 = (rdAll b L nc j (k + 1)).2 ∧ 1 ≤ (rdAll b L nc j (k + 1)).2 ∧ (rdAll b L nc j (k + 1)).2 ≤ 4 ∧ AO b L nc (rdAll b L nc j (k + 1)).2 ∧ CV h' b L nc (rdAll b L nc j (k + 1)).2)) → ∃ h', q_L 78 12 [(19, 452), (0, nc), (0, k)] [] (sh, h) = some ((0, (rdAll b L nc (j + 1) k).1), (sh, h')) ∧ FG h h' ∧ ((rdAll b L nc (j + 1) k).1 = -1 → h' 452 3 = (rdAll b L nc (j + 1) k).2 ∧ 1 ≤ (rdAll b L nc (j + 1) k).2 ∧ (rdAll b L nc (j + 1) k).2 ≤ 4 ∧ AO b L nc (rdAll b L nc (j + 1) k).2 ∧ CV h' b L nc (rdAll b L nc (j + 1) k).2) := by
    intro j k h jk hp tx h3 h4 p0 p1 ao cv next
    have k4 : (k : Int) < 4 := by omega
    have lR := hs.read k (by omega) k4
    obtain ⟨h1, q1, f1, c1, c2⟩ := k_rd1 (sh := sh) (nc := nc) hs tx (show 455 ≤ 455 + (k : Int) by omega) lR p0 p1 h4 nc0 nc1
    have g1 : FG h h1 := f1.fg (by omega) (by omega)
    have rdp := hp.read k (by omega) k4
    have tx2 := hp.tx2
    have ls := hs.k454
    have hd : q_L 78 12 [(19, 452), (0, nc), (0, k)] [] (sh, h) = q_L 78 28 [(19, 452), (0, nc), (0, k)] [(0, (rd1 b L nc (psN b L nc k)).1)] (sh, h1) := by
      rw [e_X9_readAll_12]
      simp (disch := omega) only [q_470, q_up_far, q_row_row, q_row_self, q_row_ne, q_up_ne, q_up_eq, q_rowup, ud_eq, ud_ne, q_add_id, q_sub_id, q_mul_id, q_w_eq, q_rem_n, q_div_n, ↓reduceIte, leT, leF, ltT, ltF, eqT, eqF, true_or, or_true, false_or, or_false, true_and, and_true, false_and, and_false, or_self, and_self, Option.bind_some, tx2, ls, rdp, q1]
    rw [hd]
    unfold rdAll
    by_cases z : (rd1 b L nc (psN b L nc k)).1 = 1
    · rw [if_pos z, z]
      obtain ⟨ck, row, r0, r1⟩ := c1 z
      obtain ⟨d1, d2, d3, d4⟩ := id ck
      have nb := nx_b (b := b) tx.2.2.2.1 r0 r1
      obtain ⟨s, es⟩ : ∃ s, (nx b L (rd1 b L nc (psN b L nc k)).2.2.1).2.2.1 = s := ⟨_, rfl⟩
      rw [es] at d3 ⊢
      have h13 : h1 452 3 = k := by rw [f1 452 3 (by omega)]; exact h3
      obtain ⟨h2, e2⟩ : ∃ h2, q_up h1 452 3 ((k : Int) + 1) = h2 := ⟨_, rfl⟩
      have g2 : FG h1 h2 := fun x y hn => by rw [← e2, q_up_ne (by omega)]
      have i3 : h2 452 3 = (k : Int) + 1 := by rw [← e2, q_up_self]
      have i5 : h2 452 5 = (nx b L (rd1 b L nc (psN b L nc k)).2.2.1).2.1 := by rw [← e2, q_up_ne (by omega)]; exact d2
      have i6 : h2 452 6 = s := by rw [← e2, q_up_ne (by omega)]; exact d3
      have ao2 := ao.add z p0 p1
      have cv2 : CV h2 b L nc ((k : Int) + 1) := by
        intro x hx i i0 i1
        rw [← e2, q_up_ne (by omega)]
        by_cases ex : x = k
        · rw [ex]; exact row i i0 i1
        · rw [f1 _ _ (by omega)]; exact cv x (by omega) i i0 i1
      have hd2 : q_L 78 28 [(19, 452), (0, nc), (0, k)] [(0, 1)] (sh, h1) = if s = 0 then some ((0, -1), (sh, h2)) else if s = 3 then q_L 78 12 [(19, 452), (0, nc), (0, (k : Int) + 1)] [] (sh, h2) else some ((0, (nx b L (rd1 b L nc (psN b L nc k)).2.2.1).2.1), (sh, h2)) := by
        have a1 : q_add (k : Int) 1 = (k : Int) + 1 := q_add_k (Int.natCast_nonneg k) k4
        have a2 : q_w ((k : Int) + 1) = (k : Int) + 1 := q_w_k (Int.natCast_nonneg k) k4
        rw [e_X9_readAll_28, if_neg (by decide), h13, a1, a2, e2, i5, i6]
      rw [hd2]
      by_cases z1 : s = 0
      · rw [if_pos z1, if_pos z1]
        exact ⟨h2, rfl, g1.trans g2, fun _ => ⟨i3, by show (1 : Int) ≤ (k : Int) + 1; omega, by show (k : Int) + 1 ≤ 4; omega, ao2, cv2⟩⟩
      · rw [if_neg z1, if_neg z1]
        by_cases z2 : s = 3
        · rw [if_pos z2]
          by_cases z3 : j = 0
          · rw [if_neg (fun hh => hh.2 z3)]
            have k3 : (k : Int) + 1 = 4 := by omega
            refine ⟨h2, ?_, g1.trans g2, fun hh => ?_⟩
            · rw [e_X9_readAll_12, k3, if_neg (by decide), i5]
            · have hh : (nx b L (rd1 b L nc (psN b L nc k)).2.2.1).2.1 = -1 := hh
              omega
          · rw [if_pos ⟨z2, z3⟩]
            have ek : ((k + 1 : Nat) : Int) = (k : Int) + 1 := by omega
            have hp2 : Ptr h2 := by
              intro x y v hv
              rw [← hp x y v hv]
              by_cases e : (x = 452 ∧ 3 ≤ y ∧ y ≤ 7) ∨ (455 ≤ x ∧ x ≤ 458)
              · have : VP0 x y = none := by
                  unfold VP0
                  rw [if_neg (by omega), if_neg (by omega), if_neg (by omega)]
                  by_cases e1 : x = 452
                  · rw [if_pos e1, if_neg (by omega), if_neg (by omega)]
                  · rw [if_neg e1, if_neg (by omega), if_neg (by omega), if_neg (by omega), if_neg (by omega)]
                rw [this] at hv; cases hv
              · rw [g2 x y e, g1 x y e]
            obtain ⟨h', n1, n2, n3⟩ := next h2 z3 hp2 (tx.fg (g1.trans g2)) (by rw [ek]; exact i3) (by rw [← e2, q_up_ne (by omega)]; exact d1) (by show 0 ≤ (nx b L (rd1 b L nc (psN b L nc k)).2.2.1).1; omega) nb.2.2 (by rw [ek]; exact ao2) (by rw [ek]; exact cv2)
            rw [ek] at n1
            exact ⟨h', n1, (g1.trans g2).trans n2, n3⟩
        · rw [if_neg z2, if_neg (fun hh => z2 hh.1)]
          refine ⟨h2, rfl, g1.trans g2, fun hh => ?_⟩
          have hh : (nx b L (rd1 b L nc (psN b L nc k)).2.2.1).2.1 = -1 := hh
          omega
    · rw [if_neg z]
      rcases c2 with c2 | ⟨c2, c3⟩
      · exact (z c2).elim
      · refine ⟨h1, ?_, g1, fun hh => ?_⟩
        · rw [c2, e_X9_readAll_28, if_pos rfl, c3]
        · exfalso
          have hh : (rd1 b L nc (psN b L nc k)).2.1 = -1 := hh
          have := rd1_ft tx.2.2.2.1 p0 p1 z
          omega
  intro j
  induction j with
  | zero => intro k h a1 a2 a3 a4 a5 a6 a7 a8 a9; exact step 0 k h a1 a2 a3 a4 a5 a6 a7 a8 a9 (fun h1 hn => (hn rfl).elim)
  | succ j ih => intro k h a1 a2 a3 a4 a5 a6 a7 a8 a9; exact step (j + 1) k h a1 a2 a3 a4 a5 a6 a7 a8 a9 (fun h1 _ b2 b3 b4 b5 b6 b7 b8 b9 => ih (k + 1) h1 (by omega) b2 b3 b4 b5 b6 b7 b8 b9)
/-! the reference -/
def FH (h h' : Int → Int → Int) : Prop := ∀ x y, ¬ ((x = 469 ∧ 11 ≤ y ∧ y ≤ 15) ∨ x = 479) → h' x y = h x y
theorem FH.trans {h h' h'' : Int → Int → Int} (a : FH h h') (b : FH h' h'') : FH h h'' := fun x y hn => (b x y hn).trans (a x y hn)
theorem FU.fh {h h' : Int → Int → Int} {k : Int} (a : FU h h' k) : FH h h' := fun x y hn => a x y (by omega)
theorem FM.fh {h h' : Int → Int → Int} (a : FM h h') : FH h h' := fun x y hn => a x y (by omega)
theorem TR.fh {h h' : Int → Int → Int} {b : Int → Int} {L : Int} (t : TR h b L) (f : FH h h') : TR h' b L := by
  obtain ⟨t0, t1, t2, t3, t4, t5, t6⟩ := t
  refine ⟨by rw [f 469 4 (by omega)]; exact t0, by rw [f 469 5 (by omega)]; exact t1, by rw [f 469 17 (by omega)]; exact t2, t3, t4, fun i i0 i1 => ?_, fun i i0 i1 => ?_⟩
  · rw [f 473 i (by omega)]; exact t5 i i0 i1
  · rw [f 480 i (by omega)]; exact t6 i i0 i1
theorem FH.ptr {h h' : Int → Int → Int} (a : FH h h') (hp : Ptr h) : Ptr h' := by
  intro x y v hv
  by_cases e : (x = 469 ∧ 11 ≤ y ∧ y ≤ 15) ∨ x = 479
  · have : VP0 x y = none := by
      by_cases e1 : x = 479
      · rw [e1]; exact VP_ref (by decide)
      · have ex : x = 469 := by omega
        subst ex
        have : y = 11 ∨ y = 12 ∨ y = 13 ∨ y = 14 ∨ y = 15 := by omega
        rcases this with q | q | q | q | q <;> (subst q; rfl)
    rw [this] at hv; cases hv
  · rw [a x y e]; exact hp x y v hv
def RVs (h : Int → Int → Int) (b : Int → Int) (L nc k : Int) : Prop := ∀ x : Nat, (x : Int) < k → ∀ i, 0 ≤ i → i < 6 → h 479 (6 * x + i) = (rd1 b L nc (psN b L nc x)).2.2.2 i
theorem r_all {sh : Int × (Int → Nat × Int)} {b : Int → Int} {L : Int} {G : Int → Int} (hs : Sh sh) (wr : WFR G) : ∀ (j k : Nat) (h : Int → Int → Int), k + (j + 1) = 4 → Ptr h → h 470 = G → TR h b L → h 469 15 = -1 → RR h b L (psN b L (G 2) k) → 0 ≤ psN b L (G 2) k → psN b L (G 2) k ≤ L → RVs h b L (G 2) k → ∃ h', q_L 194 18 [(22, 469), (0, k), (0, 1)] [] (sh, h) = some ((0, (rdAll b L (G 2) (j + 1) k).2), (sh, h')) ∧ FH h h' ∧ h' 469 15 = (rdAll b L (G 2) (j + 1) k).1 ∧ (((rdAll b L (G 2) (j + 1) k).1 = -1 ∧ RVs h' b L (G 2) (rdAll b L (G 2) (j + 1) k).2) ∨ (0 ≤ (rdAll b L (G 2) (j + 1) k).1 ∧ (rdAll b L (G 2) (j + 1) k).1 ≤ L)) := by
  have step : ∀ (j k : Nat) (h : Int → Int → Int), k + (j + 1) = 4 → Ptr h → h 470 = G → TR h b L → h 469 15 = -1 → RR h b L (psN b L (G 2) k) → 0 ≤ psN b L (G 2) k → psN b L (G 2) k ≤ L → RVs h b L (G 2) k → (∀ (h1 : Int → Int → Int), j ≠ 0 → Ptr h1 → h1 470 = G → TR h1 b L → h1 469 15 = -1 → RR h1 b L (psN b L (G 2) (k + 1)) → 0 ≤ psN b L (G 2) (k + 1) → psN b L (G 2) (k + 1) ≤ L → RVs h1 b L (G 2) ((k + 1 : Nat) : Int) → ∃ h', q_L 194 18 [(22, 469), (0, ((k + 1 : Nat) : Int)), (0, 1)] [] (sh, h1) = some ((0, (rdAll b L (G 2) j (k + 1)).2), (sh, h')) ∧ FH h1 h' ∧ h' 469 15 = (rdAll b L (G 2) j (k + 1)).1 ∧ (((rdAll b L (G 2) j (k + 1)).1 = -1 ∧ RVs h' b L (G 2) (rdAll b L (G 2) j (k + 1)).2) ∨ (0 ≤ (rdAll b L (G 2) j (k + 1)).1 ∧ (rdAll b L (G 2) j (k + 1)).1 ≤ L))) → ∃ h', q_L 194 18 [(22, 469), (0, k), (0, 1)] [] (sh, h) = some ((0, (rdAll b L (G 2) (j + 1) k).2), (sh, h')) ∧ FH h h' ∧ h' 469 15 = (rdAll b L (G 2) (j + 1) k).1 ∧ (((rdAll b L (G 2) (j + 1) k).1 = -1 ∧ RVs h' b L (G 2) (rdAll b L (G 2) (j + 1) k).2) ∨ (0 ≤ (rdAll b L (G 2) (j + 1) k).1 ∧ (rdAll b L (G 2) (j + 1) k).1 ≤ L)) := by
    intro j k h jk hp hG tr hf ha p0 p1 rv next
    have k4 : (k : Int) < 4 := by omega
    have L1 := tr.2.2.2.2.1
    obtain ⟨h1, q1, f1, c1, c2⟩ := r_rd1 (sh := sh) (kk := k) hs tr hp.m16 hp.m0 hG wr (by omega) k4 p0 p1 ha hf
    have g1 := f1.fh
    have hp1 := g1.ptr hp
    have t1 := tr.fh g1
    have hd : q_L 194 18 [(22, 469), (0, k), (0, 1)] [] (sh, h) = q_L 194 27 [(22, 469), (0, k), (0, 1)] [] (sh, h1) := by
      rw [e_X12_readAll_18, if_neg (by decide), q1]; rfl
    have a2 : q_w ((k : Int) + 1) = (k : Int) + 1 := q_w_k (Int.natCast_nonneg k) k4
    rw [hd]
    unfold rdAll
    by_cases z : (rd1 b L (G 2) (psN b L (G 2) k)).1 = 1
    · rw [if_pos z]
      obtain ⟨hf1, rr, row⟩ := c1 z
      have pb := rd1_pos (b := b) (nc := G 2) L1 p0 p1 z
      have nb := nx_b (b := b) L1 pb.1 pb.2
      obtain ⟨d1, d2, d3, d4, d5⟩ := id rr
      obtain ⟨s, es⟩ : ∃ s, (nx b L (rd1 b L (G 2) (psN b L (G 2) k)).2.2.1).2.2.1 = s := ⟨_, rfl⟩
      rw [es] at d3 d4 ⊢
      obtain ⟨tk, etk⟩ : ∃ tk, h1 469 13 = tk := ⟨_, rfl⟩
      rw [etk] at d3 d4
      have tk3 : tk = 3 ↔ s = 3 := by
        by_cases q : s = 4
        · rcases d4 q with w | ⟨w, -⟩ <;> omega
        · have := d3 q; omega
      have tk0 : tk = 0 ↔ s = 0 := by
        by_cases q : s = 4
        · rcases d4 q with w | ⟨w, -⟩ <;> omega
        · have := d3 q; omega
      have rv2 : RVs h1 b L (G 2) ((k : Int) + 1) := by
        intro x hx i i0 i1
        by_cases ex : x = k
        · rw [ex]; exact row i i0 i1
        · rw [f1 _ _ (by omega)]; exact rv x (by omega) i i0 i1
      have stop : ¬ (s = 3 ∧ j ≠ 0) → q_L 194 27 [(22, 469), (0, k), (0, 1)] [] (sh, h1) = q_L 194 18 [(22, 469), (0, (k : Int) + 1), (0, 0)] [] (sh, h1) := by
        intro hn
        rw [e_X12_readAll_27, hf1, if_pos (by decide), etk, a2]
        by_cases z2 : s = 3
        · have j0 : j = 0 := by
            by_cases q : j = 0
            · exact q
            · exact (hn ⟨z2, q⟩).elim
          rw [if_pos (tk3.mpr z2), if_neg (by omega), e_X12_readAll_54, e_X12_readAll_55, if_pos rfl]
        · rw [if_neg (fun q => z2 (tk3.mp q)), e_X12_readAll_54, e_X12_readAll_55, if_pos rfl]
      by_cases z1 : s = 0
      · rw [if_pos z1]
        refine ⟨h1, ?_, g1, hf1, Or.inl ⟨rfl, rv2⟩⟩
        rw [stop (by omega), e_X12_readAll_18, if_pos rfl, hf1, if_pos (by decide), etk, if_pos (tk0.mpr z1), e_X12_readAll_85]
      · rw [if_neg z1]
        by_cases z2 : s = 3 ∧ j ≠ 0
        · rw [if_pos z2]
          have ek : ((k + 1 : Nat) : Int) = (k : Int) + 1 := by omega
          obtain ⟨h2, q2, f2, r2⟩ := r_nx (sh := sh) hs t1 (show 0 ≤ (nx b L (rd1 b L (G 2) (psN b L (G 2) k)).2.2.1).1 by omega) nb.2.2 d1
          have hG2 : h2 470 = G := by rw [← hG]; funext y; rw [f2 470 y (by omega), g1 470 y (by omega)]
          obtain ⟨h', n1, n2, n3⟩ := next h2 z2.2 (f2.fh.ptr hp1) hG2 (t1.fm f2) (by rw [f2 469 15 (by omega)]; exact hf1) r2 (by show 0 ≤ (nx b L (rd1 b L (G 2) (psN b L (G 2) k)).2.2.1).1; omega) nb.2.2 (by
            rw [ek]
            intro x hx i i0 i1
            rw [f2 479 _ (by omega)]; exact rv2 x hx i i0 i1)
          rw [ek] at n1
          refine ⟨h', ?_, (g1.trans f2.fh).trans n2, n3⟩
          rw [← n1, e_X12_readAll_27, hf1, if_pos (by decide), etk, if_pos (tk3.mpr z2.1), a2, if_pos (by have := z2.2; omega), e_X12_readAll_55, if_neg (by decide), q2]
          show q_L 194 64 [(22, 469), (0, (k : Int) + 1), (0, 1)] [] (sh, h2) = _
          rw [e_X12_readAll_64]
        · rw [if_neg z2]
          refine ⟨q_up h1 469 15 (nx b L (rd1 b L (G 2) (psN b L (G 2) k)).2.2.1).2.1, ?_, g1.trans (fun x y hn => by rw [q_up_ne (by omega)]), q_up_self _ _ _ _, Or.inr ⟨by show 0 ≤ (nx b L (rd1 b L (G 2) (psN b L (G 2) k)).2.2.1).2.1; omega, by show (nx b L (rd1 b L (G 2) (psN b L (G 2) k)).2.2.1).2.1 ≤ L; omega⟩⟩
          rw [stop z2, e_X12_readAll_18, if_pos rfl, hf1, if_pos (by decide), etk, if_neg (fun q => z1 (tk0.mp q))]
          simp (disch := omega) only [q_470, q_up_far, q_row_row, q_row_self, q_row_ne, q_up_ne, q_up_eq, q_rowup, ud_eq, ud_ne, q_add_id, q_sub_id, q_mul_id, q_w_eq, q_rem_n, q_div_n, ↓reduceIte, leT, leF, ltT, ltF, eqT, eqF, true_or, or_true, false_or, or_false, true_and, and_true, false_and, and_false, or_self, and_self, Option.bind_some, hf1, d2, c_X12_wrong, e_X12_wrong_0, e_X12_wrong_19, e_X12_readAll_85]
    · rw [if_neg z]
      rcases c2 with c2 | ⟨c2, c3, c4, c5⟩
      · exact (z c2).elim
      · refine ⟨h1, ?_, g1, c3, Or.inr ⟨c4, c5⟩⟩
        rw [e_X12_readAll_27, c3, if_neg (by omega), a2, e_X12_readAll_54, e_X12_readAll_55, if_pos rfl, e_X12_readAll_18, if_pos rfl, c3, if_neg (by omega), e_X12_readAll_85]
  intro j
  induction j with
  | zero => intro k h a1 a2 a3 a4 a5 a6 a7 a8 a9; exact step 0 k h a1 a2 a3 a4 a5 a6 a7 a8 a9 (fun h1 hn => (hn rfl).elim)
  | succ j ih => intro k h a1 a2 a3 a4 a5 a6 a7 a8 a9; exact step (j + 1) k h a1 a2 a3 a4 a5 a6 a7 a8 a9 (fun h1 _ b2 b3 b4 b5 b6 b7 b8 b9 => ih (k + 1) h1 (by omega) b2 b3 b4 b5 b6 b7 b8 b9)
