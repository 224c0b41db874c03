/-! asks -/
theorem FG.ptr {h h' : Int → Int → Int} (g : FG h h') (hp : Ptr h) : Ptr h' := by
  intro x y v hv
  rw [← hp x y v hv]
  by_cases e : (x = 452 ∧ 3 ≤ y ∧ y ≤ 7) ∨ (455 ≤ x ∧ x ≤ 458)
  · have : VP0 x y = none := by
      unfold VP0
      rw [if_neg (by omega), if_neg (by omega), if_neg (by omega)]
      by_cases e1 : x = 452
      · rw [if_pos e1, if_neg (by omega), if_neg (by omega)]
      · rw [if_neg e1, if_neg (by omega), if_neg (by omega), if_neg (by omega), if_neg (by omega)]
    rw [this] at hv; cases hv
  · rw [g x y e]
theorem k_readAll {sh : Int × (Int → Nat × Int)} {h : Int → Int → Int} {b : Int → Int} {L nc : Int} (hs : Sh sh) (hp : Ptr h) (nc0 : 0 ≤ nc) (nc1 : nc ≤ 8) (tx : TX h b L) : ∃ h', q_Cc 78 [(19, 452), (0, nc)] (sh, h) = some ((0, (rdAll b L nc 4 0).1), (sh, h')) ∧ FG h h' ∧ ((rdAll b L nc 4 0).1 = -1 → h' 452 3 = (rdAll b L nc 4 0).2 ∧ 1 ≤ (rdAll b L nc 4 0).2 ∧ (rdAll b L nc 4 0).2 ≤ 4 ∧ AO b L nc (rdAll b L nc 4 0).2 ∧ CV h' b L nc (rdAll b L nc 4 0).2) := by
  obtain ⟨h1, e1⟩ : ∃ h1, q_up (q_up h 452 4 0) 452 3 0 = h1 := ⟨_, rfl⟩
  have g1 : FG h h1 := fun x y hn => by rw [← e1, q_up_ne (by omega), q_up_ne (by omega)]
  obtain ⟨h', q1, q2, q3⟩ := k_all (sh := sh) (b := b) (L := L) (nc := nc) hs nc0 nc1 3 0 h1 rfl (g1.ptr hp) (tx.fg g1) (by rw [← e1, q_up_self]; rfl) (by rw [← e1, q_up_ne (by decide), q_up_self]; rfl) (Int.le_refl _) tx.2.2.1 (fun x hx => by omega) (fun x hx => by omega)
  refine ⟨h', ?_, g1.trans q2, q3⟩
  have q1 : q_L 78 12 [(19, 452), (0, nc), (0, 0)] [] (sh, h1) = some ((0, (rdAll b L nc 4 0).1), (sh, h')) := q1
  rw [c_X9_readAll, e_X9_readAll_0, e1]
  exact q1
theorem r_readAll {sh : Int × (Int → Nat × Int)} {h : Int → Int → Int} {b : Int → Int} {L : Int} {G : Int → Int} (hs : Sh sh) (hp : Ptr h) (hG : h 470 = G) (wr : WFR G) (tr : TR h b L) : ∃ h', q_Cc 194 [(22, 469)] (sh, h) = some ((0, (rdAll b L (G 2) 4 0).2), (sh, h')) ∧ FH h h' ∧ h' 469 15 = (rdAll b L (G 2) 4 0).1 ∧ (((rdAll b L (G 2) 4 0).1 = -1 ∧ RVs h' b L (G 2) (rdAll b L (G 2) 4 0).2) ∨ (0 ≤ (rdAll b L (G 2) 4 0).1 ∧ (rdAll b L (G 2) 4 0).1 ≤ L)) := by
  obtain ⟨h1, e1⟩ : ∃ h1, q_up (q_up h 469 11 0) 469 15 (-1) = h1 := ⟨_, rfl⟩
  have g1 : FH h h1 := fun x y hn => by rw [← e1, q_up_ne (by omega), q_up_ne (by omega)]
  have t1 := tr.fh g1
  obtain ⟨h2, q2, f2, r2⟩ := r_nx (sh := sh) hs t1 (Int.le_refl 0) tr.2.2.2.1 (by rw [← e1, q_up_ne (by decide), q_up_self])
  obtain ⟨h', q3, q4, q5⟩ := r_all (sh := sh) (b := b) (L := L) hs wr 3 0 h2 rfl (f2.fh.ptr (g1.ptr hp)) (by rw [← hG]; funext y; rw [f2 470 y (by omega), g1 470 y (by omega)]) (t1.fm f2) (by rw [f2 469 15 (by omega), ← e1, q_up_self]) r2 (Int.le_refl _) tr.2.2.2.1 (fun x hx => by omega)
  refine ⟨h', ?_, (g1.trans f2.fh).trans q4, q5⟩
  have q3 : q_L 194 18 [(22, 469), (0, 0), (0, 1)] [] (sh, h2) = some ((0, (rdAll b L (G 2) 4 0).2), (sh, h')) := q3
  rw [c_X12_readAll, e_X12_readAll_0, e1, q2, Option.bind_some]
  show q_L 194 16 [(22, 469), (0, 0), (9, 0)] [] (sh, h2) = _
  rw [e_X12_readAll_16]
  exact q3
theorem k_adds1 {sh : Int × (Int → Nat × Int)} {y y' : Int → Int → Int} {w i M x1 : Int} (t4 : y 0 4 = 452) (tx2 : y 452 2 = 454) (ls : (sh.2 454).2 = 4) (y0 : y 0 0 = w) (y3 : y 452 3 = M) (i0 : 0 ≤ i) (i4 : i < 4) (iM : i < M) (w0 : 1 ≤ w) (rdp : y 454 i = 455 + i) (q1 : q_Cc 94 [(20, w), (30, 455 + i)] (sh, y) = some ((9, 0), (sh, y'))) : q_L 119 60 [(21, 0), (0, x1), (0, i)] [] (sh, y) = q_L 119 60 [(21, 0), (0, x1), (0, i + 1)] [] (sh, y') := by
  rw [e_X11_asks_60]
  simp (disch := omega) only [q_470, q_up_far, q_row_row, q_row_self, q_row_ne, q_up_ne, q_up_eq, q_rowup, ud_eq, ud_ne, q_add_id, q_sub_id, q_mul_id, q_w_eq, q_rem_n, q_div_n, ↓reduceIte, leT, leF, ltT, ltF, eqT, eqF, true_or, or_true, false_or, or_false, true_and, and_true, false_and, and_false, or_self, and_self, Option.bind_some, t4, tx2, ls, y3, y0, rdp, q1, e_X11_asks_87]
theorem k_adds {sh : Int × (Int → Nat × Int)} {h : Int → Int → Int} {w : Int} {G : Int → Int} {V : Nat → Int → Int} {m : Nat} {x1 : Int} (hs : Sh sh) (hp : Ptr h) (iw : isW w) (hw : h 0 0 = w) (w147 : w + 147 ≤ 442) (hr : RelW h w G) (m4 : m ≤ 4) (hm : h 452 3 = m) (n3 : G 3 + m ≤ 14) (ok : ∀ n : Nat, n ≤ m → WF (adN G V n) ∧ adN G V n 3 = G 3 + n) (hV : ∀ x : Nat, x < m → ∀ i, 0 ≤ i → i < 6 → h (455 + x) i = V x i) : ∃ h', q_L 119 60 [(21, 0), (0, x1), (0, 0)] [] (sh, h) = some ((0, (m : Int)), (sh, q_up h' 452 1 0)) ∧ Ptr h' ∧ RelW h' w (adN G V m) ∧ ∀ k, (k < w ∨ w + 147 ≤ k) → h' k = h k := by
  have w0 := iw.b
  refine lp (fun i (y : Int → Int → Int) => q_L 119 60 [(21, 0), (0, x1), (0, i)] [] (sh, y)) (fun i y => Ptr y ∧ RelW y w (adN G V i.toNat) ∧ ∀ k, (k < w ∨ w + 147 ≤ k) → y k = h k) (fun r => ∃ h', r = some ((0, (m : Int)), (sh, q_up h' 452 1 0)) ∧ Ptr h' ∧ RelW h' w (adN G V m) ∧ ∀ k, (k < w ∨ w + 147 ≤ k) → h' k = h k) m ?_ ?_ 0 h (by omega) (by omega) ⟨hp, hr, fun k _ => rfl⟩
  · intro i y i0 i1 hI
    obtain ⟨hpy, hry, fy⟩ := hI
    have ei : (i.toNat : Int) = i := Int.toNat_of_nonneg i0
    have es : (i + 1).toNat = i.toNat + 1 := by omega
    obtain ⟨wi, ci⟩ := ok i.toNat (by omega)
    have rdp := hpy.read i i0 (by omega)
    have lR := hs.read i i0 (by omega)
    have y3 : y 452 3 = m := by rw [fy 452 (by omega)]; exact hm
    have y0 : y 0 0 = w := by rw [fy 0 (by omega)]; exact hw
    have i4 : i < 4 := by omega
    obtain ⟨y', q1, q2, q3, q4⟩ := k_addAsking (sh := sh) (R := 455 + i) (V := V i.toNat) hs hpy iw hry wi.1 (by omega) (by omega) lR (fun j j0 j1 => by
      have := hV i.toNat (by omega) j j0 j1
      rw [ei] at this
      rw [fy _ (by omega)]; exact this)
    left
    refine ⟨y', ?_, q2, ?_, fun k hk => by rw [q4 k hk]; exact fy k hk⟩
    · exact k_adds1 hpy.t4 hpy.tx2 hs.k454 y0 y3 i0 i4 i1 w0.1 rdp q1
    · rw [es]; exact q3
  · intro y hI
    obtain ⟨hpy, hry, fy⟩ := hI
    have y3 : y 452 3 = m := by rw [fy 452 (by omega)]; exact hm
    refine ⟨y, ?_, hpy, hry, fy⟩
    show q_L 119 60 [(21, 0), (0, x1), (0, (m : Int))] [] (sh, y) = _
    have t4 := hpy.t4
    rw [e_X11_asks_60]
    simp (disch := omega) only [q_470, q_up_far, q_row_row, q_row_self, q_row_ne, q_up_ne, q_up_eq, q_rowup, ud_eq, ud_ne, q_add_id, q_sub_id, q_mul_id, q_w_eq, q_rem_n, q_div_n, ↓reduceIte, leT, leF, ltT, ltF, eqT, eqF, true_or, or_true, false_or, or_false, true_and, and_true, false_and, and_false, or_self, and_self, Option.bind_some, t4, y3, e_X11_asks_100, c_X9_clear, e_X9_clear_0]
theorem r_adds1 {sh : Int × (Int → Nat × Int)} {g : Int → Int → Int} {F V : Int → Int} {k a M : Int} {x3 x4 : q_V} (hs : Sh sh) (g0 : g 469 0 = 470) (g16 : g 469 16 = 479) (k0 : 0 ≤ k) (k4 : k < 4) (kM : k < M) (ha : F 3 = a) (a0 : 0 ≤ a) (a14 : a < 14) (hV : ∀ i, 0 ≤ i → i < 6 → g 479 (6 * k + i) = V i) : q_L 195 51 [(22, 469), (0, M), (0, k), x3, x4] [] (sh, q_row g 470 F) = q_L 195 51 [(22, 469), (0, M), (0, k + 1), (0, a), (0, 6)] [] (sh, q_row g 470 (adG F V)) := by
  have V0 := hV 0 (by decide) (by decide)
  have V1 := hV 1 (by decide) (by decide)
  have V2 := hV 2 (by decide) (by decide)
  have V3 := hV 3 (by decide) (by decide)
  have V4 := hV 4 (by decide) (by decide)
  have V5 := hV 5 (by decide) (by decide)
  clear hV
  unfold adG
  rw [e_X12_asks_51]
  simp (disch := omega) only [q_470, q_up_far, q_row_row, q_row_self, q_row_ne, q_up_ne, q_up_eq, q_rowup, ud_eq, ud_ne, q_add_id, q_sub_id, q_mul_id, q_w_eq, q_rem_n, q_div_n, ↓reduceIte, leT, leF, ltT, ltF, eqT, eqF, true_or, or_true, false_or, or_false, true_and, and_true, false_and, and_false, or_self, and_self, Option.bind_some, g0, g16, ha, hs.k470, hs.k479, V0, V1, V2, V3, V4, V5, Int.reduceMul, Int.reduceAdd, e_X12_asks_66]
