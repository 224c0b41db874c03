theorem BE.di {h0 h : Int → Int → Int} {w v : Int} {C : Int → Int → Prop} (be : BE h0 h w v C) (ww : W2 w v) {r a b : Int} (r0 : 0 ≤ r) (r1 : r < 147) (ha : a = w + r) (hb : b = v + r) (hn : ∀ j, VP0 a j = none) : BE h0 (diB h a b) w v (fun p q => C p q ∨ (p = r ∧ 0 ≤ q ∧ q < 4)) := by
  have hs := be.src ww r0 r1 hb
  unfold diB
  rw [hs]
  refine ((((be.up r r0 r1 ha (hn 0) rfl).up r r0 r1 ha (hn 1) rfl).up r r0 r1 ha (hn 2) rfl).up r r0 r1 ha (hn 3) rfl).mono ?_
  intro p q hc
  rcases hc with hc | ⟨e, q0, q1⟩
  · exact Or.inl (Or.inl (Or.inl (Or.inl hc)))
  · have : q = 0 ∨ q = 1 ∨ q = 2 ∨ q = 3 := by omega
    rcases this with z | z | z | z
    · exact Or.inl (Or.inl (Or.inl (Or.inr ⟨e, z⟩)))
    · exact Or.inl (Or.inl (Or.inr ⟨e, z⟩))
    · exact Or.inl (Or.inr ⟨e, z⟩)
    · exact Or.inr ⟨e, z⟩
theorem BE.as {h0 h : Int → Int → Int} {w v : Int} {C : Int → Int → Prop} (be : BE h0 h w v C) (ww : W2 w v) {r a b : Int} (r0 : 0 ≤ r) (r1 : r < 147) (ha : a = w + r) (hb : b = v + r) (hn : ∀ j, VP0 a j = none) : BE h0 (asB h a b) w v (fun p q => C p q ∨ (p = r ∧ 0 ≤ q ∧ q < 9)) := by
  have hs := be.src ww r0 r1 hb
  unfold asB
  rw [hs]
  refine (((((((((be.up r r0 r1 ha (hn 0) rfl).up r r0 r1 ha (hn 1) rfl).up r r0 r1 ha (hn 2) rfl).up r r0 r1 ha (hn 3) rfl).up r r0 r1 ha (hn 4) rfl).up r r0 r1 ha (hn 5) rfl).up r r0 r1 ha (hn 6) rfl).up r r0 r1 ha (hn 7) rfl).up r r0 r1 ha (hn 8) rfl).mono ?_
  intro p q hc
  rcases hc with hc | ⟨e, q0, q1⟩
  · exact Or.inl (Or.inl (Or.inl (Or.inl (Or.inl (Or.inl (Or.inl (Or.inl (Or.inl hc))))))))
  · have : q = 0 ∨ q = 1 ∨ q = 2 ∨ q = 3 ∨ q = 4 ∨ q = 5 ∨ q = 6 ∨ q = 7 ∨ q = 8 := by omega
    rcases this with z | z | z | z | z | z | z | z | z
    · exact Or.inl (Or.inl (Or.inl (Or.inl (Or.inl (Or.inl (Or.inl (Or.inl (Or.inr ⟨e, z⟩))))))))
    · exact Or.inl (Or.inl (Or.inl (Or.inl (Or.inl (Or.inl (Or.inl (Or.inr ⟨e, z⟩)))))))
    · exact Or.inl (Or.inl (Or.inl (Or.inl (Or.inl (Or.inl (Or.inr ⟨e, z⟩))))))
    · exact Or.inl (Or.inl (Or.inl (Or.inl (Or.inl (Or.inr ⟨e, z⟩)))))
    · exact Or.inl (Or.inl (Or.inl (Or.inl (Or.inr ⟨e, z⟩))))
    · exact Or.inl (Or.inl (Or.inl (Or.inr ⟨e, z⟩)))
    · exact Or.inl (Or.inl (Or.inr ⟨e, z⟩))
    · exact Or.inl (Or.inr ⟨e, z⟩)
    · exact Or.inr ⟨e, z⟩
theorem BE.bl {h0 h : Int → Int → Int} {w v : Int} {C : Int → Int → Prop} (be : BE h0 h w v C) (ww : W2 w v) {r a b : Int} (r0 : 0 ≤ r) (r1 : r < 145) (ha : a = w + r) (hb : b = v + r) (hn : ∀ j, j < 6 → VP0 a j = none) (h1 : ∀ j, VP0 (a + 1) j = none) (h2 : ∀ j, VP0 (a + 2) j = none) : BE h0 (blB h a b) w v (fun p q => C p q ∨ (p = r ∧ 0 ≤ q ∧ q < 6) ∨ ((p = r + 1 ∨ p = r + 2) ∧ 0 ≤ q ∧ q < 12)) := by
  have hs := be.src ww r0 (by omega) hb
  unfold blB
  rw [hs]
  refine ((((((((be.up r r0 (by omega) ha (hn 0 (by decide)) rfl).up r r0 (by omega) ha (hn 1 (by decide)) rfl).up r r0 (by omega) ha (hn 2 (by decide)) rfl).up r r0 (by omega) ha (hn 3 (by decide)) rfl).up r r0 (by omega) ha (hn 4 (by decide)) rfl).up r r0 (by omega) ha (hn 5 (by decide)) rfl).cp ww (r + 1) 12 (by omega) (by omega) (by omega) (by omega) h1).cp ww (r + 2) 12 (by omega) (by omega) (by omega) (by omega) h2).mono ?_
  intro p q hc
  rcases hc with hc | ⟨e, q0, q1⟩ | ⟨e | e, q0, q1⟩
  · exact Or.inl (Or.inl (Or.inl (Or.inl (Or.inl (Or.inl (Or.inl (Or.inl hc)))))))
  · have : q = 0 ∨ q = 1 ∨ q = 2 ∨ q = 3 ∨ q = 4 ∨ q = 5 := by omega
    rcases this with z | z | z | z | z | z
    · exact Or.inl (Or.inl (Or.inl (Or.inl (Or.inl (Or.inl (Or.inl (Or.inr ⟨e, z⟩)))))))
    · exact Or.inl (Or.inl (Or.inl (Or.inl (Or.inl (Or.inl (Or.inr ⟨e, z⟩))))))
    · exact Or.inl (Or.inl (Or.inl (Or.inl (Or.inl (Or.inr ⟨e, z⟩)))))
    · exact Or.inl (Or.inl (Or.inl (Or.inl (Or.inr ⟨e, z⟩))))
    · exact Or.inl (Or.inl (Or.inl (Or.inr ⟨e, z⟩)))
    · exact Or.inl (Or.inl (Or.inr ⟨e, z⟩))
  · exact Or.inl (Or.inr ⟨e, q0, q1⟩)
  · exact Or.inr ⟨e, q0, q1⟩
theorem BE.or {h0 h : Int → Int → Int} {w v : Int} {C : Int → Int → Prop} (be : BE h0 h w v C) (ww : W2 w v) {r a b : Int} (r0 : 0 ≤ r) (r1 : r < 141) (ha : a = w + r) (hb : b = v + r) (hn : VP0 a 0 = none) (h1 : ∀ k j, 1 ≤ k → k ≤ 6 → VP0 (a + k) j = none) : BE h0 (orB h a b) w v (fun p q => C p q ∨ (p = r ∧ q = 0) ∨ ((r + 1 ≤ p ∧ p ≤ r + 6) ∧ 0 ≤ q ∧ q < 12)) := by
  have hs := be.src ww r0 (by omega) hb
  unfold orB
  rw [hs]
  refine (((((((be.up r r0 (by omega) ha hn rfl).cp ww (r + 1) 12 (by omega) (by omega) (by omega) (by omega) (fun j => h1 1 j (by decide) (by decide))).cp ww (r + 2) 12 (by omega) (by omega) (by omega) (by omega) (fun j => h1 2 j (by decide) (by decide))).cp ww (r + 3) 12 (by omega) (by omega) (by omega) (by omega) (fun j => h1 3 j (by decide) (by decide))).cp ww (r + 4) 12 (by omega) (by omega) (by omega) (by omega) (fun j => h1 4 j (by decide) (by decide))).cp ww (r + 5) 12 (by omega) (by omega) (by omega) (by omega) (fun j => h1 5 j (by decide) (by decide))).cp ww (r + 6) 12 (by omega) (by omega) (by omega) (by omega) (fun j => h1 6 j (by decide) (by decide))).mono ?_
  intro p q hc
  rcases hc with hc | ⟨e, z⟩ | ⟨⟨e0, e1⟩, q0, q1⟩
  · exact Or.inl (Or.inl (Or.inl (Or.inl (Or.inl (Or.inl (Or.inl hc))))))
  · exact Or.inl (Or.inl (Or.inl (Or.inl (Or.inl (Or.inl (Or.inr ⟨e, z⟩))))))
  · have : p = r + 1 ∨ p = r + 2 ∨ p = r + 3 ∨ p = r + 4 ∨ p = r + 5 ∨ p = r + 6 := by omega
    rcases this with e | e | e | e | e | e
    · exact Or.inl (Or.inl (Or.inl (Or.inl (Or.inl (Or.inr ⟨e, q0, q1⟩)))))
    · exact Or.inl (Or.inl (Or.inl (Or.inl (Or.inr ⟨e, q0, q1⟩))))
    · exact Or.inl (Or.inl (Or.inl (Or.inr ⟨e, q0, q1⟩)))
    · exact Or.inl (Or.inl (Or.inr ⟨e, q0, q1⟩))
    · exact Or.inl (Or.inr ⟨e, q0, q1⟩)
    · exact Or.inr ⟨e, q0, q1⟩
theorem BE.rw {h0 h : Int → Int → Int} {w v : Int} {C : Int → Int → Prop} (be : BE h0 h w v C) (ww : W2 w v) {r a b n : Int} (r0 : 0 ≤ r) (r1 : r < 146) (ha : a = w + r) (hb : b = v + r) (hn : VP0 a 1 = none) (h1 : ∀ j, VP0 (a + 1) j = none) : BE h0 (rwB h a b n) w v (fun p q => C p q ∨ (p = r ∧ q = 1) ∨ (p = r + 1 ∧ 0 ≤ q ∧ q < n)) := by
  have hs := be.src ww r0 (by omega) hb
  unfold rwB
  rw [hs]
  refine ((be.up r r0 (by omega) ha hn rfl).cp ww (r + 1) n (by omega) (by omega) (by omega) (by omega) h1).mono ?_
  intro p q hc
  rcases hc with hc | z | z
  · exact Or.inl (Or.inl hc)
  · exact Or.inl (Or.inr z)
  · exact Or.inr z
/-- a craft's slots that bear numbers -/
def DC (c p q : Int) : Prop := ((13 + 15 * c ≤ p ∧ p ≤ 13 + 15 * c + 2) ∧ 0 ≤ q ∧ q < 3) ∨ (p = 13 + 15 * c + 3 ∧ 0 ≤ q ∧ q < 6) ∨ ((p = 13 + 15 * c + 4 ∨ p = 13 + 15 * c + 5) ∧ 0 ≤ q ∧ q < 12) ∨ (p = 13 + 15 * c + 6 ∧ q = 0) ∨ ((13 + 15 * c + 7 ≤ p ∧ p ≤ 13 + 15 * c + 12) ∧ 0 ≤ q ∧ q < 12) ∨ (p = 13 + 15 * c + 13 ∧ q = 1) ∨ (p = 13 + 15 * c + 14 ∧ 0 ≤ q ∧ q < 8)
theorem k_craftB {sh : Int × (Int → Nat × Int)} {h0 h : Int → Int → Int} {w v c : Int} {C : Int → Int → Prop} (hs : Sh sh) (ww : W2 w v) (be : BE h0 h w v C) (c0 : 0 ≤ c) (c8 : c < 8) : ∃ h', q_Cc 21 [(12, w + 13 + 15 * c), (12, v + 13 + 15 * c)] (sh, h) = some ((9, 0), (sh, h')) ∧ BE h0 h' w v (fun p q => C p q ∨ DC c p q) := by
  have iw := ww.1
  have iv := ww.2.1
  have w0 := iw.b
  have v0 := iv.b
  have far := fun r r0 r1 => ww.far (r := r) r0 r1
  have d0 := ww.far (r := 0) (by decide) (by decide)
  have d1 : v + 147 ≤ w ∨ w + 147 ≤ v := by have := ww.far (r := 146) (by decide) (by decide); omega
  have hp := be.2.1
  have ne : v + 13 + 15 * c ≠ w + 13 + 15 * c := by omega
  obtain ⟨h1, e1⟩ : ∃ h1, q_cp (q_cp (q_up (q_up (q_up h (w + 13 + 15 * c) 0 (h (v + 13 + 15 * c) 0)) (w + 13 + 15 * c) 1 (h (v + 13 + 15 * c) 1)) (w + 13 + 15 * c) 2 (h (v + 13 + 15 * c) 2)) (v + 13 + 15 * c + 1) 0 (w + 13 + 15 * c + 1) 0 3) (v + 13 + 15 * c + 2) 0 (w + 13 + 15 * c + 2) 0 3 = h1 := ⟨_, rfl⟩
  have b1 : BE h0 h1 w v (fun p q => C p q ∨ ((13 + 15 * c ≤ p ∧ p ≤ 13 + 15 * c + 2) ∧ 0 ≤ q ∧ q < 3)) := by
    have hb := be.src ww (r := 13 + 15 * c) (by omega) (by omega) (b := v + 13 + 15 * c) (by omega)
    rw [← e1, hb]
    refine (((((be.up (13 + 15 * c) (by omega) (by omega) (by omega) (pn_c0 iw c0 c8 (by decide)) rfl).up (13 + 15 * c) (by omega) (by omega) (by omega) (pn_c0 iw c0 c8 (by decide)) rfl).up (13 + 15 * c) (by omega) (by omega) (by omega) (pn_c0 iw c0 c8 (by decide)) rfl).cp ww (13 + 15 * c + 1) 3 (by omega) (by omega) (by omega) (by omega) (fun j => VP_cr iw c0 c8 (by omega) (by omega) (by omega))).cp ww (13 + 15 * c + 2) 3 (by omega) (by omega) (by omega) (by omega) (fun j => VP_cr iw c0 c8 (by omega) (by omega) (by omega))).mono ?_
    intro p q hc
    rcases hc with hc | ⟨⟨p0, p1⟩, q0, q1⟩
    · exact Or.inl (Or.inl (Or.inl (Or.inl (Or.inl hc))))
    · have : p = 13 + 15 * c ∨ p = 13 + 15 * c + 1 ∨ p = 13 + 15 * c + 2 := by omega
      rcases this with e | e | e
      · have : q = 0 ∨ q = 1 ∨ q = 2 := by omega
        rcases this with z | z | z
        · exact Or.inl (Or.inl (Or.inl (Or.inl (Or.inr ⟨e, z⟩))))
        · exact Or.inl (Or.inl (Or.inl (Or.inr ⟨e, z⟩)))
        · exact Or.inl (Or.inl (Or.inr ⟨e, z⟩))
      · exact Or.inl (Or.inr ⟨e, q0, q1⟩)
      · exact Or.inr ⟨e, q0, q1⟩
  have r1 : q_Cc 21 [(12, w + 13 + 15 * c), (12, v + 13 + 15 * c)] (sh, h) = q_L 21 52 [(12, w + 13 + 15 * c), (12, v + 13 + 15 * c)] [] (sh, h1) := by
    rw [← e1]
    have c1 : ∀ (g : Int → Int → Int) (x y : Int), q_cp g x 0 (w + 13 + 15 * c + 1) 0 3 (v + 13 + 15 * c) = g (v + 13 + 15 * c) := fun g x y => q_cp_far (by omega)
    have c2 : ∀ (g : Int → Int → Int) (x y : Int), q_cp g x 0 (w + 13 + 15 * c + 1) 0 3 (w + 13 + 15 * c) = g (w + 13 + 15 * c) := fun g x y => q_cp_far (by omega)
    simp (disch := omega) only [q_470, q_up_far, q_row_row, q_row_self, q_row_ne, q_up_ne, q_up_eq, q_rowup, ud_eq, ud_ne, q_add_id, q_sub_id, q_mul_id, q_w_eq, q_rem_n, q_div_n, ↓reduceIte, leT, leF, ltT, ltF, eqT, eqF, true_or, or_true, false_or, or_false, true_and, and_true, false_and, and_false, or_self, and_self, Option.bind_some, c1 _ _ 0, c2 _ _ 0, q_cp_far, hp.upFrom iw, hp.upFrom iv, hp.upFor iw, hp.upFor iv, hs.c1 iw, hs.c1 iv, hs.c2 iw, hs.c2 iv, c_X2_become, e_X2_become_0, e_X2_become_38]
  have p1 := b1.2.1
  have a4 : ∀ z, z + 13 + 15 * c + 3 + 1 = z + 13 + 15 * c + 4 := fun z => by omega
  have a5 : ∀ z, z + 13 + 15 * c + 3 + 2 = z + 13 + 15 * c + 5 := fun z => by omega
  have r2 := k_blB (sh := sh) (h := h1) (a := w + 13 + 15 * c + 3) (b := v + 13 + 15 * c + 3) (by omega) (by omega) (by omega) (by rw [a4]; exact p1.bnum iw c c0 c8) (by rw [a4]; exact p1.bnum iv c c0 c8) (by rw [a5]; exact p1.bsent iw c c0 c8) (by rw [a5]; exact p1.bsent iv c c0 c8) (by rw [a4]; exact hs.c4 iw c c0 c8) (by rw [a4]; exact hs.c4 iv c c0 c8) (by rw [a5]; exact hs.c5 iw c c0 c8) (by rw [a5]; exact hs.c5 iv c c0 c8)
  have b2 := b1.bl ww (r := 13 + 15 * c + 3) (a := w + 13 + 15 * c + 3) (b := v + 13 + 15 * c + 3) (by omega) (by omega) (by omega) (by omega) (fun j hj => VP_cr iw c0 c8 (by omega) (by omega) (by omega)) (fun j => by rw [a4]; exact VP_cr iw c0 c8 (by omega) (by omega) (by omega)) (fun j => by rw [a5]; exact VP_cr iw c0 c8 (by omega) (by omega) (by omega))
  obtain ⟨h2, e2⟩ : ∃ h2, blB h1 (w + 13 + 15 * c + 3) (v + 13 + 15 * c + 3) = h2 := ⟨_, rfl⟩
  rw [e2] at r2 b2
  have p2 := b2.2.1
  have a6 : ∀ z j, z + 13 + 15 * c + 6 + j = z + 13 + 15 * c + (6 + j) := fun z j => by omega
  have po : ∀ (z : Int) (iz : isW z), ∀ j, 1 ≤ j → j ≤ 6 → h2 (z + 13 + 15 * c + 6) j = z + 13 + 15 * c + 6 + j := by
    intro z iz j j1 j6
    have : j = 1 ∨ j = 2 ∨ j = 3 ∨ j = 4 ∨ j = 5 ∨ j = 6 := by omega
    rcases this with rfl | rfl | rfl | rfl | rfl | rfl
    · rw [p2.ord1 iz c c0 c8]; omega
    · rw [p2.ord2 iz c c0 c8]; omega
    · rw [p2.ord3 iz c c0 c8]; omega
    · rw [p2.ord4 iz c c0 c8]; omega
    · rw [p2.ord5 iz c c0 c8]; omega
    · rw [p2.ord6 iz c c0 c8]; omega
  have lo : ∀ (z : Int) (iz : isW z), ∀ j, 1 ≤ j → j ≤ 6 → (sh.2 (z + 13 + 15 * c + 6 + j)).2 = 12 := by
    intro z iz j j1 j6
    have : j = 1 ∨ j = 2 ∨ j = 3 ∨ j = 4 ∨ j = 5 ∨ j = 6 := by omega
    rcases this with rfl | rfl | rfl | rfl | rfl | rfl
    · rw [show z + 13 + 15 * c + 6 + 1 = z + 13 + 15 * c + 7 by omega]; exact hs.c7 iz c c0 c8
    · rw [show z + 13 + 15 * c + 6 + 2 = z + 13 + 15 * c + 8 by omega]; exact hs.c8 iz c c0 c8
    · rw [show z + 13 + 15 * c + 6 + 3 = z + 13 + 15 * c + 9 by omega]; exact hs.c9 iz c c0 c8
    · rw [show z + 13 + 15 * c + 6 + 4 = z + 13 + 15 * c + 10 by omega]; exact hs.c10 iz c c0 c8
    · rw [show z + 13 + 15 * c + 6 + 5 = z + 13 + 15 * c + 11 by omega]; exact hs.c11 iz c c0 c8
    · rw [show z + 13 + 15 * c + 6 + 6 = z + 13 + 15 * c + 12 by omega]; exact hs.c12 iz c c0 c8
  have r3 := k_orB (sh := sh) (h := h2) (a := w + 13 + 15 * c + 6) (b := v + 13 + 15 * c + 6) (by omega) (by omega) (by omega) (po w iw) (po v iv) (lo w iw) (lo v iv)
  have b3 := b2.or ww (r := 13 + 15 * c + 6) (a := w + 13 + 15 * c + 6) (b := v + 13 + 15 * c + 6) (by omega) (by omega) (by omega) (by omega) (VP_cr iw c0 c8 (by omega) (by omega) (by omega)) (fun k j k1 k6 => by rw [a6]; exact VP_cr iw c0 c8 (by omega) (by omega) (by omega))
  obtain ⟨h3, e3⟩ : ∃ h3, orB h2 (w + 13 + 15 * c + 6) (v + 13 + 15 * c + 6) = h3 := ⟨_, rfl⟩
  rw [e3] at r3 b3
  have p3 := b3.2.1
  have a14 : ∀ z, z + 13 + 15 * c + 13 + 1 = z + 13 + 15 * c + 14 := fun z => by omega
  have r4 := k_quB (sh := sh) (h := h3) (a := w + 13 + 15 * c + 13) (b := v + 13 + 15 * c + 13) (by omega) (by omega) (by omega) (by rw [a14]; exact p3.next iw c c0 c8) (by rw [a14]; exact p3.next iv c c0 c8) (by rw [a14]; exact hs.c14 iw c c0 c8) (by rw [a14]; exact hs.c14 iv c c0 c8)
  have b4 := b3.rw ww (n := 8) (r := 13 + 15 * c + 13) (a := w + 13 + 15 * c + 13) (b := v + 13 + 15 * c + 13) (by omega) (by omega) (by omega) (by omega) (VP_cr iw c0 c8 (by omega) (by omega) (by omega)) (fun j => by rw [a14]; exact VP_cr iw c0 c8 (by omega) (by omega) (by omega))
  obtain ⟨h4, e4⟩ : ∃ h4, rwB h3 (w + 13 + 15 * c + 13) (v + 13 + 15 * c + 13) 8 = h4 := ⟨_, rfl⟩
  rw [e4] at r4 b4
  refine ⟨h4, ?_, b4.mono ?_⟩
  · rw [r1]
    simp (disch := omega) only [q_470, q_up_far, q_row_row, q_row_self, q_row_ne, q_up_ne, q_up_eq, q_rowup, ud_eq, ud_ne, q_add_id, q_sub_id, q_mul_id, q_w_eq, q_rem_n, q_div_n, ↓reduceIte, leT, leF, ltT, ltF, eqT, eqF, true_or, or_true, false_or, or_false, true_and, and_true, false_and, and_false, or_self, and_self, Option.bind_some, p1.blocks iw, p1.blocks iv, p2.orders iw, p2.orders iv, p3.quiet iw, p3.quiet iv, r2, r3, r4, e_X2_become_52, e_X2_become_63, e_X2_become_74, e_X2_become_85]
  · intro p q hc
    rcases hc with hc | hc
    · exact Or.inl (Or.inl (Or.inl (Or.inl hc)))
    · unfold DC at hc
      rcases hc with z | z | z | z | z | z | z
      · exact Or.inl (Or.inl (Or.inl (Or.inr z)))
      · exact Or.inl (Or.inl (Or.inr (Or.inl z)))
      · exact Or.inl (Or.inl (Or.inr (Or.inr ⟨by omega, z.2⟩)))
      · exact Or.inl (Or.inr (Or.inl z))
      · exact Or.inl (Or.inr (Or.inr ⟨by omega, z.2⟩))
      · exact Or.inr (Or.inl z)
      · exact Or.inr (Or.inr ⟨by omega, z.2⟩)
