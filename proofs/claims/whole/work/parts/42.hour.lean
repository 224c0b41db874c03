theorem WF.only {G G' : Int → Int} (wf : WF G) (h : ∀ y, (y < 522 ∨ 1098 ≤ y) → G' y = G y) : WF G' := by
  have u2 := wf.1.nc
  exact ⟨wf.1.only h, wf.2.1.fr wf.1 (fun x hx => h x (by omega)), wf.2.2.1.fr wf.1 (fun x hx => h x (by omega)), wf.2.2.2.1.fr wf.1 (fun x hx => h x (by omega)), wf.2.2.2.2.fr wf.1 (h 2 (by omega)) (fun x hx => h x (by omega))⟩
theorem startK_s {G : Int → Int} {a n : Int} (a0 : 0 ≤ a) (a1 : a < n) : startK G n (480 + a) = if G (480 + a) = 1 ∧ G (508 + a) = G 0 then 2 else G (480 + a) := by
  unfold startK
  rw [show 480 + a + 28 = 508 + a by omega]
  by_cases z : G (480 + a) = 1 ∧ G (508 + a) = G 0
  · rw [if_pos z, if_pos ⟨by omega, by omega, z.1, z.2⟩]
  · rw [if_neg z, if_neg (fun h => z h.2.2)]
theorem doneK_s {G : Int → Int} {a n : Int} (a0 : 0 ≤ a) (a1 : a < n) : doneK G n (480 + a) = if G (480 + a) = 2 ∧ G (508 + a) + G (424 + a) = G 0 + 1 then 3 else G (480 + a) := by
  unfold doneK
  rw [show 480 + a + 28 = 508 + a by omega, show 480 + a - 56 = 424 + a by omega]
  by_cases z : G (480 + a) = 2 ∧ G (508 + a) + G (424 + a) = G 0 + 1
  · rw [if_pos z, if_pos ⟨by omega, by omega, z.1, z.2⟩]
  · rw [if_neg z, if_neg (fun h => z h.2.2)]
theorem WF.start {G : Int → Int} (wf : WF G) : WF (startK G (G 3)) ∧ ∀ a, 0 ≤ a → a < G 3 → startK G (G 3) (480 + a) = 1 → G 0 + 1 ≤ G (508 + a) := by
  have u0 := wf.1.hour
  have u2 := wf.1.nc
  have u3 := wf.1.na
  have f : ∀ y, (y < 480 ∨ 494 ≤ y) → startK G (G 3) y = G y := fun y hy => startK_f (by omega)
  refine ⟨⟨wf.1.start (by omega), wf.2.1.fr wf.1 (fun x hx => f x (by omega)), ?_, ?_, wf.2.2.2.2.fr wf.1 (f 2 (by omega)) (fun x hx => f x (by omega))⟩, ?_⟩
  · intro a a0 a1
    rw [f 3 (by omega)] at a1
    have wa := wf.2.2.1 a a0 a1
    rw [f 0 (by omega), f 1 (by omega), f 2 (by omega), f (410 + a) (by omega), f (424 + a) (by omega), f (494 + a) (by omega), f (508 + a) (by omega), startK_s a0 a1]
    refine ⟨wa.1, wa.2.1, wa.2.2.1, ?_, ?_⟩
    · intro h
      split at h
      · omega
      · exact wa.2.2.2.1 h
    · intro h
      split at h
      · rename_i z
        have := wa.2.2.2.1 z.1
        omega
      · exact wa.2.2.2.2 h
  · intro a b a0 ab b1 sa sb dd
    rw [f 3 (by omega)] at b1
    rw [f (494 + a) (by omega), f (494 + b) (by omega)] at dd
    rw [f (508 + a) (by omega), f (424 + a) (by omega), f (508 + b) (by omega), f (424 + b) (by omega)]
    rw [startK_s a0 (by omega)] at sa
    rw [startK_s (by omega) b1] at sb
    refine wf.2.2.2.1 a b a0 ab b1 ?_ ?_ dd
    · split at sa
      · rename_i z; exact Or.inl z.1
      · exact sa
    · split at sb
      · rename_i z; exact Or.inl z.1
      · exact sb
  · intro a a0 a1 h
    have wa := wf.2.2.1 a a0 a1
    rw [startK_s a0 a1] at h
    split at h
    · omega
    · rename_i z
      have := wa.2.2.2.1 h
      have : G (508 + a) ≠ G 0 := fun e => z ⟨h, e⟩
      omega
theorem WF.done {G : Int → Int} (wf : WF G) : WF (doneK G (G 3)) ∧ ∀ a, 0 ≤ a → a < G 3 → doneK G (G 3) (480 + a) = 2 → G 0 + 1 < G (508 + a) + G (424 + a) := by
  have u0 := wf.1.hour
  have u2 := wf.1.nc
  have u3 := wf.1.na
  have f : ∀ y, (y < 480 ∨ 494 ≤ y) → doneK G (G 3) y = G y := fun y hy => doneK_f (by omega)
  refine ⟨⟨wf.1.done (by omega), wf.2.1.fr wf.1 (fun x hx => f x (by omega)), ?_, ?_, wf.2.2.2.2.fr wf.1 (f 2 (by omega)) (fun x hx => f x (by omega))⟩, ?_⟩
  · intro a a0 a1
    rw [f 3 (by omega)] at a1
    have wa := wf.2.2.1 a a0 a1
    rw [f 0 (by omega), f 1 (by omega), f 2 (by omega), f (410 + a) (by omega), f (424 + a) (by omega), f (494 + a) (by omega), f (508 + a) (by omega), doneK_s a0 a1]
    refine ⟨wa.1, wa.2.1, wa.2.2.1, ?_, ?_⟩
    · intro h
      split at h
      · omega
      · exact wa.2.2.2.1 h
    · intro h
      split at h
      · omega
      · exact wa.2.2.2.2 h
  · intro a b a0 ab b1 sa sb dd
    rw [f 3 (by omega)] at b1
    rw [f (494 + a) (by omega), f (494 + b) (by omega)] at dd
    rw [f (508 + a) (by omega), f (424 + a) (by omega), f (508 + b) (by omega), f (424 + b) (by omega)]
    rw [doneK_s a0 (by omega)] at sa
    rw [doneK_s (by omega) b1] at sb
    refine wf.2.2.2.1 a b a0 ab b1 ?_ ?_ dd
    · split at sa
      · omega
      · exact sa
    · split at sb
      · omega
      · exact sb
  · intro a a0 a1 h
    have wa := wf.2.2.1 a a0 a1
    rw [doneK_s a0 a1] at h
    split at h
    · omega
    · rename_i z
      have := wa.2.2.2.2 h
      have : G (508 + a) + G (424 + a) ≠ G 0 + 1 := fun e => z ⟨h, e⟩
      omega
theorem WF.tick {G : Int → Int} (wf : WF G) (h0 : G 0 < 3000) (s1 : ∀ a, 0 ≤ a → a < G 3 → G (480 + a) = 1 → G 0 + 1 ≤ G (508 + a)) (s2 : ∀ a, 0 ≤ a → a < G 3 → G (480 + a) = 2 → G 0 + 1 < G (508 + a) + G (424 + a)) : WF (ud G 0 (G 0 + 1)) := by
  have u0 := wf.1.hour
  have u2 := wf.1.nc
  have u3 := wf.1.na
  have f : ∀ y, y ≠ 0 → ud G 0 (G 0 + 1) y = G y := fun y hy => ud_ne hy
  refine ⟨wf.1.set (0, 1, 0, 3000) (by decide) (by decide) (by decide) (by show (0 : Int) ≤ G 0 + 1; omega) (by show G 0 + 1 ≤ (3000 : Int); omega), wf.2.1.fr wf.1 (fun x hx => f x (by omega)), ?_, wf.2.2.2.1.fr wf.1 (fun x hx => f x (by omega)), wf.2.2.2.2.fr wf.1 (f 2 (by omega)) (fun x hx => f x (by omega))⟩
  intro a a0 a1
  rw [f 3 (by omega)] at a1
  have wa := wf.2.2.1 a a0 a1
  rw [ud_self, f 1 (by omega), f 2 (by omega), f (410 + a) (by omega), f (424 + a) (by omega), f (494 + a) (by omega), f (508 + a) (by omega), f (480 + a) (by omega)]
  refine ⟨wa.1, wa.2.1, wa.2.2.1, ?_, ?_⟩
  · intro h
    exact ⟨(wa.2.2.2.1 h).1, s1 a a0 a1 h⟩
  · intro h
    have := wa.2.2.2.2 h
    have := s2 a a0 a1 h
    omega
/-- p at the end of the hour's dishes and orders -/
def goA (G : Int → Int) : Int → Int := endQ (doneK (goM (dN (startK G (G 3)) (G 1).toNat).1 (dN (startK G (G 3)) (G 1).toNat).2.1) (G 3)) 96
def goB (G : Int → Int) : Int → Int := if G 0 % 24 = 23 then mkC (goA G) (G 2).toNat else goA G
/-- an hour later -/
def goG (G : Int → Int) : Int → Int := ud (goB G) 0 (G 0 + 1)
def goS (G : Int → Int) : Int := (dN (startK G (G 3)) (G 1).toNat).2.2
theorem goA_keep {G : Int → Int} (wf : WF G) : WF (goA G) ∧ (∀ y, (y < 300 ∨ (396 ≤ y ∧ y < 480) ∨ (494 ≤ y ∧ y < 522) ∨ 1098 ≤ y) → goA G y = G y) ∧ (∀ a, 0 ≤ a → a < G 3 → goA G (480 + a) = 1 → G 0 + 1 ≤ G (508 + a)) ∧ ∀ a, 0 ≤ a → a < G 3 → goA G (480 + a) = 2 → G 0 + 1 < G (508 + a) + G (424 + a) := by
  have u0 := wf.1.hour
  have u1 := wf.1.nd
  have u2 := wf.1.nc
  have u3 := wf.1.na
  obtain ⟨w1, s1⟩ := wf.start
  have f1 : ∀ y, (y < 480 ∨ 494 ≤ y) → startK G (G 3) y = G y := fun y hy => startK_f (by omega)
  obtain ⟨w2, m2, k2, s2⟩ := dN_keep w1 (G 1).toNat (by rw [f1 1 (by omega)]; omega)
  obtain ⟨G2, eG2⟩ : ∃ G2, (dN (startK G (G 3)) (G 1).toNat).1 = G2 := ⟨_, rfl⟩
  obtain ⟨M, eM⟩ : ∃ M, (dN (startK G (G 3)) (G 1).toNat).2.1 = M := ⟨_, rfl⟩
  rw [eG2] at w2 k2 s2
  have w3 : WF (goM G2 M) := w2.only (fun y hy => goM_f (by omega))
  have e3 : goM G2 M 3 = G 3 := by rw [goM_f (by omega), k2 3 (by omega), f1 3 (by omega)]
  obtain ⟨w4, t4⟩ := w3.done
  rw [e3] at w4 t4
  have w5 : WF (endQ (doneK (goM G2 M) (G 3)) 96) := w4.only (fun y hy => endQ_f (by omega) (by omega))
  unfold goA
  rw [eG2, eM]
  have k5 : ∀ y, (y < 300 ∨ (396 ≤ y ∧ y < 480) ∨ (494 ≤ y ∧ y < 522) ∨ 1098 ≤ y) → goM G2 M y = G y := fun y hy => by rw [goM_f (by omega), k2 y (by omega), f1 y (by omega)]
  refine ⟨w5, ?_, ?_, ?_⟩
  · intro y hy
    rw [endQ_f (by omega) (by omega), doneK_f (by omega)]
    exact k5 y hy
  · intro a a0 a1 h
    rw [endQ_f (by omega) (by omega), doneK_s a0 a1, goM_f (by omega)] at h
    split at h
    · omega
    · rcases s2 a a0 (by rw [f1 3 (by omega)]; exact a1) with q | q
      · rw [q] at h; exact s1 a a0 a1 h
      · omega
  · intro a a0 a1 h
    rw [endQ_f (by omega) (by omega)] at h
    have := t4 a a0 a1 h
    rw [k5 0 (by omega), k5 (508 + a) (by omega), k5 (424 + a) (by omega)] at this
    exact this
theorem goB_keep {G : Int → Int} (wf : WF G) : WF (goB G) ∧ (∀ y, (y < 108 ∨ (148 ≤ y ∧ y < 204) ∨ (396 ≤ y ∧ y < 480) ∨ (494 ≤ y ∧ y < 522) ∨ 1098 ≤ y) → goB G y = G y) ∧ ∀ y, (480 ≤ y ∧ y < 494) → goB G y = goA G y := by
  have u2 := wf.1.nc
  obtain ⟨w, k, _, _⟩ := goA_keep wf
  unfold goB
  split
  · obtain ⟨w2, k2⟩ := mkC_keep w (G 2).toNat (by rw [k 2 (by omega)]; omega)
    exact ⟨w2, fun y hy => by rw [k2 y (by omega)]; exact k y (by omega), fun y hy => k2 y (by omega)⟩
  · exact ⟨w, fun y hy => k y (by omega), fun _ _ => rfl⟩
theorem WF.go {G : Int → Int} (wf : WF G) (h0 : G 0 < 3000) : WF (goG G) ∧ goG G 0 = G 0 + 1 := by
  have u3 := wf.1.na
  obtain ⟨_, _, s1, s2⟩ := goA_keep wf
  obtain ⟨w, k, ka⟩ := goB_keep wf
  refine ⟨?_, ud_self _ _ _⟩
  have e0 : goB G 0 = G 0 := k 0 (by omega)
  unfold goG
  rw [← e0]
  refine w.tick (by omega) ?_ ?_
  · intro a a0 a1 h
    rw [k 3 (by omega)] at a1
    rw [ka _ (by omega)] at h
    rw [e0, k (508 + a) (by omega)]
    exact s1 a a0 a1 h
  · intro a a0 a1 h
    rw [k 3 (by omega)] at a1
    rw [ka _ (by omega)] at h
    rw [e0, k (508 + a) (by omega), k (424 + a) (by omega)]
    exact s2 a a0 a1 h
theorem CW.refl {h : Int → Int → Int} {w : Int} {G : Int → Int} (hr : RelW h w G) (hp : Ptr h) : CW h h w G := ⟨hr, hp, fun _ _ => rfl⟩
/-- THE CLASS: an hour goes -/
theorem k_goHour {sh : Int × (Int → Nat × Int)} {h : Int → Int → Int} {w : Int} {G : Int → Int} (hs : Sh sh) (ho : Old sh h) (iw : isW w) (wf : WF G) (hh : G 0 < 3000) (hr : RelW h w G) (hp : Ptr h) : ∃ h', q_Cc 98 [(20, w)] (sh, h) = some ((0, goS G), (sh, h')) ∧ CW h h' w (goG G) := by
  have u0 := wf.1.hour
  have u1 := wf.1.nd
  have u2 := wf.1.nc
  have u3 := wf.1.na
  have w0 := iw.b
  obtain ⟨h1, a1, c1⟩ := k_start hs iw wf.1 (CW.refl hr hp)
  obtain ⟨w1, s1⟩ := wf.start
  have f1 : ∀ y, (y < 480 ∨ 494 ≤ y) → startK G (G 3) y = G y := fun y hy => startK_f (by omega)
  obtain ⟨h2, a2, c2⟩ := k_serveAll hs ho iw w1 c1
  rw [f1 1 (by omega)] at a2 c2
  obtain ⟨w2, m2, k2, s2⟩ := dN_keep w1 (G 1).toNat (by rw [f1 1 (by omega)]; omega)
  obtain ⟨wa, ka, _, _⟩ := goA_keep wf
  obtain ⟨wb, kb, _⟩ := goB_keep wf
  have eA : goA G = endQ (doneK (goM (dN (startK G (G 3)) (G 1).toNat).1 (dN (startK G (G 3)) (G 1).toNat).2.1) (G 3)) 96 := rfl
  obtain ⟨G2, eG2⟩ : ∃ G2, (dN (startK G (G 3)) (G 1).toNat).1 = G2 := ⟨_, rfl⟩
  obtain ⟨M, eM⟩ : ∃ M, (dN (startK G (G 3)) (G 1).toNat).2.1 = M := ⟨_, rfl⟩
  obtain ⟨S, eS⟩ : ∃ S, (dN (startK G (G 3)) (G 1).toNat).2.2 = S := ⟨_, rfl⟩
  rw [eS] at a2
  rw [eG2, eM] at c2 eA
  rw [eG2] at w2 k2
  have w3 : WF (goM G2 M) := w2.only (fun y hy => goM_f (by omega))
  have g3 : ∀ y, (y < 300 ∨ (396 ≤ y ∧ y < 480) ∨ (494 ≤ y ∧ y < 522) ∨ 1098 ≤ y) → goM G2 M y = G y := fun y hy => by rw [goM_f (by omega), k2 y (by omega), f1 y (by omega)]
  have e3 : goM G2 M 3 = G 3 := g3 3 (by omega)
  obtain ⟨h3, a3, c3⟩ := k_finish hs iw w3.1 (fun a a0 b1 q => (w3.2.2.1 a a0 b1).2.2.2.2 q |>.2.2.2) c2
  rw [e3] at c3
  obtain ⟨w4, t4⟩ := w3.done
  rw [e3] at w4
  obtain ⟨G4, eG4⟩ : ∃ G4, doneK (goM G2 M) (G 3) = G4 := ⟨_, rfl⟩
  rw [eG4] at c3 w4 eA
  have g4 : ∀ y, (y < 300 ∨ (396 ≤ y ∧ y < 480) ∨ (494 ≤ y ∧ y < 522) ∨ 1098 ≤ y) → G4 y = G y := fun y hy => by rw [← eG4, doneK_f (by omega)]; exact g3 y hy
  -- the orders end
  have settle := lp (fun c (g : Int → Int → Int) => q_L 98 36 [(20, w), (0, S), (0, c)] [] (sh, g)) (fun c g => CW h g w (endQ G4 (12 * c))) (fun r => ∃ h', r = some ((0, S), (sh, h')) ∧ CW h h' w (goG G)) (G 2) ?_ ?_ 0 h3 (by omega) u2.1 (by rw [show (12 : Int) * 0 = 0 by rfl, endQ_zero]; exact c3)
  · obtain ⟨h', q1, q2⟩ := settle
    refine ⟨h', ?_, q2⟩
    have q1 : q_L 98 36 [(20, w), (0, S), (0, 0)] [] (sh, h3) = some ((0, S), (sh, h')) := q1
    have f := c2.1.nd w3.1
    rw [g3 1 (by omega)] at f
    show q_Cc 98 [(20, w)] (sh, h) = some ((0, goS G), (sh, h'))
    have eS' : goS G = S := eS
    rw [eS', c_X10_goHour, e_X10_goHour_0, a1, Option.bind_some, e_X10_goHour_4, a2, e_X10_goHour_8, if_neg (by rw [f]; omega), a3, Option.bind_some, e_X10_goHour_34, q1]
  · intro c g c0 c1' hI
    have wk : WFR (endQ G4 (12 * c)) := w4.1.only (fun y hy => endQ_f (by omega) (by omega))
    have gk : ∀ y, y < 300 → endQ G4 (12 * c) y = G y := fun y hy => by rw [endQ_f (by omega) (by omega)]; exact g4 y (by omega)
    have f0 := hI.1.hour wk
    have f2 := hI.1.nc wk
    have ff := hI.1.far wk c c0 (by rw [gk 2 (by omega)]; exact c1')
    rw [gk _ (by omega)] at f0 f2 ff
    have hp' := hI.2.1
    obtain ⟨g', q1, q2⟩ := k_settle (c := c) hs iw w4.1 c0 (by rw [g4 2 (by omega)]; exact c1') hI
    rw [g4 0 (by omega), g4 (84 + c) (by omega)] at q1
    left
    refine ⟨g', ?_, q2⟩
    rw [e_X10_goHour_36]
    simp (disch := omega) only [q_470, q_up_far, q_row_row, q_row_self, q_row_ne, q_up_ne, q_up_eq, q_rowup, ud_eq, ud_ne, q_add_id, q_sub_id, q_mul_id, q_w_eq, q_rem_n, q_div_n, ↓reduceIte, leT, leF, ltT, ltF, eqT, eqF, true_or, or_true, false_or, or_false, true_and, and_true, false_and, and_false, or_self, and_self, Option.bind_some, f0, f2, ff, q1, hp'.w6 iw, hp'.craft iw, hp'.orders iw, hs.crafts iw, e_X10_goHour_69]
  · intro g hI
    have e96 : endQ G4 96 = endQ G4 (12 * G 2) := endQ_skip (by omega) (fun k k0 k1 hk => by have hk : k / 12 < G4 2 ∧ k % 12 < G4 (148 + k / 12) := hk; rw [g4 2 (by omega)] at hk; omega)
    rw [← e96, ← eA] at hI
    have f0 := hI.1.hour wa.1
    have f2 := hI.1.nc wa.1
    rw [ka _ (by omega)] at f0 f2
    have last : ∀ g1, CW h g1 w (goB G) → q_L 98 91 [(20, w), (0, S), (0, G 2)] [] (sh, g1) = some ((0, S), (sh, q_up g1 w 0 (G 0 + 1))) ∧ CW h (q_up g1 w 0 (G 0 + 1)) w (goG G) := by
      intro g1 hg
      have fb := hg.1.hour wb.1
      rw [kb 0 (by omega)] at fb
      refine ⟨?_, ?_⟩
      · rw [e_X10_goHour_91, fb, q_add_id (by omega) (by omega)]
      · exact hg.set wb.1 iw lo_hour (by omega) (VP_w0 iw (by omega)) (by omega)
    show ∃ h', q_L 98 36 [(20, w), (0, S), (0, G 2)] [] (sh, g) = some ((0, S), (sh, h')) ∧ CW h h' w (goG G)
    by_cases day : G 0 % 24 = 23
    · obtain ⟨g1, m1, m2⟩ := k_makeBlocks hs iw wa hI
      rw [ka 2 (by omega)] at m2
      have eB : goB G = mkC (goA G) (G 2).toNat := by unfold goB; rw [if_pos day]
      rw [← eB] at m2
      obtain ⟨l1, l2⟩ := last g1 m2
      refine ⟨_, ?_, l2⟩
      rw [← l1, e_X10_goHour_36]
      simp (disch := omega) only [q_470, q_up_far, q_row_row, q_row_self, q_row_ne, q_up_ne, q_up_eq, q_rowup, ud_eq, ud_ne, q_add_id, q_sub_id, q_mul_id, q_w_eq, q_rem_n, q_div_n, ↓reduceIte, leT, leF, ltT, ltF, eqT, eqF, true_or, or_true, false_or, or_false, true_and, and_true, false_and, and_false, or_self, and_self, Option.bind_some, f0, f2, day, m1]
    · have eB : goB G = goA G := by unfold goB; rw [if_neg day]
      rw [← eB] at hI
      obtain ⟨l1, l2⟩ := last g hI
      refine ⟨_, ?_, l2⟩
      rw [← l1, e_X10_goHour_36]
      simp (disch := omega) only [q_470, q_up_far, q_row_row, q_row_self, q_row_ne, q_up_ne, q_up_eq, q_rowup, ud_eq, ud_ne, q_add_id, q_sub_id, q_mul_id, q_w_eq, q_rem_n, q_div_n, ↓reduceIte, leT, leF, ltT, ltF, eqT, eqF, true_or, or_true, false_or, or_false, true_and, and_true, false_and, and_false, or_self, and_self, Option.bind_some, f0, f2]
/-- THE REFERENCE: an hour goes -/
theorem r_goes {sh : Int × (Int → Nat × Int)} {h : Int → Int → Int} {G : Int → Int} (e0 : h 469 0 = 470) (e27 : h 469 27 = 487) (l : (sh.2 470).2 = 1354) (l27 : (sh.2 487).2 = 12) (wf : WF G) (hh : G 0 < 3000) : ∃ W : Int → Int, q_Cc 226 [(22, 469)] (sh, q_row h 470 G) = some ((0, goS G), (sh, q_row (q_row h 487 W) 470 (goG G))) := by
  have u0 := wf.1.hour
  have u1 := wf.1.nd
  have u2 := wf.1.nc
  have u3 := wf.1.na
  obtain ⟨w1, s1⟩ := wf.start
  have f1 : ∀ y, (y < 480 ∨ 494 ≤ y) → startK G (G 3) y = G y := fun y hy => startK_f (by omega)
  have b1 := r_start (sh := sh) (h := h) e0 l wf.1
  obtain ⟨W, y4, y5, b2⟩ := r_serveAll (sh := sh) (h := h) (x4 := (9, 0)) (x5 := (9, 0)) e0 e27 l l27 w1
  rw [f1 1 (by omega)] at b2
  obtain ⟨w2, m2, k2, s2⟩ := dN_keep w1 (G 1).toNat (by rw [f1 1 (by omega)]; omega)
  obtain ⟨wa, ka, _, _⟩ := goA_keep wf
  obtain ⟨wb, kb, _⟩ := goB_keep wf
  have eA : goA G = endQ (doneK (goM (dN (startK G (G 3)) (G 1).toNat).1 (dN (startK G (G 3)) (G 1).toNat).2.1) (G 3)) 96 := rfl
  obtain ⟨G2, eG2⟩ : ∃ G2, (dN (startK G (G 3)) (G 1).toNat).1 = G2 := ⟨_, rfl⟩
  obtain ⟨M, eM⟩ : ∃ M, (dN (startK G (G 3)) (G 1).toNat).2.1 = M := ⟨_, rfl⟩
  obtain ⟨S, eS⟩ : ∃ S, (dN (startK G (G 3)) (G 1).toNat).2.2 = S := ⟨_, rfl⟩
  rw [eS, eG2, eM] at b2
  rw [eG2, eM] at eA
  rw [eG2] at w2 k2
  obtain ⟨H, eH⟩ : ∃ H, q_row h 487 W = H := ⟨_, rfl⟩
  rw [eH] at b2
  have H0 : H 469 0 = 470 := by rw [← eH, q_row_ne (by decide)]; exact e0
  have w3 : WF (goM G2 M) := w2.only (fun y hy => goM_f (by omega))
  have g2 : ∀ y, (y < 300 ∨ (396 ≤ y ∧ y < 480) ∨ 494 ≤ y) → G2 y = G y := fun y hy => by rw [k2 y hy, f1 y (by omega)]
  have g3 : ∀ y, (y < 300 ∨ (396 ≤ y ∧ y < 480) ∨ (494 ≤ y ∧ y < 522) ∨ 1098 ≤ y) → goM G2 M y = G y := fun y hy => by rw [goM_f (by omega)]; exact g2 y (by omega)
  have e3 : goM G2 M 3 = G 3 := g3 3 (by omega)
  have b3 := r_ordersGo (sh := sh) (h := H) (M := M) (G := G2) H0 l w2.1
  have b4 := fun x4 x5 => r_finish (sh := sh) (h := H) (G := goM G2 M) (a1 := S) (a2 := M) (x4 := x4) (x5 := x5) H0 l w3.1
  simp only [e3] at b4
  obtain ⟨w4, _⟩ := w3.done
  rw [e3] at w4
  obtain ⟨G4, eG4⟩ : ∃ G4, doneK (goM G2 M) (G 3) = G4 := ⟨_, rfl⟩
  rw [eG4] at w4 eA
  simp only [eG4] at b4
  have g4 : ∀ y, (y < 300 ∨ (396 ≤ y ∧ y < 480) ∨ (494 ≤ y ∧ y < 522) ∨ 1098 ≤ y) → G4 y = G y := fun y hy => by rw [← eG4, doneK_f (by omega)]; exact g3 y hy
  have b5 := r_ordersEnd (sh := sh) (h := H) (G := G4) H0 l w4.1
  rw [← eA] at b5
  have hS : goS G = S := eS
  have t1 : startK G (G 3) 3 = G 3 := f1 3 (by omega)
  have a2' : goA G 2 = G 2 := ka 2 (by omega)
  have a0' : goA G 0 = G 0 := ka 0 (by omega)
  have last : ∀ x4 x5, q_L 226 385 [(22, 469), (0, S), (0, M), (0, G 2), x4, x5] [] (sh, q_row H 470 (goB G)) = some ((0, S), (sh, q_row H 470 (goG G))) := by
    intro x4 x5
    have fb : goB G 0 = G 0 := kb 0 (by omega)
    unfold goG
    rw [e_X12_goes_385]
    simp (disch := omega) only [q_470, q_up_far, q_row_row, q_row_self, q_row_ne, q_up_ne, q_up_eq, q_rowup, ud_eq, ud_ne, q_add_id, q_sub_id, q_mul_id, q_w_eq, q_rem_n, q_div_n, ↓reduceIte, leT, leF, ltT, ltF, eqT, eqF, true_or, or_true, false_or, or_false, true_and, and_true, false_and, and_false, or_self, and_self, Option.bind_some, H0, l, fb]
  have fin : ∀ x4 x5, q_L 226 327 [(22, 469), (0, S), (0, M), (0, 0), x4, x5] [] (sh, q_row H 470 (goA G)) = some ((0, S), (sh, q_row H 470 (goG G))) := by
    intro x4 x5
    by_cases day : G 0 % 24 = 23
    · obtain ⟨x, m⟩ := r_makeBlocks (sh := sh) (h := H) (G := goA G) (a1 := S) (a2 := M) (x4 := x4) (x5 := x5) H0 l wa (by rw [a0']; exact day)
      have eB : goB G = mkC (goA G) (G 2).toNat := by unfold goB; rw [if_pos day]
      rw [a2', ← eB] at m
      have fb2 : goB G 2 = G 2 := kb 2 (by omega)
      rw [m, ← last x x5, e_X12_goes_327]
      simp (disch := omega) only [q_470, q_up_far, q_row_row, q_row_self, q_row_ne, q_up_ne, q_up_eq, q_rowup, ud_eq, ud_ne, q_add_id, q_sub_id, q_mul_id, q_w_eq, q_rem_n, q_div_n, ↓reduceIte, leT, leF, ltT, ltF, eqT, eqF, true_or, or_true, false_or, or_false, true_and, and_true, false_and, and_false, or_self, and_self, Option.bind_some, H0, l, fb2]
    · have eB : goB G = goA G := by unfold goB; rw [if_neg day]
      by_cases c0 : 0 < G 2
      · have la := last x4 x5
        have l2 : ∀ a3, q_L 226 385 [(22, 469), (0, S), (0, M), (0, a3), x4, x5] [] (sh, q_row H 470 (goA G)) = some ((0, S), (sh, q_row H 470 (goG G))) := by
          intro a3
          unfold goG
          rw [e_X12_goes_385, eB]
          simp (disch := omega) only [q_470, q_up_far, q_row_row, q_row_self, q_row_ne, q_up_ne, q_up_eq, q_rowup, ud_eq, ud_ne, q_add_id, q_sub_id, q_mul_id, q_w_eq, q_rem_n, q_div_n, ↓reduceIte, leT, leF, ltT, ltF, eqT, eqF, true_or, or_true, false_or, or_false, true_and, and_true, false_and, and_false, or_self, and_self, Option.bind_some, H0, l, a0']
        rw [e_X12_goes_327]
        simp (disch := omega) only [q_470, q_up_far, q_row_row, q_row_self, q_row_ne, q_up_ne, q_up_eq, q_rowup, ud_eq, ud_ne, q_add_id, q_sub_id, q_mul_id, q_w_eq, q_rem_n, q_div_n, ↓reduceIte, leT, leF, ltT, ltF, eqT, eqF, true_or, or_true, false_or, or_false, true_and, and_true, false_and, and_false, or_self, and_self, Option.bind_some, H0, l, a2', a0', l2]
      · have e2 : G 2 = 0 := by omega
        have la := last x4 x5
        rw [eB, e2] at la
        rw [e_X12_goes_327]
        simp (disch := omega) only [q_470, q_up_far, q_row_row, q_row_self, q_row_ne, q_up_ne, q_up_eq, q_rowup, ud_eq, ud_ne, q_add_id, q_sub_id, q_mul_id, q_w_eq, q_rem_n, q_div_n, ↓reduceIte, leT, leF, ltT, ltF, eqT, eqF, true_or, or_true, false_or, or_false, true_and, and_true, false_and, and_false, or_self, and_self, Option.bind_some, H0, l, a2', e2, la]
  refine ⟨W, ?_⟩
  rw [hS, eH]
  rw [c_X12_goes, e_X12_goes_0, b1, e_X12_goes_2]
  have g21 : G2 1 = G 1 := g2 1 (by omega)
  have g43 : G4 3 = G 3 := g4 3 (by omega)
  simp (disch := omega) only [q_470, q_up_far, q_row_row, q_row_self, q_row_ne, q_up_ne, q_up_eq, q_rowup, ud_eq, ud_ne, q_add_id, q_sub_id, q_mul_id, q_w_eq, q_rem_n, q_div_n, ↓reduceIte, leT, leF, ltT, ltF, eqT, eqF, true_or, or_true, false_or, or_false, true_and, and_true, false_and, and_false, or_self, and_self, Option.bind_some, e0, l, t1, b2]
  rw [e_X12_goes_81]
  simp (disch := omega) only [q_470, q_up_far, q_row_row, q_row_self, q_row_ne, q_up_ne, q_up_eq, q_rowup, ud_eq, ud_ne, q_add_id, q_sub_id, q_mul_id, q_w_eq, q_rem_n, q_div_n, ↓reduceIte, leT, leF, ltT, ltF, eqT, eqF, true_or, or_true, false_or, or_false, true_and, and_true, false_and, and_false, or_self, and_self, Option.bind_some, H0, l, g21, b3, e_X12_goes_233, b4]
  rw [e_X12_goes_235]
  simp (disch := omega) only [q_470, q_up_far, q_row_row, q_row_self, q_row_ne, q_up_ne, q_up_eq, q_rowup, ud_eq, ud_ne, q_add_id, q_sub_id, q_mul_id, q_w_eq, q_rem_n, q_div_n, ↓reduceIte, leT, leF, ltT, ltF, eqT, eqF, true_or, or_true, false_or, or_false, true_and, and_true, false_and, and_false, or_self, and_self, Option.bind_some, H0, l, g43, b5, e_X12_goes_325, fin]
