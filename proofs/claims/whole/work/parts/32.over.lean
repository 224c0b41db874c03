/-! what a made block changes -/
theorem putG_f {G : Int → Int} {c y : Int} (h1 : y ≠ 108 + c) (h2 : y ≠ 116 + c) (h3 : y ≠ 204 + 12 * c + G (108 + c)) (h4 : y ≠ 300 + 12 * c + G (108 + c)) : putG G c y = G y := by
  unfold putG
  rw [ud_ne h2, ud_ne h1, ud_ne h4, ud_ne h3]
theorem putG_n {G : Int → Int} {c : Int} (c0 : 0 ≤ c) (c1 : c < 8) : putG G c (108 + c) = G (108 + c) + 1 := by
  unfold putG
  rw [ud_ne (by omega), ud_self]
theorem makeG_f {G : Int → Int} {c y : Int} (wr : WFR G) (c0 : 0 ≤ c) (c1 : c < 8) (n1 : 1 ≤ G (92 + c) ∧ G (108 + c) ≤ G (92 + c)) (h1 : y ≠ 108 + c) (h2 : y ≠ 116 + c) (h3 : y ≠ 132 + c) (h4 : y ≠ 140 + c) (h5 : y < 204 + 12 * c ∨ 216 + 12 * c ≤ y) (h6 : y < 300 + 12 * c ∨ 312 + 12 * c ≤ y) : makeG G c y = G y := by
  have r0 := wr.blocks (d := c) (by omega) (by omega)
  have r1 := wr.room (d := c) (by omega) (by omega)
  unfold makeG
  split
  · rw [putG_f h1 h2 (by rw [roomG_n c0 c1]; omega) (by rw [roomG_n c0 c1]; omega), roomG_f wr c0 c1 h1 h3 h4 h5 h6]
  · rw [putG_f h1 h2 (by omega) (by omega)]
theorem makeG_n {G : Int → Int} {c : Int} (c0 : 0 ≤ c) (c1 : c < 8) : makeG G c (108 + c) = if G (108 + c) = G (92 + c) then G (108 + c) else G (108 + c) + 1 := by
  unfold makeG
  split
  · rw [putG_n c0 c1, roomG_n c0 c1]; omega
  · rw [putG_n c0 c1]
theorem WF.make {G : Int → Int} (wf : WF G) {c : Int} (c0 : 0 ≤ c) (c1 : c < G 2) : WF (makeG G c) := by
  have wr := wf.1
  have u2 := wr.nc
  have r0 := wr.blocks (d := c) (by omega) (by omega)
  have r1 := wr.room (d := c) (by omega) (by omega)
  have k1 := wf.2.1 c c0 c1
  have gf : ∀ y, y ≠ 108 + c → y ≠ 116 + c → y ≠ 132 + c → y ≠ 140 + c → (y < 204 + 12 * c ∨ 216 + 12 * c ≤ y) → (y < 300 + 12 * c ∨ 312 + 12 * c ≤ y) → makeG G c y = G y := fun y h1 h2 h3 h4 h5 h6 => makeG_f wr c0 (by omega) k1 h1 h2 h3 h4 h5 h6
  refine ⟨?_, ?_, ?_, ?_, ?_⟩
  · unfold makeG
    split
    · exact (wr.room2 c0 (by omega) (by omega)).put c0 (by omega) (by rw [roomG_n c0 (by omega)]; omega)
    · exact wr.put c0 (by omega) (by omega)
  · intro d d0 d1
    rw [gf 2 (by omega) (by omega) (by omega) (by omega) (by omega) (by omega)] at d1
    rw [gf (92 + d) (by omega) (by omega) (by omega) (by omega) (by omega) (by omega)]
    by_cases e : d = c
    · subst e
      rw [makeG_n c0 (by omega)]
      split <;> omega
    · rw [gf (108 + d) (by omega) (by omega) (by omega) (by omega) (by omega) (by omega)]
      exact wf.2.1 d d0 d1
  · exact wf.2.2.1.fr wr (fun x hx => gf x (by omega) (by omega) (by omega) (by omega) (by omega) (by omega))
  · exact wf.2.2.2.1.fr wr (fun x hx => gf x (by omega) (by omega) (by omega) (by omega) (by omega) (by omega))
  · exact wf.2.2.2.2.fr wr (gf 2 (by omega) (by omega) (by omega) (by omega) (by omega) (by omega)) (fun x hx => gf x (by omega) (by omega) (by omega) (by omega) (by omega) (by omega))
theorem smN_take {f : Int → Int} {i : Nat} : ∀ n : Nat, i ≤ n → smN (fun k => if k < (i : Int) then f k else f (k + 1)) n = smN f (n + 1) - f i := by
  intro n
  induction n with
  | zero =>
    intro hi
    have : i = 0 := by omega
    subst this
    show (0 : Int) = 0 + f (0 : Nat) - f (0 : Nat)
    omega
  | succ n ih =>
    intro hi
    by_cases e : i = n + 1
    · subst e
      show smN (fun k => if k < ((n + 1 : Nat) : Int) then f k else f (k + 1)) n + (if (n : Int) < ((n + 1 : Nat) : Int) then f n else f (n + 1)) = smN f n + f n + f ((n + 1 : Nat) : Int) - f ((n + 1 : Nat) : Int)
      rw [if_pos (by omega), smN_congr (f := fun k => if k < ((n + 1 : Nat) : Int) then f k else f (k + 1)) (g := f) n (fun j hj => by show (if (j : Int) < ((n + 1 : Nat) : Int) then f j else f (j + 1)) = f j; rw [if_pos (by omega)])]
      omega
    · have h1 := ih (by omega)
      show smN (fun k => if k < (i : Int) then f k else f (k + 1)) n + (if (n : Int) < (i : Int) then f n else f (n + 1)) = smN f (n + 1) + f ((n + 1 : Nat) : Int) - f i
      rw [h1, if_neg (by omega)]
      have : ((n + 1 : Nat) : Int) = (n : Int) + 1 := by omega
      rw [this]
      omega
theorem sm_take {f : Int → Int} {i n : Int} (i0 : 0 ≤ i) (i1 : i < n) : sm (fun k => if k < i then f k else f (k + 1)) (n - 1) = sm f n - f i := by
  have := smN_take (f := f) (i := i.toNat) (n - 1).toNat (by omega)
  have e1 : (i.toNat : Int) = i := Int.toNat_of_nonneg i0
  have e2 : (n - 1).toNat + 1 = n.toNat := by omega
  rw [e1, e2] at this
  exact this
theorem heldF_put {G : Int → Int} (wr : WFR G) {c : Int} (c0 : 0 ≤ c) (c1 : c < 8) (n1 : G (108 + c) < 12) : heldF (putG G c) c = heldF G c + 1 := by
  have r0 := wr.blocks (d := c) (by omega) (by omega)
  unfold heldF
  rw [putG_n c0 c1, sm_succ r0.1]
  have e1 : putG G c (300 + 12 * c + G (108 + c)) = -1 := by
    unfold putG
    rw [ud_ne (by omega), ud_ne (by omega), ud_self]
  rw [e1, sm_congr (f := fun k => if putG G c (300 + 12 * c + k) < 0 then 1 else 0) (g := fun k => if G (300 + 12 * c + k) < 0 then 1 else 0) (fun k k0 k1 => by show (if putG G c (300 + 12 * c + k) < 0 then (1 : Int) else 0) = _; rw [putG_f (by omega) (by omega) (by omega) (by omega)])]
  show _ + (if (-1 : Int) < 0 then (1 : Int) else 0) = _
  rw [if_pos (by decide)]
theorem heldF_take {G : Int → Int} (wr : WFR G) {c i : Int} (c0 : 0 ≤ c) (c1 : c < 8) (i0 : 0 ≤ i) (i1 : i < G (108 + c)) : heldF (takeG G c i) c = heldF G c - (if G (300 + 12 * c + i) < 0 then 1 else 0) := by
  have r0 := wr.blocks (d := c) (by omega) (by omega)
  unfold heldF
  rw [takeG_n, ← sm_take (f := fun k => if G (300 + 12 * c + k) < 0 then 1 else 0) i0 i1]
  apply sm_congr
  intro k k0 k1
  show (if takeG G c i (300 + 12 * c + k) < 0 then (1 : Int) else 0) = if k < i then (if G (300 + 12 * c + k) < 0 then (1 : Int) else 0) else (if G (300 + 12 * c + (k + 1)) < 0 then (1 : Int) else 0)
  by_cases z : k < i
  · rw [if_pos z, takeG_out (by omega) (by omega)]
  · rw [if_neg z, takeG_in c0 c1 (by omega) i0, show 300 + 12 * c + k + 1 = 300 + 12 * c + (k + 1) by omega]
theorem heldF_free {G : Int → Int} {c y v : Int} (h1 : y ≠ 108 + c) (h2 : y < 300 + 12 * c ∨ 312 + 12 * c ≤ y) (n1 : G (108 + c) ≤ 12) : heldF (ud G y v) c = heldF G c := by
  unfold heldF
  rw [ud_ne (by omega)]
  apply sm_congr
  intro k k0 k1
  show (if ud G y v (300 + 12 * c + k) < 0 then (1 : Int) else 0) = _
  rw [ud_ne (by omega)]
theorem heldF_b {G : Int → Int} (wr : WFR G) {c : Int} (c0 : 0 ≤ c) (c1 : c < 8) : 0 ≤ heldF G c ∧ heldF G c ≤ G (108 + c) := by
  have r0 := wr.blocks (d := c) (by omega) (by omega)
  have := sm_bnd (f := fun k => if G (300 + 12 * c + k) < 0 then 1 else 0) (a := 0) (b := 1) (n := G (108 + c)) r0.1 (fun j j0 j1 => b01)
  unfold heldF
  omega
theorem make_lost {G : Int → Int} (wf : WF G) {c : Int} (c0 : 0 ≤ c) (c1 : c < G 2) : heldF G c ≤ G (92 + c) ∧ (heldF G c < G (92 + c) → heldF (makeG G c) c = heldF G c + 1 ∧ makeG G c (140 + c) = G (140 + c)) ∧ (heldF G c = G (92 + c) → heldF (makeG G c) c = heldF G c ∧ makeG G c (140 + c) = q_add (G (140 + c)) 1) := by
  have wr := wf.1
  have u2 := wr.nc
  have r0 := wr.blocks (d := c) (by omega) (by omega)
  have r1 := wr.room (d := c) (by omega) (by omega)
  have k1 := wf.2.1 c c0 c1
  have hb := heldF_b wr c0 (by omega : c < 8)
  refine ⟨by omega, ?_, ?_⟩
  · intro hlt
    unfold makeG
    by_cases e : G (108 + c) = G (92 + c)
    · rw [if_pos e]
      have wr2 := wr.room2 c0 (by omega) (by omega : 0 < G (108 + c))
      rw [heldF_put wr2 c0 (by omega) (by rw [roomG_n c0 (by omega)]; omega), putG_f (by omega) (by omega) (by rw [roomG_n c0 (by omega)]; omega) (by rw [roomG_n c0 (by omega)]; omega)]
      have ob := oldG_b wr c0 (by omega : c < 8)
      unfold roomG
      split
      · exfalso
        rename_i z
        rcases ob with ⟨o1, o2⟩ | ⟨o1, _⟩
        · have : heldF G c = G (108 + c) := by
            have h1 := sm_bnd (f := fun k => if G (300 + 12 * c + k) < 0 then 1 else 0) (a := 1) (b := 1) (n := G (108 + c)) r0.1 (fun j j0 j1 => by show (1 : Int) ≤ (if G (300 + 12 * c + j) < 0 then 1 else 0) ∧ (if G (300 + 12 * c + j) < 0 then (1 : Int) else 0) ≤ 1; rw [if_pos (o2 j j0 j1)]; omega)
            unfold heldF
            omega
          omega
        · omega
      · rename_i z
        rcases ob with ⟨o1, _⟩ | ⟨o1, o2, o3⟩
        · omega
        · rw [heldF_take (wr.free (by omega)) c0 (by omega) o1 (by rw [ud_ne (by omega)]; exact o2), heldF_free (by omega) (by omega) r0.2, ud_ne (by omega), if_neg (by omega), takeG_out (by omega) (by rw [ud_ne (by omega)]; omega), ud_ne (by omega)]
          omega
    · rw [if_neg e, heldF_put wr c0 (by omega) (by omega), putG_f (by omega) (by omega) (by omega) (by omega)]
      exact ⟨rfl, rfl⟩
  · intro heq
    have e : G (108 + c) = G (92 + c) := by omega
    unfold makeG
    rw [if_pos e]
    have wr2 := wr.room2 c0 (by omega) (by omega : 0 < G (108 + c))
    rw [heldF_put wr2 c0 (by omega) (by rw [roomG_n c0 (by omega)]; omega), putG_f (by omega) (by omega) (by rw [roomG_n c0 (by omega)]; omega) (by rw [roomG_n c0 (by omega)]; omega)]
    have ob := oldG_b wr c0 (by omega : c < 8)
    unfold roomG
    split
    · rename_i z
      rcases ob with ⟨o1, o2⟩ | ⟨o1, _⟩
      · rw [heldF_take (wr.free (by omega)) c0 (by omega) (by omega) (by rw [ud_ne (by omega)]; omega), heldF_free (by omega) (by omega) r0.2, ud_ne (by omega), if_pos (o2 0 (by omega) (by omega)), takeG_out (by omega) (by rw [ud_ne (by omega)]; omega), ud_self]
        refine ⟨by omega, rfl⟩
      · omega
    · exfalso
      rename_i z
      rcases ob with ⟨o1, _⟩ | ⟨o1, o2, o3⟩
      · omega
      · have h1 := sm_one (f := fun k => if k = oldG G c then 1 else if G (300 + 12 * c + k) < 0 then 1 else 0) (g := fun k => if G (300 + 12 * c + k) < 0 then 1 else 0) (b := oldG G c) (n := G (108 + c)) o1 o2 (fun k k0 k1 hne => by show (if G (300 + 12 * c + k) < 0 then (1 : Int) else 0) = if k = oldG G c then 1 else if G (300 + 12 * c + k) < 0 then 1 else 0; rw [if_neg hne])
        have h2 := sm_bnd (f := fun k => if k = oldG G c then 1 else if G (300 + 12 * c + k) < 0 then 1 else 0) (a := 0) (b := 1) (n := G (108 + c)) r0.1 (fun j j0 j1 => by show 0 ≤ (if j = oldG G c then (1 : Int) else if G (300 + 12 * c + j) < 0 then 1 else 0) ∧ (if j = oldG G c then (1 : Int) else if G (300 + 12 * c + j) < 0 then 1 else 0) ≤ 1; repeat' split; all_goals omega)
        simp only [if_true] at h1
        rw [if_neg (by omega)] at h1
        unfold heldF at heq
        omega
theorem q_w_add (x d : Int) : q_add (q_w (x + d)) 1 = q_w (x + (d + 1)) := by unfold q_add q_w; omega
theorem q_w_sub {x d : Int} (h0 : 0 ≤ d) (h1 : d < 1000) : q_sub (q_w (x + d)) x = d := by unfold q_sub q_w; omega
theorem r_overL {sh : Int × (Int → Nat × Int)} {h : Int → Int → Int} {c m : Int} {G0 : Int → Int} (e0 : h 469 0 = 470) (e2 : h 469 2 = 472) (l : (sh.2 470).2 = 1354) (l2 : (sh.2 472).2 = 1354) (m0 : 1 ≤ m) (m1 : m ≤ 9) (c0 : 0 ≤ c) (c1 : c < G0 2) (wf0 : WF G0) (hA : h 472 (140 + c) = G0 (140 + c)) (N : Int) (eN : m * G0 (100 + c) = N) (N0 : 0 ≤ N) (N1 : N ≤ 54) : ∀ (k : Int) (G : Int → Int), 0 ≤ k → k ≤ N → (WF G ∧ G 2 = G0 2 ∧ G (100 + c) = G0 (100 + c) ∧ G (92 + c) = G0 (92 + c) ∧ (∀ y, (y < 0 ∨ 1354 ≤ y) → G y = G0 y) ∧ heldF G c = (if heldF G0 c + k < G0 (92 + c) then heldF G0 c + k else G0 (92 + c)) ∧ (if heldF G0 c + k ≤ G0 (92 + c) then G (140 + c) = G0 (140 + c) else G (140 + c) = q_w (G0 (140 + c) + (heldF G0 c + k - G0 (92 + c))))) → q_L 231 39 [(22, 469), (0, c), (0, m), (0, k)] [] (sh, q_row h 470 G) = some ((0, if heldF G0 c + N < G0 (92 + c) then 0 else heldF G0 c + N - G0 (92 + c)), (sh, q_row h 470 (fun i => if 0 ≤ i ∧ i < 1354 then h 472 i else G0 i))) := by
  have ml0 := make_lost wf0 c0 c1
  have hb0 := heldF_b wf0.1 c0 (by have := wf0.1.nc; omega : c < 8)
  have u2 := wf0.1.nc
  have rr := wf0.1.room (d := c) (by omega) (by omega)
  refine lp (fun k (G : Int → Int) => q_L 231 39 [(22, 469), (0, c), (0, m), (0, k)] [] (sh, q_row h 470 G)) _ (fun r => r = some ((0, if heldF G0 c + N < G0 (92 + c) then 0 else heldF G0 c + N - G0 (92 + c)), (sh, q_row h 470 (fun i => if 0 ≤ i ∧ i < 1354 then h 472 i else G0 i)))) N ?_ ?_
  · intro k G k0 k1 hI
    obtain ⟨wf, g2, g100, g92, gout, gh, gl⟩ := hI
    have rt := wf.1.rate (d := c) (by omega) (by omega)
    have ml := make_lost wf c0 (by omega)
    have mf : ∀ y, y ≠ 108 + c → y ≠ 116 + c → y ≠ 132 + c → y ≠ 140 + c → (y < 204 + 12 * c ∨ 216 + 12 * c ≤ y) → (y < 300 + 12 * c ∨ 312 + 12 * c ≤ y) → makeG G c y = G y := fun y h1 h2 h3 h4 h5 h6 => makeG_f wf.1 c0 (by omega) (wf.2.1 c c0 (by omega)) h1 h2 h3 h4 h5 h6
    have rm := r_makes (sh := sh) (h := h) (G := G) (c := c) e0 l wf.1 wf.2.1 c0 (by omega)
    refine Or.inl ⟨makeG G c, ?_, wf.make c0 (by omega), ?_, ?_, ?_, ?_, ?_, ?_⟩
    · rw [e_X12_over_39]
      simp (disch := omega) only [q_470, q_up_far, q_row_row, q_row_self, q_row_ne, q_up_ne, q_up_eq, q_rowup, ud_eq, ud_ne, q_add_id, q_sub_id, q_mul_id, q_w_eq, q_rem_n, q_div_n, ↓reduceIte, leT, leF, ltT, ltF, eqT, eqF, true_or, or_true, false_or, or_false, true_and, and_true, false_and, and_false, or_self, and_self, Option.bind_some, e0, l, g100, eN, rm, e_X12_over_59]
    · rw [mf 2 (by omega) (by omega) (by omega) (by omega) (by omega) (by omega)]; exact g2
    · rw [mf (100 + c) (by omega) (by omega) (by omega) (by omega) (by omega) (by omega)]; exact g100
    · rw [mf (92 + c) (by omega) (by omega) (by omega) (by omega) (by omega) (by omega)]; exact g92
    · intro y hy
      rw [mf y (by omega) (by omega) (by omega) (by omega) (by omega) (by omega)]; exact gout y hy
    · by_cases z : heldF G c < G (92 + c)
      · rw [(ml.2.1 z).1, gh]
        rw [gh, g92] at z
        split at z
        · rename_i z2
          rw [if_pos z2]
          split <;> omega
        · omega
      · have z' : heldF G c = G (92 + c) := by omega
        rw [(ml.2.2 z').1, z', g92]
        rw [gh, g92] at z'
        split at z'
        · omega
        · rw [if_neg (by omega)]
    · by_cases z : heldF G c < G (92 + c)
      · rw [(ml.2.1 z).2]
        rw [gh, g92] at z
        split at z
        · rename_i z2
          rw [if_pos (by omega)] at gl
          rw [if_pos (by omega)]
          exact gl
        · omega
      · have z' : heldF G c = G (92 + c) := by omega
        rw [(ml.2.2 z').2]
        rw [gh, g92] at z'
        split at z'
        · omega
        · rw [if_neg (by omega)]
          by_cases z3 : heldF G0 c + k ≤ G0 (92 + c)
          · rw [if_pos z3] at gl
            rw [gl]
            have : heldF G0 c + (k + 1) - G0 (92 + c) = 1 := by omega
            rw [this]
            rfl
          · rw [if_neg z3] at gl
            rw [gl, q_w_add]
            congr 2
            omega
  · intro G hI
    obtain ⟨wf, g2, g100, g92, gout, gh, gl⟩ := hI
    have rt := wf.1.rate (d := c) (by omega) (by omega)
    have kk := r_keeps (sh := sh) (h := q_row h 470 G) (a := 470) (b := 472) (by decide) (by decide) l l2
    have ef : (fun i => if 0 ≤ i ∧ i < 1354 then q_row h 470 G 472 i else q_row h 470 G 470 i) = (fun i => if 0 ≤ i ∧ i < 1354 then h 472 i else G0 i) := by
      funext i
      rw [q_row_ne (by decide), q_row_self]
      by_cases e : 0 ≤ i ∧ i < 1354
      · rw [if_pos e, if_pos e]
      · rw [if_neg e, if_neg e]; exact gout i (by omega)
    rw [ef, q_row_row] at kk
    have ev : q_sub (G (140 + c)) (h 472 (140 + c)) = if heldF G0 c + N < G0 (92 + c) then 0 else heldF G0 c + N - G0 (92 + c) := by
      rw [hA]
      by_cases z3 : heldF G0 c + N ≤ G0 (92 + c)
      · rw [if_pos z3] at gl
        rw [gl]
        have : q_sub (G0 (140 + c)) (G0 (140 + c)) = 0 := by unfold q_sub q_w; omega
        rw [this]
        split <;> omega
      · rw [if_neg z3] at gl
        rw [gl, q_w_sub (by omega) (by omega), if_neg (by omega)]
    show q_L 231 39 _ _ _ = _
    rw [e_X12_over_39]
    simp (disch := omega) only [q_470, q_up_far, q_row_row, q_row_self, q_row_ne, q_up_ne, q_up_eq, q_rowup, ud_eq, ud_ne, q_add_id, q_sub_id, q_mul_id, q_w_eq, q_rem_n, q_div_n, ↓reduceIte, leT, leF, ltT, ltF, eqT, eqF, true_or, or_true, false_or, or_false, true_and, and_true, false_and, and_false, or_self, and_self, Option.bind_some, e0, e2, l, l2, g100, eN, kk, ev, e_X12_over_99]
theorem mul_69 {m r : Int} (m0 : 1 ≤ m) (m1 : m ≤ 9) (r0 : 0 ≤ r) (r1 : r ≤ 6) : 0 ≤ m * r ∧ m * r ≤ 54 := by
  refine ⟨Int.mul_nonneg (by omega) r0, ?_⟩
  have := Int.mul_le_mul m1 r1 r0 (by decide : (0 : Int) ≤ 9)
  omega
theorem st_over (c m : Int) : Step 134 231 [(0, c), (0, m)] := by
  intro sh h hs ho hi
  obtain ⟨w, G, hw1, iw, ew, hG, hp, hr, wf, hh⟩ := hi.opn
  have wr := wf.1
  have u0 := wr.hour; have u1 := wr.nd; have u2 := wr.nc; have u3 := wr.na
  by_cases v1 : (0 ≤ c ∧ c < G 2) ∧ 1 ≤ m ∧ m ≤ 9
  · have rt := wr.rate (d := c) (by omega) (by omega)
    have r0 := wr.blocks (d := c) (by omega) (by omega)
    have r1 := wr.room (d := c) (by omega) (by omega)
    have k1 := wf.2.1 c (by omega) (by omega)
    have hb := heldF_b wr v1.1.1 (by omega : c < 8)
    obtain ⟨N0, N1⟩ := mul_69 v1.2.1 v1.2.2 rt.1 rt.2
    obtain ⟨N, eN⟩ : ∃ N, m * G (100 + c) = N := ⟨_, rfl⟩
    rw [eN] at N0 N1
    have kh := k_held2 hs hp iw hr wr v1.1.1 v1.1.2
    obtain ⟨A, hA⟩ : ∃ A : Int → Int, (fun i => if 0 ≤ i ∧ i < 1354 then h 470 i else h 472 i) = A := ⟨_, rfl⟩
    have kk := r_keeps (sh := sh) (h := h) (a := 472) (b := 470) (by decide) (by decide) hs.k472 hs.k470
    rw [hA] at kk
    have eq0 : q_row (q_row h 472 A) 470 G = q_row h 472 A := by
      have : (q_row h 472 A) 470 = G := by rw [q_row_ne (by decide)]; exact hG
      rw [← this, q_row_id]
    have hA1 : ∀ i, 0 ≤ i → i < 1354 → A i = G i := fun i i0 i1 => by
      rw [← hA]
      show (if 0 ≤ i ∧ i < 1354 then h 470 i else h 472 i) = G i
      rw [if_pos ⟨i0, i1⟩, hG]
    have ol := r_overL (sh := sh) (h := q_row h 472 A) (c := c) (m := m) (G0 := G) (by rw [q_row_ne (by decide)]; exact hp.m0) (by rw [q_row_ne (by decide)]; exact hp.m2) hs.k470 hs.k472 v1.2.1 v1.2.2 v1.1.1 v1.1.2 wf (by rw [q_row_self]; exact hA1 _ (by omega) (by omega)) N eN N0 N1 0 G (by omega) N0 ⟨wf, rfl, rfl, rfl, fun _ _ => rfl, by split <;> omega, by rw [if_pos (by omega)]⟩
    have eA : (fun i => if 0 ≤ i ∧ i < 1354 then q_row h 472 A 472 i else G i) = G := by
      funext i
      rw [q_row_self]
      by_cases e : 0 ≤ i ∧ i < 1354
      · rw [if_pos e]; exact hA1 i e.1 e.2
      · rw [if_neg e]
    rw [eA, eq0] at ol
    refine ⟨if heldF G c + N < G (92 + c) then 0 else heldF G c + N - G (92 + c), h, q_row h 472 A, ?_, ?_, hi.scr ?_ ?_, ?_⟩
    · by_cases z : 0 < heldF G c + N - G (92 + c)
      · have e1 : G (108 + c) + N - G (92 + c) - (G (108 + c) - heldF G c) = heldF G c + N - G (92 + c) := by omega
        simp (disch := omega) only [q_470, q_up_far, q_row_row, q_row_self, q_row_ne, q_up_ne, q_up_eq, q_rowup, ud_eq, ud_ne, q_add_id, q_sub_id, q_mul_id, q_w_eq, q_rem_n, q_div_n, ↓reduceIte, leT, leF, ltT, ltF, eqT, eqF, true_or, or_true, false_or, or_false, true_and, and_true, false_and, and_false, or_self, and_self, Option.bind_some, ew, hp.w4 iw, hp.w5 iw, hp.w6 iw, hp.w7 iw, hp.w8 iw, hp.dish iw, hp.craft iw, hp.ask iw, hp.t6, hs.rains iw, hs.dishes iw, hs.crafts iw, hs.asks iw, hs.k468, hr.hour wr, hr.nd wr, hr.nc wr, hr.na wr, kh, eN, e1, hr.rate wr, hr.blocks wr, hr.room wr, hp.blocks iw, k_X11_outside, c_X11_over, e_X11_over_0, e_X11_over_5, e_X11_over_15, e_X11_over_18, e_X11_over_24, e_X11_over_48, c_X11_noCraft, e_X11_noCraft_0, e_X11_noCraft_14, c_X1_lostBy, e_X1_lostBy_0, e_X1_lostBy_22]
      · have e2 : (if heldF G c + N < G (92 + c) then 0 else heldF G c + N - G (92 + c)) = 0 := by split <;> omega
        rw [e2]
        simp (disch := omega) only [q_470, q_up_far, q_row_row, q_row_self, q_row_ne, q_up_ne, q_up_eq, q_rowup, ud_eq, ud_ne, q_add_id, q_sub_id, q_mul_id, q_w_eq, q_rem_n, q_div_n, ↓reduceIte, leT, leF, ltT, ltF, eqT, eqF, true_or, or_true, false_or, or_false, true_and, and_true, false_and, and_false, or_self, and_self, Option.bind_some, ew, hp.w4 iw, hp.w5 iw, hp.w6 iw, hp.w7 iw, hp.w8 iw, hp.dish iw, hp.craft iw, hp.ask iw, hp.t6, hs.rains iw, hs.dishes iw, hs.crafts iw, hs.asks iw, hs.k468, hr.hour wr, hr.nd wr, hr.nc wr, hr.na wr, kh, eN, hr.rate wr, hr.blocks wr, hr.room wr, hp.blocks iw, k_X11_outside, c_X11_over, e_X11_over_0, e_X11_over_5, e_X11_over_15, e_X11_over_18, e_X11_over_24, e_X11_over_48, c_X11_noCraft, e_X11_noCraft_0, e_X11_noCraft_14, c_X1_lostBy, e_X1_lostBy_0, e_X1_lostBy_22]
    · simp (disch := omega) only [q_470, q_up_far, q_row_row, q_row_self, q_row_ne, q_up_ne, q_up_eq, q_rowup, ud_eq, ud_ne, q_add_id, q_sub_id, q_mul_id, q_w_eq, q_rem_n, q_div_n, ↓reduceIte, leT, leF, ltT, ltF, eqT, eqF, true_or, or_true, false_or, or_false, true_and, and_true, false_and, and_false, or_self, and_self, Option.bind_some, hp.m0, hp.m6, hs.k470, hs.k474, hG, k_X12_in, kk, hp.m2, ol, c_X12_over, e_X12_over_0, e_X12_over_5, e_X12_over_15, e_X12_over_37, c_X12_isCraft, e_X12_isCraft_0, e_X12_isCraft_13]
    · exact hp.row (fun j => VP_ref (by decide))
    · intro k j hS
      rw [q_row_ne (fun e => hS (by unfold Scr; omega))]
    · intro k hk
      exact ⟨by rw [q_row_ne (by omega)], rfl⟩
  · by_cases a1 : 0 ≤ c ∧ c < G 2 <;> by_cases a2 : 1 ≤ m ∧ m ≤ 9 <;> first | (exfalso; omega) | skip
    all_goals
      refine ⟨-1000001, (q_up h 468 0 (q_add (h 468 0) 1)), q_up (q_up h 468 0 (q_add (h 468 0) 1)) 474 0 (q_add (h 474 0) 1), ?_, ?_, hi.find 0 (by decide) (by decide), fun k hk => ⟨by rw [q_up_far (by omega), q_up_far (by omega)], by rw [q_up_far (by omega)]⟩⟩
      · simp (disch := omega) only [q_470, q_up_far, q_row_row, q_row_self, q_row_ne, q_up_ne, q_up_eq, q_rowup, ud_eq, ud_ne, q_add_id, q_sub_id, q_mul_id, q_w_eq, q_rem_n, q_div_n, ↓reduceIte, leT, leF, ltT, ltF, eqT, eqF, true_or, or_true, false_or, or_false, true_and, and_true, false_and, and_false, or_self, and_self, Option.bind_some, ew, hp.w4 iw, hp.w5 iw, hp.w6 iw, hp.w7 iw, hp.w8 iw, hp.dish iw, hp.craft iw, hp.ask iw, hp.t6, hs.rains iw, hs.dishes iw, hs.crafts iw, hs.asks iw, hs.k468, hr.hour wr, hr.nd wr, hr.nc wr, hr.na wr, k_X11_outside, k_f0 hp.t6 hs.k468, c_X11_over, e_X11_over_0, e_X11_over_5, e_X11_over_15, e_X11_over_18, e_X11_over_24, e_X11_over_48, c_X11_noCraft, e_X11_noCraft_0, e_X11_noCraft_14]
      · simp (disch := omega) only [q_470, q_up_far, q_row_row, q_row_self, q_row_ne, q_up_ne, q_up_eq, q_rowup, ud_eq, ud_ne, q_add_id, q_sub_id, q_mul_id, q_w_eq, q_rem_n, q_div_n, ↓reduceIte, leT, leF, ltT, ltF, eqT, eqF, true_or, or_true, false_or, or_false, true_and, and_true, false_and, and_false, or_self, and_self, Option.bind_some, hp.m0, hp.m6, hs.k470, hs.k474, hG, k_X12_in, k_g0 (sh := sh) (h := (q_up h 468 0 (q_add (h 468 0) 1))) (by rw [q_up_far (by decide)]; exact hp.m6) hs.k474, c_X12_over, e_X12_over_0, e_X12_over_5, e_X12_over_15, e_X12_over_18, e_X12_over_24, c_X12_isCraft, e_X12_isCraft_0, e_X12_isCraft_13]
