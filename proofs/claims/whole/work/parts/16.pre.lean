/-! comparisons that are decided -/
theorem leT {a b : Int} (h : a ≤ b) : (a ≤ b) = True := eq_true h
theorem leF {a b : Int} (h : ¬ a ≤ b) : (a ≤ b) = False := eq_false h
theorem ltT {a b : Int} (h : a < b) : (a < b) = True := eq_true h
theorem ltF {a b : Int} (h : ¬ a < b) : (a < b) = False := eq_false h
theorem eqT {a b : Int} (h : a = b) : (a = b) = True := eq_true h
theorem eqF {a b : Int} (h : ¬ a = b) : (a = b) = False := eq_false h
theorem Inv.opn {h : Int → Int → Int} (hi : Inv h) : ∃ w G, w = 1 ∧ isW w ∧ h 0 0 = w ∧ h 470 = G ∧ Ptr h ∧ RelW h w G ∧ WF G ∧ G 0 ≤ 2000 :=
  ⟨1, h 470, rfl, Or.inl rfl, hi.1.t0, rfl, hi.1, hi.2.1, hi.2.2.1, hi.2.2.2.1⟩
/-! no reference stands where a number stands -/
theorem VP_r {w r j : Int} (hw : isW w) (hr : r = 1 ∨ (6 ≤ r ∧ r < 13) ∨ (133 ≤ r ∧ r < 147)) : VP0 (w + r) j = none := by
  have e1 : (w + r - 1) % 147 = r := by rcases hw with rfl | rfl | rfl <;> omega
  unfold VP0
  rw [if_neg (by rcases hw with rfl | rfl | rfl <;> omega), if_pos (by rcases hw with rfl | rfl | rfl <;> omega), e1]
  unfold VPw
  rw [if_neg (by omega), if_neg (by omega), if_neg (by omega), if_neg (by omega), if_neg (by omega), if_neg (by omega)]
theorem VP_w0 {w j : Int} (hw : isW w) (hj : j < 4) : VP0 w j = none := by
  have e1 : (w - 1) % 147 = 0 := by rcases hw with rfl | rfl | rfl <;> omega
  unfold VP0
  rw [if_neg (by rcases hw with rfl | rfl | rfl <;> omega), if_pos (by rcases hw with rfl | rfl | rfl <;> omega), e1]
  unfold VPw
  rw [if_pos rfl, if_neg (by omega)]
theorem VP_s1 {w : Int} (hw : isW w) : VP0 (w + 5) 1 = none := by
  rcases hw with rfl | rfl | rfl <;> rfl
theorem VP_cr {w c r j : Int} (hw : isW w) (h1 : 0 ≤ c) (h2 : c < 8) (r0 : 0 ≤ r) (r1 : r < 15) (hj : (r = 0 ∧ j < 3) ∨ r = 1 ∨ r = 2 ∨ (r = 3 ∧ j < 6) ∨ r = 4 ∨ r = 5 ∨ (r = 6 ∧ j < 1) ∨ (7 ≤ r ∧ r < 13) ∨ (r = 13 ∧ j = 1) ∨ r = 14) : VP0 (w + 13 + 15 * c + r) j = none := by
  rw [VP_c hw h1 h2 r0 r1]
  unfold VPc
  repeat' split
  all_goals first | rfl | omega
theorem VP_ref {k j : Int} (hk : 470 ≤ k) : VP0 k j = none := by
  unfold VP0
  rw [if_neg (by omega), if_neg (by omega), if_neg (by omega), if_neg (by omega), if_neg (by omega), if_neg (by omega), if_neg (by omega), if_neg (by omega)]
theorem Ptr.row {h : Int → Int → Int} (hp : Ptr h) {k : Int} {f : Int → Int} (hk : ∀ j, VP0 k j = none) : Ptr (q_row h k f) := by
  intro a b v hv
  by_cases e : a = k
  · subst e; rw [hk] at hv; cases hv
  · rw [q_row_ne e]; exact hp a b v hv
/-- the class has changed the world, the reference p -/
theorem Inv.world2 {h hc : Int → Int → Int} {G' : Int → Int} {w : Int} (hi : Inv h) (hw1 : w = 1) (hp : Ptr hc) (hf : ∀ k j, (k < 1 ∨ 148 ≤ k) → ¬ Scr k j → hc k j = h k j) (hr : RelW hc w G') (hw : WF G') (hh : G' 0 ≤ 2000) : Inv (q_row hc 470 G') := by
  subst hw1
  refine hi.world (hp.row (fun j => VP_ref (by decide))) ?_ ?_ ?_ ?_
  · intro k j hk h4 hs
    rw [q_row_ne h4]; exact hf k j hk hs
  · rw [q_row_self]
    exact hr.frame hw.1 (fun k k0 k1 => q_row_ne (by omega))
  · rw [q_row_self]; exact hw
  · rw [q_row_self]; exact hh
theorem Inv.same {h : Int → Int → Int} (hi : Inv h) {G : Int → Int} (hG : h 470 = G) : Inv (q_row h 470 G) := by
  rw [← hG, q_row_id]; exact hi
/-- p as a row of its own -/
theorem q_row_in {h : Int → Int → Int} {k : Int} {F : Int → Int} (e : h k = F) : h = q_row h k F := by rw [← e, q_row_id]
theorem q_470 (h : Int → Int → Int) (i v : Int) : q_up h 470 i v = q_row h 470 (ud (h 470) i v) := q_up_row h 470 i v
/-! findings -/
theorem k_f0 {sh : Int × (Int → Nat × Int)} {h : Int → Int → Int} (p6 : h 0 6 = 468) (hs : (sh.2 468).2 = 7) : q_Cc 159 [(21, 0), (0, -1000001)] (sh, h) = some ((0, -1000001), (sh, q_up h 468 0 (q_add (h 468 0) 1))) := by
  have := k_X11_finding 0 (by decide) (by decide) sh h p6 hs
  exact this
theorem k_g0 {sh : Int × (Int → Nat × Int)} {h : Int → Int → Int} (p6 : h 469 6 = 474) (hs : (sh.2 474).2 = 7) : q_Cc 161 [(22, 469), (0, -1000001)] (sh, h) = some ((0, -1000001), (sh, q_up h 474 0 (q_add (h 474 0) 1))) := by
  have := k_X12_finds 0 (by decide) (by decide) sh h p6 hs
  exact this
theorem k_f1 {sh : Int × (Int → Nat × Int)} {h : Int → Int → Int} (p6 : h 0 6 = 468) (hs : (sh.2 468).2 = 7) : q_Cc 159 [(21, 0), (0, -1000002)] (sh, h) = some ((0, -1000002), (sh, q_up h 468 1 (q_add (h 468 1) 1))) := by
  have := k_X11_finding 1 (by decide) (by decide) sh h p6 hs
  exact this
theorem k_g1 {sh : Int × (Int → Nat × Int)} {h : Int → Int → Int} (p6 : h 469 6 = 474) (hs : (sh.2 474).2 = 7) : q_Cc 161 [(22, 469), (0, -1000002)] (sh, h) = some ((0, -1000002), (sh, q_up h 474 1 (q_add (h 474 1) 1))) := by
  have := k_X12_finds 1 (by decide) (by decide) sh h p6 hs
  exact this
theorem k_f2 {sh : Int × (Int → Nat × Int)} {h : Int → Int → Int} (p6 : h 0 6 = 468) (hs : (sh.2 468).2 = 7) : q_Cc 159 [(21, 0), (0, -1000003)] (sh, h) = some ((0, -1000003), (sh, q_up h 468 2 (q_add (h 468 2) 1))) := by
  have := k_X11_finding 2 (by decide) (by decide) sh h p6 hs
  exact this
theorem k_g2 {sh : Int × (Int → Nat × Int)} {h : Int → Int → Int} (p6 : h 469 6 = 474) (hs : (sh.2 474).2 = 7) : q_Cc 161 [(22, 469), (0, -1000003)] (sh, h) = some ((0, -1000003), (sh, q_up h 474 2 (q_add (h 474 2) 1))) := by
  have := k_X12_finds 2 (by decide) (by decide) sh h p6 hs
  exact this
theorem k_f3 {sh : Int × (Int → Nat × Int)} {h : Int → Int → Int} (p6 : h 0 6 = 468) (hs : (sh.2 468).2 = 7) : q_Cc 159 [(21, 0), (0, -1000004)] (sh, h) = some ((0, -1000004), (sh, q_up h 468 3 (q_add (h 468 3) 1))) := by
  have := k_X11_finding 3 (by decide) (by decide) sh h p6 hs
  exact this
theorem k_g3 {sh : Int × (Int → Nat × Int)} {h : Int → Int → Int} (p6 : h 469 6 = 474) (hs : (sh.2 474).2 = 7) : q_Cc 161 [(22, 469), (0, -1000004)] (sh, h) = some ((0, -1000004), (sh, q_up h 474 3 (q_add (h 474 3) 1))) := by
  have := k_X12_finds 3 (by decide) (by decide) sh h p6 hs
  exact this
theorem k_f4 {sh : Int × (Int → Nat × Int)} {h : Int → Int → Int} (p6 : h 0 6 = 468) (hs : (sh.2 468).2 = 7) : q_Cc 159 [(21, 0), (0, -1000005)] (sh, h) = some ((0, -1000005), (sh, q_up h 468 4 (q_add (h 468 4) 1))) := by
  have := k_X11_finding 4 (by decide) (by decide) sh h p6 hs
  exact this
theorem k_g4 {sh : Int × (Int → Nat × Int)} {h : Int → Int → Int} (p6 : h 469 6 = 474) (hs : (sh.2 474).2 = 7) : q_Cc 161 [(22, 469), (0, -1000005)] (sh, h) = some ((0, -1000005), (sh, q_up h 474 4 (q_add (h 474 4) 1))) := by
  have := k_X12_finds 4 (by decide) (by decide) sh h p6 hs
  exact this
theorem k_f5 {sh : Int × (Int → Nat × Int)} {h : Int → Int → Int} (p6 : h 0 6 = 468) (hs : (sh.2 468).2 = 7) : q_Cc 159 [(21, 0), (0, -1000006)] (sh, h) = some ((0, -1000006), (sh, q_up h 468 5 (q_add (h 468 5) 1))) := by
  have := k_X11_finding 5 (by decide) (by decide) sh h p6 hs
  exact this
theorem k_g5 {sh : Int × (Int → Nat × Int)} {h : Int → Int → Int} (p6 : h 469 6 = 474) (hs : (sh.2 474).2 = 7) : q_Cc 161 [(22, 469), (0, -1000006)] (sh, h) = some ((0, -1000006), (sh, q_up h 474 5 (q_add (h 474 5) 1))) := by
  have := k_X12_finds 5 (by decide) (by decide) sh h p6 hs
  exact this
theorem k_f6 {sh : Int × (Int → Nat × Int)} {h : Int → Int → Int} (p6 : h 0 6 = 468) (hs : (sh.2 468).2 = 7) : q_Cc 159 [(21, 0), (0, -1000007)] (sh, h) = some ((0, -1000007), (sh, q_up h 468 6 (q_add (h 468 6) 1))) := by
  have := k_X11_finding 6 (by decide) (by decide) sh h p6 hs
  exact this
theorem k_g6 {sh : Int × (Int → Nat × Int)} {h : Int → Int → Int} (p6 : h 469 6 = 474) (hs : (sh.2 474).2 = 7) : q_Cc 161 [(22, 469), (0, -1000007)] (sh, h) = some ((0, -1000007), (sh, q_up h 474 6 (q_add (h 474 6) 1))) := by
  have := k_X12_finds 6 (by decide) (by decide) sh h p6 hs
  exact this
/-- an entry is set that none of the other clauses speaks of -/
theorem WF.set {G : Int → Int} (wf : WF G) (q : Int × Int × Int × Int) {i v : Int} (hq : q ∈ RT) (h0 : q.1 ≤ i) (h1 : i < q.2.1) (h2 : q.2.2.1 ≤ v) (h3 : v ≤ q.2.2.2) (hi : 4 ≤ i ∧ (i < 92 ∨ (100 ≤ i ∧ i < 108) ∨ 156 ≤ i) ∧ (i < 410 ∨ (438 ≤ i ∧ i < 480) ∨ 522 ≤ i) ∧ (156 ≤ i → i < 180 → i < 156 + 3 * G 2) ∧ (180 ≤ i → i < 204 → i < 180 + 3 * G 2) ∧ (1098 ≤ i → i < 1162 → i < 1098 + 8 * G 2) ∧ (1162 ≤ i → i < 1226 → i < 1162 + 8 * G 2)) : WF (ud G i v) := by
  have u2 := wf.1.nc
  exact ⟨wf.1.set q hq h0 h1 h2 h3, wf.2.1.fr wf.1 (fun x hx => ud_ne (by omega)), wf.2.2.1.fr wf.1 (fun x hx => ud_ne (by omega)), wf.2.2.2.1.fr wf.1 (fun x hx => ud_ne (by omega)), wf.2.2.2.2.fr wf.1 (ud_ne (by omega)) (fun x hx => ud_ne (by omega))⟩
theorem pn_dish {w d j : Int} (hw : isW w) (h0 : 0 ≤ d) (h1 : d < 6) : VP0 (w + 7 + d) j = none := by
  have := VP_r (j := j) (r := 7 + d) hw (by omega)
  rw [← this]; congr 1; omega
theorem pn_ask {w d j : Int} (hw : isW w) (h0 : 0 ≤ d) (h1 : d < 14) : VP0 (w + 133 + d) j = none := by
  have := VP_r (j := j) (r := 133 + d) hw (by omega)
  rw [← this]; congr 1; omega
theorem pn_c0 {w c j : Int} (hw : isW w) (h0 : 0 ≤ c) (h1 : c < 8) (hj : j < 3) : VP0 (w + 13 + 15 * c) j = none := by
  have := VP_cr (j := j) (r := 0) hw h0 h1 (by decide) (by decide) (by omega)
  rw [← this]; congr 1; omega
/-- a value is written that p has already -/
theorem RelL.put {h : Int → Int → Int} {w : Int} {G : Int → Int} {L : Int → Prop} (r : RelL h w G L) {i v k j : Int} (hl : cel i = k ∧ slt i = j ∧ Mp i) {a : Int} (ha : a = w + k) (hv : G i = v) : RelL (q_up h a j v) w G (fun x => L x ∨ x = i) := by
  have := r.set' (v := v) hl ha
  have e : ud G i v = G := by funext x; unfold ud; by_cases ex : x = i
                              · rw [if_pos ex, ex, hv]
                              · rw [if_neg ex]
  rw [e] at this; exact this
