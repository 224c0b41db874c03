/-! where everything stands once the two constructors have run: 488 cells, all references fixed.
    0 FarDishes; 1, 148, 295 the worlds (147 cells each); 442 planner; 452 text; 459 sheets; 468 told; 469 the reference, 470 .. 487 its rows -/
/-- a craft's cells, by offset -/
def LTc (r : Int) : Nat × Int := if r = 0 then (12, 8) else if r < 3 then (30, 3) else if r = 3 then (11, 8) else if r < 6 then (30, 12) else if r = 6 then (14, 7) else if r < 13 then (30, 12) else if r = 13 then (18, 2) else (30, 8)
/-- a world's cells, by offset -/
def LTw (r : Int) : Nat × Int := if r = 0 then (20, 9) else if r = 1 then (30, 42) else if r = 2 then (43, 6) else if r = 3 then (42, 8) else if r = 4 then (40, 14) else if r = 5 then (16, 2) else if r = 6 then (30, 64) else if r < 13 then (13, 4) else if r < 133 then LTc ((r - 13) % 15) else (10, 9)
def LT0 (k : Int) : Nat × Int := if k = 0 then (21, 8) else if k < 442 then LTw ((k - 1) % 147) else if k = 442 then (15, 12) else if k < 449 then (30, 5) else if k < 452 then (30, 6) else if k = 452 then (19, 8) else if k = 453 then (30, 110) else if k = 454 then (32, 4) else if k < 459 then (30, 6)
  else if k = 459 then (47, 4) else if k < 468 then (if k % 2 = 0 then (17, 3) else (30, 24)) else if k = 468 then (30, 7) else if k = 469 then (22, 28) else if k < 473 then (30, 1354) else if k = 473 then (30, 110) else if k = 474 then (30, 7) else if k < 477 then (30, 4) else if k = 477 then (30, 96) else if k < 480 then (30, 24) else if k = 480 then (30, 72) else if k < 486 then (30, 5) else if k = 486 then (30, 6) else (31, 12)
/-- the reference that stands in a craft's cell, by offset r; k the cell, j the slot -/
def VPc (k r j : Int) : Option Int := if r = 0 then (if j = 3 then some (k + 1) else if j = 4 then some (k + 2) else if j = 5 then some (k + 3) else if j = 6 then some (k + 6) else if j = 7 then some (k + 13) else none)
  else if r = 3 then (if j = 6 then some (k + 1) else if j = 7 then some (k + 2) else none) else if r = 6 then (if 1 ≤ j ∧ j ≤ 6 then some (k + j) else none) else if r = 13 then (if j = 0 then some (k + 1) else none) else none
def VPw (k r j : Int) : Option Int := if r = 0 then (if 4 ≤ j ∧ j ≤ 8 then some (k + j - 3) else none) else if r = 2 then (if 0 ≤ j ∧ j < 6 then some (k + 5 + j) else none) else if r = 3 then (if 0 ≤ j ∧ j < 8 then some (k + 10 + 15 * j) else none) else if r = 4 then (if 0 ≤ j ∧ j < 14 then some (k + 129 + j) else none)
  else if r = 5 then (if j = 0 then some (k + 1) else none) else if 13 ≤ r ∧ r < 133 then VPc k ((r - 13) % 15) j else none
/-- the reference's own rows -/
def VPm (j : Int) : Option Int := if j = 0 then some 470 else if j = 1 then some 471 else if j = 2 then some 472 else if j = 4 then some 473 else if 6 ≤ j ∧ j ≤ 10 then some (468 + j) else if j = 16 then some 479 else if j = 17 then some 480 else if 19 ≤ j ∧ j ≤ 23 then some (462 + j) else if j = 26 then some 486 else if j = 27 then some 487 else none
def VP0 (k j : Int) : Option Int := if k = 0 then (if j = 0 then some 1 else if j = 1 then some 148 else if j = 2 then some 295 else if j = 3 then some 442 else if j = 4 then some 452 else if j = 5 then some 459 else if j = 6 then some 468 else none)
  else if 0 < k ∧ k < 442 then VPw k ((k - 1) % 147) j else if k = 442 then (if 3 ≤ j ∧ j ≤ 11 then some (440 + j) else none) else if k = 452 then (if j = 0 then some 453 else if j = 2 then some 454 else none) else if k = 454 then (if 0 ≤ j ∧ j < 4 then some (455 + j) else none)
  else if k = 459 then (if 0 ≤ j ∧ j < 4 then some (460 + 2 * j) else none) else if 460 ≤ k ∧ k < 468 ∧ k % 2 = 0 then (if j = 2 then some (k + 1) else none) else if k = 469 then VPm j else none
/-- all references stand -/
def Ptr (h : Int → Int → Int) : Prop := ∀ k j v, VP0 k j = some v → h k j = v
theorem Ptr.up {h : Int → Int → Int} (hp : Ptr h) {k j v : Int} (hn : VP0 k j = none) : Ptr (q_up h k j v) := by
  intro a b w hw
  unfold q_up
  by_cases e : a = k ∧ b = j
  · rw [e.1, e.2, hn] at hw; cases hw
  · rw [if_neg e]; exact hp a b w hw
theorem Ptr.cp {h : Int → Int → Int} (hp : Ptr h) {a i b j n : Int} (hn : ∀ x, VP0 b x = none) : Ptr (q_cp h a i b j n) := by
  intro c x w hw
  unfold q_cp
  by_cases e : c = b ∧ j ≤ x ∧ x < j + n
  · rw [e.1, hn] at hw; cases hw
  · rw [if_neg e]; exact hp c x w hw
/-- the worlds -/
def isW (w : Int) : Prop := w = 1 ∨ w = 148 ∨ w = 295
theorem VP_world {w j : Int} (hw : isW w) (h1 : 4 ≤ j) (h2 : j ≤ 8) : VP0 w j = some (w + j - 3) := by
  rcases hw with rfl | rfl | rfl <;> (unfold VP0 VPw; simp [h1, h2])
theorem VP_dish {w d : Int} (hw : isW w) (h1 : 0 ≤ d) (h2 : d < 6) : VP0 (w + 2) d = some (w + 7 + d) := by
  rcases hw with rfl | rfl | rfl <;> (unfold VP0 VPw; simp [h1, h2])
theorem VP_craft {w c : Int} (hw : isW w) (h1 : 0 ≤ c) (h2 : c < 8) : VP0 (w + 3) c = some (w + 13 + 15 * c) := by
  rcases hw with rfl | rfl | rfl <;> (unfold VP0 VPw; simp [h1, h2])
theorem VP_ask {w a : Int} (hw : isW w) (h1 : 0 ≤ a) (h2 : a < 14) : VP0 (w + 4) a = some (w + 133 + a) := by
  rcases hw with rfl | rfl | rfl <;> (unfold VP0 VPw; simp [h1, h2])
/-- a craft's cell c, offset r of 15 -/
theorem VP_c {w c r j : Int} (hw : isW w) (h1 : 0 ≤ c) (h2 : c < 8) (r0 : 0 ≤ r) (r1 : r < 15) : VP0 (w + 13 + 15 * c + r) j = VPc (w + 13 + 15 * c + r) r j := by
  have e1 : (w + 13 + 15 * c + r - 1) % 147 = 13 + 15 * c + r := by rcases hw with rfl | rfl | rfl <;> omega
  have e2 : (13 + 15 * c + r - 13) % 15 = r := by omega
  unfold VP0
  rw [if_neg (by rcases hw with rfl | rfl | rfl <;> omega), if_pos (by rcases hw with rfl | rfl | rfl <;> omega), e1]
  unfold VPw
  rw [if_neg (by omega), if_neg (by omega), if_neg (by omega), if_neg (by omega), if_neg (by omega), if_pos (by omega), e2]
