/-! rows: a memory as rows, one for a cell -/
/-- a row of a memory is replaced -/
def q_row (h : Int → Int → Int) (k : Int) (f : Int → Int) : Int → Int → Int := fun a => if a = k then f else h a
def ud (f : Int → Int) (j v : Int) : Int → Int := fun x => if x = j then v else f x
theorem ud_self (f : Int → Int) (j v : Int) : ud f j v j = v := if_pos rfl
theorem ud_eq {f : Int → Int} {j v x : Int} (e : x = j) : ud f j v x = v := if_pos e
theorem ud_ne {f : Int → Int} {j v x : Int} (e : x ≠ j) : ud f j v x = f x := if_neg e
theorem q_row_self (h : Int → Int → Int) (k : Int) (f : Int → Int) : q_row h k f k = f := if_pos rfl
theorem q_row_ne {h : Int → Int → Int} {k a : Int} {f : Int → Int} (e : a ≠ k) : q_row h k f a = h a := if_neg e
theorem q_up_row (h : Int → Int → Int) (k j v : Int) : q_up h k j v = q_row h k (ud (h k) j v) := by
  funext a b
  unfold q_up q_row ud
  by_cases e : a = k
  · subst e; by_cases e2 : b = j <;> simp [e2]
  · simp [e]
theorem q_rowup (h : Int → Int → Int) (k j v : Int) (f : Int → Int) : q_up (q_row h k f) k j v = q_row h k (ud f j v) := by
  rw [q_up_row, q_row_self]
  funext a
  unfold q_row
  by_cases e : a = k <;> simp [e]
theorem q_row_row (h : Int → Int → Int) (k : Int) (f g : Int → Int) : q_row (q_row h k f) k g = q_row h k g := by
  funext a
  unfold q_row
  by_cases e : a = k <;> simp [e]
theorem q_row_id (h : Int → Int → Int) (k : Int) : q_row h k (h k) = h := by
  funext a
  unfold q_row
  by_cases e : a = k <;> simp [e]
theorem q_row_comm {h : Int → Int → Int} {k l : Int} {f g : Int → Int} (e : k ≠ l) : q_row (q_row h k f) l g = q_row (q_row h l g) k f := by
  funext a
  unfold q_row
  by_cases e1 : a = k
  · subst e1; simp [e]
  · simp [e1]
theorem q_up_self (h : Int → Int → Int) (k j v : Int) : q_up h k j v k j = v := if_pos ⟨rfl, rfl⟩
theorem q_up_eq {h : Int → Int → Int} {k j v a b : Int} (e : a = k) (e2 : b = j) : q_up h k j v a b = v := if_pos ⟨e, e2⟩
theorem q_up_ne {h : Int → Int → Int} {k j v a b : Int} (e : a ≠ k ∨ b ≠ j) : q_up h k j v a b = h a b := if_neg (by omega)
theorem q_up_far {h : Int → Int → Int} {k j v a : Int} (e : a ≠ k) : q_up h k j v a = h a := by
  funext b
  exact q_up_ne (Or.inl e)
theorem q_cp_row (h : Int → Int → Int) (a i b j n : Int) : q_cp h a i b j n = q_row h b (fun x => if j ≤ x ∧ x < j + n then h a (i + (x - j)) else h b x) := by
  funext c x
  unfold q_cp q_row
  by_cases e : c = b
  · subst e; simp
  · simp [e]
theorem q_cp_far {h : Int → Int → Int} {a i b j n c : Int} (e : c ≠ b) : q_cp h a i b j n c = h c := by
  rw [q_cp_row, q_row_ne e]
/-- the shape that the two constructors leave -/
def Sh (sh : Int × (Int → Nat × Int)) : Prop := ∀ k, 0 ≤ k → k < 488 → sh.2 k = LT0 k
/-! the reference's p against a world's cells: entry i of p stands in cell w + cel i, slot slt i -/
def cel (i : Int) : Int := if i < 10 then 0 else if i < 52 then 1 else if i < 76 then 7 + (i - 52) % 6 else if i < 156 then 13 + 15 * ((i - 76) % 8) + (if (i - 76) / 8 < 2 then 0 else if (i - 76) / 8 = 3 then 0 else if (i - 76) / 8 < 9 then 3 else 6)
  else if i < 180 then 13 + 15 * ((i - 156) / 3) + 1 else if i < 204 then 13 + 15 * ((i - 180) / 3) + 2 else if i < 300 then 13 + 15 * ((i - 204) / 12) + 4 else if i < 396 then 13 + 15 * ((i - 300) / 12) + 5 else if i < 522 then 133 + (i - 396) % 14
  else if i < 618 then 13 + 15 * ((i - 522) / 12) + 7 else if i < 714 then 13 + 15 * ((i - 618) / 12) + 8 else if i < 810 then 13 + 15 * ((i - 714) / 12) + 9 else if i < 906 then 13 + 15 * ((i - 810) / 12) + 11 else if i < 1002 then 13 + 15 * ((i - 906) / 12) + 12 else if i < 1098 then 13 + 15 * ((i - 1002) / 12) + 10
  else if i < 1162 then 13 + 15 * ((i - 1098) / 8) + 14 else 6
def slt (i : Int) : Int := if i < 10 then i else if i < 52 then i - 10 else if i < 76 then (i - 52) / 6 else if i < 156 then (if (i - 76) / 8 < 2 then (i - 76) / 8 else if (i - 76) / 8 = 3 then 2 else if (i - 76) / 8 = 2 then 0 else if (i - 76) / 8 < 9 then (i - 76) / 8 - 3 else 0)
  else if i < 180 then (i - 156) % 3 else if i < 204 then (i - 180) % 3 else if i < 396 then (i - 204) % 12 else if i < 522 then (i - 396) / 14 else if i < 1098 then (i - 522) % 12 else if i < 1162 then (i - 1098) % 8 else i - 1226
/-- the entries that stand one by one in cells (not the bits) -/
def Mp (i : Int) : Prop := (0 ≤ i ∧ i < 4) ∨ (10 ≤ i ∧ i < 1162) ∨ (1226 ≤ i ∧ i < 1290)
def inv1 (c r j : Int) : Int := if r = 0 then (if j = 0 then 76 + c else if j = 1 then 84 + c else 100 + c) else if r = 1 then 156 + 3 * c + j else if r = 2 then 180 + 3 * c + j else if r = 3 then (if j = 0 then 92 + c else 100 + 8 * j + c) else if r = 4 then 204 + 12 * c + j else if r = 5 then 300 + 12 * c + j else if r = 6 then 148 + c
  else if r = 7 then 522 + 12 * c + j else if r = 8 then 618 + 12 * c + j else if r = 9 then 714 + 12 * c + j else if r = 10 then 1002 + 12 * c + j else if r = 11 then 810 + 12 * c + j else if r = 12 then 906 + 12 * c + j else 1098 + 8 * c + j
def inv0 (k j : Int) : Int := if k = 0 then j else if k = 1 then 10 + j else if k = 6 then 1226 + j else if k < 13 then 52 + 6 * j + (k - 7) else if k < 133 then inv1 ((k - 13) / 15) ((k - 13) % 15) j else 396 + 14 * j + (k - 133)
theorem inv0_eq {i : Int} (hi : Mp i) : inv0 (cel i) (slt i) = i := by
  unfold Mp at hi
  rcases Int.lt_or_le i 10 with h0 | h0
  · have e1 : cel i = 0 := by unfold cel; rw [if_pos h0]
    have e2 : slt i = i := by unfold slt; rw [if_pos h0]
    rw [e1, e2]; unfold inv0; rw [if_pos rfl]
  unfold inv0
  unfold cel slt
  repeat' split
  all_goals (try unfold inv1)
  all_goals (repeat' split)
  all_goals omega
theorem lo_hour : cel 0 = 0 ∧ slt 0 = 0 ∧ Mp 0 := by
  refine ⟨by decide, by decide, ?_⟩
  unfold Mp; omega
theorem lo_nd : cel 1 = 0 ∧ slt 1 = 1 ∧ Mp 1 := by
  refine ⟨by decide, by decide, ?_⟩
  unfold Mp; omega
theorem lo_nc : cel 2 = 0 ∧ slt 2 = 2 ∧ Mp 2 := by
  refine ⟨by decide, by decide, ?_⟩
  unfold Mp; omega
theorem lo_na : cel 3 = 0 ∧ slt 3 = 3 ∧ Mp 3 := by
  refine ⟨by decide, by decide, ?_⟩
  unfold Mp; omega
theorem lo_rain {j : Int} (h0 : 0 ≤ j) (h1 : j < 42) : cel (10 + j) = 1 ∧ slt (10 + j) = j ∧ Mp (10 + j) := by
  refine ⟨?_, ?_, ?_⟩
  · unfold cel
    repeat (first | rw [if_pos (by omega)] | rw [if_neg (by omega)])
    all_goals omega
  · unfold slt
    repeat (first | rw [if_pos (by omega)] | rw [if_neg (by omega)])
    all_goals omega
  · unfold Mp; omega
theorem lo_place {d : Int} (h0 : 0 ≤ d) (h1 : d < 6) : cel (52 + d) = 7 + d ∧ slt (52 + d) = 0 ∧ Mp (52 + d) := by
  refine ⟨?_, ?_, ?_⟩
  · unfold cel
    repeat (first | rw [if_pos (by omega)] | rw [if_neg (by omega)])
    all_goals omega
  · unfold slt
    repeat (first | rw [if_pos (by omega)] | rw [if_neg (by omega)])
    all_goals omega
  · unfold Mp; omega
theorem lo_size {d : Int} (h0 : 0 ≤ d) (h1 : d < 6) : cel (58 + d) = 7 + d ∧ slt (58 + d) = 1 ∧ Mp (58 + d) := by
  refine ⟨?_, ?_, ?_⟩
  · unfold cel
    repeat (first | rw [if_pos (by omega)] | rw [if_neg (by omega)])
    all_goals omega
  · unfold slt
    repeat (first | rw [if_pos (by omega)] | rw [if_neg (by omega)])
    all_goals omega
  · unfold Mp; omega
theorem lo_turn {d : Int} (h0 : 0 ≤ d) (h1 : d < 6) : cel (64 + d) = 7 + d ∧ slt (64 + d) = 2 ∧ Mp (64 + d) := by
  refine ⟨?_, ?_, ?_⟩
  · unfold cel
    repeat (first | rw [if_pos (by omega)] | rw [if_neg (by omega)])
    all_goals omega
  · unfold slt
    repeat (first | rw [if_pos (by omega)] | rw [if_neg (by omega)])
    all_goals omega
  · unfold Mp; omega
theorem lo_broken {d : Int} (h0 : 0 ≤ d) (h1 : d < 6) : cel (70 + d) = 7 + d ∧ slt (70 + d) = 3 ∧ Mp (70 + d) := by
  refine ⟨?_, ?_, ?_⟩
  · unfold cel
    repeat (first | rw [if_pos (by omega)] | rw [if_neg (by omega)])
    all_goals omega
  · unfold slt
    repeat (first | rw [if_pos (by omega)] | rw [if_neg (by omega)])
    all_goals omega
  · unfold Mp; omega
theorem lo_loud {c : Int} (h0 : 0 ≤ c) (h1 : c < 8) : cel (76 + c) = 13 + 15 * c + 0 ∧ slt (76 + c) = 0 ∧ Mp (76 + c) := by
  refine ⟨?_, ?_, ?_⟩
  · unfold cel
    repeat (first | rw [if_pos (by omega)] | rw [if_neg (by omega)])
    all_goals omega
  · unfold slt
    repeat (first | rw [if_pos (by omega)] | rw [if_neg (by omega)])
    all_goals omega
  · unfold Mp; omega
theorem lo_far {c : Int} (h0 : 0 ≤ c) (h1 : c < 8) : cel (84 + c) = 13 + 15 * c + 0 ∧ slt (84 + c) = 1 ∧ Mp (84 + c) := by
  refine ⟨?_, ?_, ?_⟩
  · unfold cel
    repeat (first | rw [if_pos (by omega)] | rw [if_neg (by omega)])
    all_goals omega
  · unfold slt
    repeat (first | rw [if_pos (by omega)] | rw [if_neg (by omega)])
    all_goals omega
  · unfold Mp; omega
theorem lo_room {c : Int} (h0 : 0 ≤ c) (h1 : c < 8) : cel (92 + c) = 13 + 15 * c + 3 ∧ slt (92 + c) = 0 ∧ Mp (92 + c) := by
  refine ⟨?_, ?_, ?_⟩
  · unfold cel
    repeat (first | rw [if_pos (by omega)] | rw [if_neg (by omega)])
    all_goals omega
  · unfold slt
    repeat (first | rw [if_pos (by omega)] | rw [if_neg (by omega)])
    all_goals omega
  · unfold Mp; omega
theorem lo_rate {c : Int} (h0 : 0 ≤ c) (h1 : c < 8) : cel (100 + c) = 13 + 15 * c + 0 ∧ slt (100 + c) = 2 ∧ Mp (100 + c) := by
  refine ⟨?_, ?_, ?_⟩
  · unfold cel
    repeat (first | rw [if_pos (by omega)] | rw [if_neg (by omega)])
    all_goals omega
  · unfold slt
    repeat (first | rw [if_pos (by omega)] | rw [if_neg (by omega)])
    all_goals omega
  · unfold Mp; omega
theorem lo_blocks {c : Int} (h0 : 0 ≤ c) (h1 : c < 8) : cel (108 + c) = 13 + 15 * c + 3 ∧ slt (108 + c) = 1 ∧ Mp (108 + c) := by
  refine ⟨?_, ?_, ?_⟩
  · unfold cel
    repeat (first | rw [if_pos (by omega)] | rw [if_neg (by omega)])
    all_goals omega
  · unfold slt
    repeat (first | rw [if_pos (by omega)] | rw [if_neg (by omega)])
    all_goals omega
  · unfold Mp; omega
theorem lo_made {c : Int} (h0 : 0 ≤ c) (h1 : c < 8) : cel (116 + c) = 13 + 15 * c + 3 ∧ slt (116 + c) = 2 ∧ Mp (116 + c) := by
  refine ⟨?_, ?_, ?_⟩
  · unfold cel
    repeat (first | rw [if_pos (by omega)] | rw [if_neg (by omega)])
    all_goals omega
  · unfold slt
    repeat (first | rw [if_pos (by omega)] | rw [if_neg (by omega)])
    all_goals omega
  · unfold Mp; omega
theorem lo_had {c : Int} (h0 : 0 ≤ c) (h1 : c < 8) : cel (124 + c) = 13 + 15 * c + 3 ∧ slt (124 + c) = 3 ∧ Mp (124 + c) := by
  refine ⟨?_, ?_, ?_⟩
  · unfold cel
    repeat (first | rw [if_pos (by omega)] | rw [if_neg (by omega)])
    all_goals omega
  · unfold slt
    repeat (first | rw [if_pos (by omega)] | rw [if_neg (by omega)])
    all_goals omega
  · unfold Mp; omega
theorem lo_dropped {c : Int} (h0 : 0 ≤ c) (h1 : c < 8) : cel (132 + c) = 13 + 15 * c + 3 ∧ slt (132 + c) = 4 ∧ Mp (132 + c) := by
  refine ⟨?_, ?_, ?_⟩
  · unfold cel
    repeat (first | rw [if_pos (by omega)] | rw [if_neg (by omega)])
    all_goals omega
  · unfold slt
    repeat (first | rw [if_pos (by omega)] | rw [if_neg (by omega)])
    all_goals omega
  · unfold Mp; omega
theorem lo_lost {c : Int} (h0 : 0 ≤ c) (h1 : c < 8) : cel (140 + c) = 13 + 15 * c + 3 ∧ slt (140 + c) = 5 ∧ Mp (140 + c) := by
  refine ⟨?_, ?_, ?_⟩
  · unfold cel
    repeat (first | rw [if_pos (by omega)] | rw [if_neg (by omega)])
    all_goals omega
  · unfold slt
    repeat (first | rw [if_pos (by omega)] | rw [if_neg (by omega)])
    all_goals omega
  · unfold Mp; omega
theorem lo_orders {c : Int} (h0 : 0 ≤ c) (h1 : c < 8) : cel (148 + c) = 13 + 15 * c + 6 ∧ slt (148 + c) = 0 ∧ Mp (148 + c) := by
  refine ⟨?_, ?_, ?_⟩
  · unfold cel
    repeat (first | rw [if_pos (by omega)] | rw [if_neg (by omega)])
    all_goals omega
  · unfold slt
    repeat (first | rw [if_pos (by omega)] | rw [if_neg (by omega)])
    all_goals omega
  · unfold Mp; omega
theorem lo_upat {c p : Int} (h0 : 0 ≤ c) (h1 : c < 8) (p0 : 0 ≤ p) (p1 : p < 3) : cel (156 + 3 * c + p) = 13 + 15 * c + 1 ∧ slt (156 + 3 * c + p) = p ∧ Mp (156 + 3 * c + p) := by
  refine ⟨?_, ?_, ?_⟩
  · unfold cel
    repeat (first | rw [if_pos (by omega)] | rw [if_neg (by omega)])
    all_goals omega
  · unfold slt
    repeat (first | rw [if_pos (by omega)] | rw [if_neg (by omega)])
    all_goals omega
  · unfold Mp; omega
theorem lo_upfor {c p : Int} (h0 : 0 ≤ c) (h1 : c < 8) (p0 : 0 ≤ p) (p1 : p < 3) : cel (180 + 3 * c + p) = 13 + 15 * c + 2 ∧ slt (180 + 3 * c + p) = p ∧ Mp (180 + 3 * c + p) := by
  refine ⟨?_, ?_, ?_⟩
  · unfold cel
    repeat (first | rw [if_pos (by omega)] | rw [if_neg (by omega)])
    all_goals omega
  · unfold slt
    repeat (first | rw [if_pos (by omega)] | rw [if_neg (by omega)])
    all_goals omega
  · unfold Mp; omega
theorem lo_bnum {c k : Int} (h0 : 0 ≤ c) (h1 : c < 8) (k0 : 0 ≤ k) (k1 : k < 12) : cel (204 + 12 * c + k) = 13 + 15 * c + 4 ∧ slt (204 + 12 * c + k) = k ∧ Mp (204 + 12 * c + k) := by
  refine ⟨?_, ?_, ?_⟩
  · unfold cel
    repeat (first | rw [if_pos (by omega)] | rw [if_neg (by omega)])
    all_goals omega
  · unfold slt
    repeat (first | rw [if_pos (by omega)] | rw [if_neg (by omega)])
    all_goals omega
  · unfold Mp; omega
theorem lo_bsent {c k : Int} (h0 : 0 ≤ c) (h1 : c < 8) (k0 : 0 ≤ k) (k1 : k < 12) : cel (300 + 12 * c + k) = 13 + 15 * c + 5 ∧ slt (300 + 12 * c + k) = k ∧ Mp (300 + 12 * c + k) := by
  refine ⟨?_, ?_, ?_⟩
  · unfold cel
    repeat (first | rw [if_pos (by omega)] | rw [if_neg (by omega)])
    all_goals omega
  · unfold slt
    repeat (first | rw [if_pos (by omega)] | rw [if_neg (by omega)])
    all_goals omega
  · unfold Mp; omega
theorem lo_osent {c k : Int} (h0 : 0 ≤ c) (h1 : c < 8) (k0 : 0 ≤ k) (k1 : k < 12) : cel (522 + 12 * c + k) = 13 + 15 * c + 7 ∧ slt (522 + 12 * c + k) = k ∧ Mp (522 + 12 * c + k) := by
  refine ⟨?_, ?_, ?_⟩
  · unfold cel
    repeat (first | rw [if_pos (by omega)] | rw [if_neg (by omega)])
    all_goals omega
  · unfold slt
    repeat (first | rw [if_pos (by omega)] | rw [if_neg (by omega)])
    all_goals omega
  · unfold Mp; omega
theorem lo_oagain {c k : Int} (h0 : 0 ≤ c) (h1 : c < 8) (k0 : 0 ≤ k) (k1 : k < 12) : cel (618 + 12 * c + k) = 13 + 15 * c + 8 ∧ slt (618 + 12 * c + k) = k ∧ Mp (618 + 12 * c + k) := by
  refine ⟨?_, ?_, ?_⟩
  · unfold cel
    repeat (first | rw [if_pos (by omega)] | rw [if_neg (by omega)])
    all_goals omega
  · unfold slt
    repeat (first | rw [if_pos (by omega)] | rw [if_neg (by omega)])
    all_goals omega
  · unfold Mp; omega
theorem lo_olast {c k : Int} (h0 : 0 ≤ c) (h1 : c < 8) (k0 : 0 ≤ k) (k1 : k < 12) : cel (714 + 12 * c + k) = 13 + 15 * c + 9 ∧ slt (714 + 12 * c + k) = k ∧ Mp (714 + 12 * c + k) := by
  refine ⟨?_, ?_, ?_⟩
  · unfold cel
    repeat (first | rw [if_pos (by omega)] | rw [if_neg (by omega)])
    all_goals omega
  · unfold slt
    repeat (first | rw [if_pos (by omega)] | rw [if_neg (by omega)])
    all_goals omega
  · unfold Mp; omega
theorem lo_ostate {c k : Int} (h0 : 0 ≤ c) (h1 : c < 8) (k0 : 0 ≤ k) (k1 : k < 12) : cel (810 + 12 * c + k) = 13 + 15 * c + 11 ∧ slt (810 + 12 * c + k) = k ∧ Mp (810 + 12 * c + k) := by
  refine ⟨?_, ?_, ?_⟩
  · unfold cel
    repeat (first | rw [if_pos (by omega)] | rw [if_neg (by omega)])
    all_goals omega
  · unfold slt
    repeat (first | rw [if_pos (by omega)] | rw [if_neg (by omega)])
    all_goals omega
  · unfold Mp; omega
theorem lo_odone {c k : Int} (h0 : 0 ≤ c) (h1 : c < 8) (k0 : 0 ≤ k) (k1 : k < 12) : cel (906 + 12 * c + k) = 13 + 15 * c + 12 ∧ slt (906 + 12 * c + k) = k ∧ Mp (906 + 12 * c + k) := by
  refine ⟨?_, ?_, ?_⟩
  · unfold cel
    repeat (first | rw [if_pos (by omega)] | rw [if_neg (by omega)])
    all_goals omega
  · unfold slt
    repeat (first | rw [if_pos (by omega)] | rw [if_neg (by omega)])
    all_goals omega
  · unfold Mp; omega
theorem lo_owent {c k : Int} (h0 : 0 ≤ c) (h1 : c < 8) (k0 : 0 ≤ k) (k1 : k < 12) : cel (1002 + 12 * c + k) = 13 + 15 * c + 10 ∧ slt (1002 + 12 * c + k) = k ∧ Mp (1002 + 12 * c + k) := by
  refine ⟨?_, ?_, ?_⟩
  · unfold cel
    repeat (first | rw [if_pos (by omega)] | rw [if_neg (by omega)])
    all_goals omega
  · unfold slt
    repeat (first | rw [if_pos (by omega)] | rw [if_neg (by omega)])
    all_goals omega
  · unfold Mp; omega
theorem lo_kind {a : Int} (h0 : 0 ≤ a) (h1 : a < 14) : cel (396 + a) = 133 + a ∧ slt (396 + a) = 0 ∧ Mp (396 + a) := by
  refine ⟨?_, ?_, ?_⟩
  · unfold cel
    repeat (first | rw [if_pos (by omega)] | rw [if_neg (by omega)])
    all_goals omega
  · unfold slt
    repeat (first | rw [if_pos (by omega)] | rw [if_neg (by omega)])
    all_goals omega
  · unfold Mp; omega
theorem lo_acraft {a : Int} (h0 : 0 ≤ a) (h1 : a < 14) : cel (410 + a) = 133 + a ∧ slt (410 + a) = 1 ∧ Mp (410 + a) := by
  refine ⟨?_, ?_, ?_⟩
  · unfold cel
    repeat (first | rw [if_pos (by omega)] | rw [if_neg (by omega)])
    all_goals omega
  · unfold slt
    repeat (first | rw [if_pos (by omega)] | rw [if_neg (by omega)])
    all_goals omega
  · unfold Mp; omega
theorem lo_an {a : Int} (h0 : 0 ≤ a) (h1 : a < 14) : cel (424 + a) = 133 + a ∧ slt (424 + a) = 2 ∧ Mp (424 + a) := by
  refine ⟨?_, ?_, ?_⟩
  · unfold cel
    repeat (first | rw [if_pos (by omega)] | rw [if_neg (by omega)])
    all_goals omega
  · unfold slt
    repeat (first | rw [if_pos (by omega)] | rw [if_neg (by omega)])
    all_goals omega
  · unfold Mp; omega
theorem lo_afrom {a : Int} (h0 : 0 ≤ a) (h1 : a < 14) : cel (438 + a) = 133 + a ∧ slt (438 + a) = 3 ∧ Mp (438 + a) := by
  refine ⟨?_, ?_, ?_⟩
  · unfold cel
    repeat (first | rw [if_pos (by omega)] | rw [if_neg (by omega)])
    all_goals omega
  · unfold slt
    repeat (first | rw [if_pos (by omega)] | rw [if_neg (by omega)])
    all_goals omega
  · unfold Mp; omega
theorem lo_ato {a : Int} (h0 : 0 ≤ a) (h1 : a < 14) : cel (452 + a) = 133 + a ∧ slt (452 + a) = 4 ∧ Mp (452 + a) := by
  refine ⟨?_, ?_, ?_⟩
  · unfold cel
    repeat (first | rw [if_pos (by omega)] | rw [if_neg (by omega)])
    all_goals omega
  · unfold slt
    repeat (first | rw [if_pos (by omega)] | rw [if_neg (by omega)])
    all_goals omega
  · unfold Mp; omega
theorem lo_aworth {a : Int} (h0 : 0 ≤ a) (h1 : a < 14) : cel (466 + a) = 133 + a ∧ slt (466 + a) = 5 ∧ Mp (466 + a) := by
  refine ⟨?_, ?_, ?_⟩
  · unfold cel
    repeat (first | rw [if_pos (by omega)] | rw [if_neg (by omega)])
    all_goals omega
  · unfold slt
    repeat (first | rw [if_pos (by omega)] | rw [if_neg (by omega)])
    all_goals omega
  · unfold Mp; omega
theorem lo_astate {a : Int} (h0 : 0 ≤ a) (h1 : a < 14) : cel (480 + a) = 133 + a ∧ slt (480 + a) = 6 ∧ Mp (480 + a) := by
  refine ⟨?_, ?_, ?_⟩
  · unfold cel
    repeat (first | rw [if_pos (by omega)] | rw [if_neg (by omega)])
    all_goals omega
  · unfold slt
    repeat (first | rw [if_pos (by omega)] | rw [if_neg (by omega)])
    all_goals omega
  · unfold Mp; omega
theorem lo_adish {a : Int} (h0 : 0 ≤ a) (h1 : a < 14) : cel (494 + a) = 133 + a ∧ slt (494 + a) = 7 ∧ Mp (494 + a) := by
  refine ⟨?_, ?_, ?_⟩
  · unfold cel
    repeat (first | rw [if_pos (by omega)] | rw [if_neg (by omega)])
    all_goals omega
  · unfold slt
    repeat (first | rw [if_pos (by omega)] | rw [if_neg (by omega)])
    all_goals omega
  · unfold Mp; omega
theorem lo_abegin {a : Int} (h0 : 0 ≤ a) (h1 : a < 14) : cel (508 + a) = 133 + a ∧ slt (508 + a) = 8 ∧ Mp (508 + a) := by
  refine ⟨?_, ?_, ?_⟩
  · unfold cel
    repeat (first | rw [if_pos (by omega)] | rw [if_neg (by omega)])
    all_goals omega
  · unfold slt
    repeat (first | rw [if_pos (by omega)] | rw [if_neg (by omega)])
    all_goals omega
  · unfold Mp; omega
theorem lo_tto {c k : Int} (h0 : 0 ≤ c) (h1 : c < 8) (k0 : 0 ≤ k) (k1 : k < 8) : cel (1098 + 8 * c + k) = 13 + 15 * c + 14 ∧ slt (1098 + 8 * c + k) = k ∧ Mp (1098 + 8 * c + k) := by
  refine ⟨?_, ?_, ?_⟩
  · unfold cel
    repeat (first | rw [if_pos (by omega)] | rw [if_neg (by omega)])
    all_goals omega
  · unfold slt
    repeat (first | rw [if_pos (by omega)] | rw [if_neg (by omega)])
    all_goals omega
  · unfold Mp; omega
theorem lo_odds {j : Int} (h0 : 0 ≤ j) (h1 : j < 64) : cel (1226 + j) = 6 ∧ slt (1226 + j) = j ∧ Mp (1226 + j) := by
  refine ⟨?_, ?_, ?_⟩
  · unfold cel
    repeat (first | rw [if_pos (by omega)] | rw [if_neg (by omega)])
    all_goals omega
  · unfold slt
    repeat (first | rw [if_pos (by omega)] | rw [if_neg (by omega)])
    all_goals omega
  · unfold Mp; omega
theorem loc_inj {i j : Int} (hi : Mp i) (hj : Mp j) (e1 : cel i = cel j) (e2 : slt i = slt j) : i = j := by
  rw [← inv0_eq hi, ← inv0_eq hj, e1, e2]
/-- the cells of a world from w on bear G, where L holds -/
def RelL (h : Int → Int → Int) (w : Int) (G : Int → Int) (L : Int → Prop) : Prop := ∀ i, Mp i → L i → h (w + cel i) (slt i) = G i
theorem RelL.mono {h : Int → Int → Int} {w : Int} {G : Int → Int} {L L' : Int → Prop} (r : RelL h w G L) (hl : ∀ i, L' i → L i) : RelL h w G L' := fun i m l => r i m (hl i l)
/-- an entry is set on both sides: it is live then -/
theorem RelL.set {h : Int → Int → Int} {w : Int} {G : Int → Int} {L : Int → Prop} (r : RelL h w G L) {i v : Int} (hi : Mp i) : RelL (q_up h (w + cel i) (slt i) v) w (ud G i v) (fun j => L j ∨ j = i) := by
  intro j mj lj
  by_cases e : j = i
  · subst e; rw [q_up_self, ud_self]
  · rw [ud_ne e, q_up_ne]
    · exact r j mj (lj.resolve_right e)
    · by_cases e1 : w + cel j = w + cel i
      · right
        intro e2
        exact e (loc_inj mj hi (by omega) e2)
      · exact Or.inl e1
/-- the same, by the cell and the slot -/
theorem RelL.set' {h : Int → Int → Int} {w : Int} {G : Int → Int} {L : Int → Prop} (r : RelL h w G L) {i v k j : Int} (hl : cel i = k ∧ slt i = j ∧ Mp i) {a : Int} (ha : a = w + k) : RelL (q_up h a j v) w (ud G i v) (fun x => L x ∨ x = i) := by
  obtain ⟨e1, e2, m⟩ := hl
  subst e1 e2 ha
  exact r.set m
theorem cel_b {i : Int} (hi : Mp i) : 0 ≤ cel i ∧ cel i < 147 := by
  unfold Mp at hi
  unfold cel
  repeat' split
  all_goals omega
/-- what is written elsewhere -/
theorem RelL.frame {h h' : Int → Int → Int} {w : Int} {G : Int → Int} {L : Int → Prop} (r : RelL h w G L) (hf : ∀ k, w ≤ k → k < w + 147 → h' k = h k) : RelL h' w G L := by
  intro i m l
  have := cel_b m
  rw [hf _ (by omega) (by omega)]
  exact r i m l
theorem RelL.get {h : Int → Int → Int} {w : Int} {G : Int → Int} {L : Int → Prop} (r : RelL h w G L) {i k j : Int} (hl : cel i = k ∧ slt i = j ∧ Mp i) (l : L i) {a : Int} (ha : a = w + k) : h a j = G i := by
  obtain ⟨e1, e2, m⟩ := hl
  subst e1 e2 ha
  exact r i m l
/-- which entries of the reference's p the class bears too -/
def Live (G : Int → Int) (i : Int) : Prop :=
  (52 ≤ i → i < 76 → (i - 52) % 6 < G 1) ∧
  (76 ≤ i → i < 156 → (i - 76) % 8 < G 2) ∧
  (156 ≤ i → i < 180 → (i - 156) / 3 < G 2) ∧
  (180 ≤ i → i < 204 → (i - 180) / 3 < G 2) ∧
  (204 ≤ i → i < 300 → (i - 204) / 12 < G 2 ∧ (i - 204) % 12 < G (108 + (i - 204) / 12)) ∧
  (300 ≤ i → i < 396 → (i - 300) / 12 < G 2 ∧ (i - 300) % 12 < G (108 + (i - 300) / 12)) ∧
  (396 ≤ i → i < 522 → (i - 396) % 14 < G 3) ∧
  (522 ≤ i → i < 1098 → ((i - 522) / 12) % 8 < G 2 ∧ (i - 522) % 12 < G (148 + ((i - 522) / 12) % 8)) ∧
  (1098 ≤ i → i < 1162 → (i - 1098) / 8 < G 2)
