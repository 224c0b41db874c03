/-! where faults and ends can be -/
theorem pr_bnd {b : Int → Int} {L a w lo hi : Int} (L1 : L ≤ 110) (a0 : 0 ≤ a) (a1 : a ≤ L) : ((pr b L a w lo hi).1 = 1 ∧ 0 ≤ (pr b L a w lo hi).2.2 ∧ (pr b L a w lo hi).2.2 ≤ L) ∨ (¬ (pr b L a w lo hi).1 = 1 ∧ 0 ≤ (pr b L a w lo hi).2.1 ∧ (pr b L a w lo hi).2.1 ≤ L) := by
  have n1 := nx_b (b := b) L1 a0 a1
  have n2 := nx_b (b := b) L1 (show 0 ≤ (nx b L a).1 by omega) n1.2.2
  unfold pr
  by_cases z1 : (nx b L a).2.2.1 = 1 ∧ (nx b L a).2.2.2 = w
  · rw [if_pos z1]
    by_cases z2 : (nx b L (nx b L a).1).2.2.1 = 2 ∧ lo ≤ (nx b L (nx b L a).1).2.2.2 ∧ (nx b L (nx b L a).1).2.2.2 ≤ hi
    · rw [if_pos z2]
      exact Or.inl ⟨rfl, by show 0 ≤ (nx b L (nx b L a).1).1; omega, n2.2.2⟩
    · rw [if_neg z2]
      exact Or.inr ⟨fun (e : (0 : Int) = 1) => absurd e (by decide), by show 0 ≤ (nx b L (nx b L a).1).2.1; omega, by show (nx b L (nx b L a).1).2.1 ≤ L; omega⟩
  · rw [if_neg z1]
    exact Or.inr ⟨fun (e : (0 : Int) = 1) => absurd e (by decide), by show 0 ≤ (nx b L a).2.1; omega, by show (nx b L a).2.1 ≤ L; omega⟩
def OKr (L : Int) (r : Int × Int × Int × (Int → Int)) : Prop := (r.1 = 1 ∧ 0 ≤ r.2.2.1 ∧ r.2.2.1 ≤ L) ∨ (¬ r.1 = 1 ∧ 0 ≤ r.2.1 ∧ r.2.1 ≤ L)
theorem OKr.x {L g : Int} (g0 : 0 ≤ g) (g1 : g ≤ L) : OKr L (rdX g) := Or.inr ⟨fun (e : (0 : Int) = 1) => absurd e (by decide), g0, g1⟩
theorem rdE_bnd {b : Int → Int} {L a k c n f t : Int} (L1 : L ≤ 110) (a0 : 0 ≤ a) (a1 : a ≤ L) : OKr L (rdE b L a k c n f t) := by
  unfold rdE
  by_cases z : (nx b L a).2.2.1 = 1 ∧ (nx b L a).2.2.2 = 11
  · rw [if_pos z]
    rcases pr_bnd (b := b) (w := 11) (lo := 0) (hi := 999) L1 a0 a1 with ⟨q, q1, q2⟩ | ⟨q, q1, q2⟩
    · rw [if_pos q]; exact Or.inl ⟨rfl, q1, q2⟩
    · rw [if_neg q]; exact OKr.x q1 q2
  · rw [if_neg z]; exact Or.inl ⟨rfl, a0, a1⟩
theorem rdD_bnd {b : Int → Int} {L a k c n f : Int} (L1 : L ≤ 110) (a0 : 0 ≤ a) (a1 : a ≤ L) : OKr L (rdD b L a k c n f) := by
  unfold rdD
  rcases pr_bnd (b := b) (w := 10) (lo := f + n) (hi := 9999) L1 a0 a1 with ⟨q, q1, q2⟩ | ⟨q, q1, q2⟩
  · rw [if_pos q]; exact rdE_bnd L1 q1 q2
  · rw [if_neg q]; exact OKr.x q1 q2
theorem rdC_bnd {b : Int → Int} {L a k c n : Int} (L1 : L ≤ 110) (a0 : 0 ≤ a) (a1 : a ≤ L) : OKr L (rdC b L a k c n) := by
  unfold rdC
  rcases pr_bnd (b := b) (w := 9) (lo := 0) (hi := 9999) L1 a0 a1 with ⟨q, q1, q2⟩ | ⟨q, q1, q2⟩
  · rw [if_pos q]; exact rdD_bnd L1 q1 q2
  · rw [if_neg q]; exact OKr.x q1 q2
theorem rdB_bnd {b : Int → Int} {L a k c : Int} (L1 : L ≤ 110) (a0 : 0 ≤ a) (a1 : a ≤ L) : OKr L (rdB b L a k c) := by
  unfold rdB
  rcases pr_bnd (b := b) (w := 8) (lo := 1) (hi := 9) L1 a0 a1 with ⟨q, q1, q2⟩ | ⟨q, q1, q2⟩
  · rw [if_pos q]; exact rdC_bnd L1 q1 q2
  · rw [if_neg q]; exact OKr.x q1 q2
theorem rd1_bnd {b : Int → Int} {L nc a : Int} (L1 : L ≤ 110) (a0 : 0 ≤ a) (a1 : a ≤ L) : OKr L (rd1 b L nc a) := by
  have n1 := nx_b (b := b) L1 a0 a1
  unfold rd1
  by_cases z : (nx b L a).2.2.1 = 1 ∧ (nx b L a).2.2.2 ≤ 6
  · rw [if_pos z]
    unfold rdA
    rcases pr_bnd (b := b) (w := 7) (lo := 0) (hi := nc - 1) L1 (show 0 ≤ (nx b L a).1 by omega) n1.2.2 with ⟨q, q1, q2⟩ | ⟨q, q1, q2⟩
    · rw [if_pos q]; exact rdB_bnd L1 q1 q2
    · rw [if_neg q]; exact OKr.x q1 q2
  · rw [if_neg z]; exact OKr.x (by omega) (by omega)
theorem rd1_ft {b : Int → Int} {L nc a : Int} (L1 : L ≤ 110) (a0 : 0 ≤ a) (a1 : a ≤ L) (z : ¬ (rd1 b L nc a).1 = 1) : 0 ≤ (rd1 b L nc a).2.1 ∧ (rd1 b L nc a).2.1 ≤ L := by
  rcases rd1_bnd (b := b) (nc := nc) L1 a0 a1 with ⟨q, -⟩ | ⟨-, q⟩
  · exact (z q).elim
  · exact q
theorem rd1_pos {b : Int → Int} {L nc a : Int} (L1 : L ≤ 110) (a0 : 0 ≤ a) (a1 : a ≤ L) (z : (rd1 b L nc a).1 = 1) : 0 ≤ (rd1 b L nc a).2.2.1 ∧ (rd1 b L nc a).2.2.1 ≤ L := by
  rcases rd1_bnd (b := b) (nc := nc) L1 a0 a1 with ⟨-, q⟩ | ⟨q, -⟩
  · exact q
  · exact (q z).elim
