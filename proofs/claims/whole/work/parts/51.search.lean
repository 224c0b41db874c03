/-! the search for the best row, as a pure recursion -/
def fldN {β : Type} (g : Int → β → β) : Nat → β → β
  | 0, B => B
  | n + 1, B => g n (fldN g n B)
def sr (nd : Nat) (f : (Int → Int) → Int → Int → Int) (t : Int → Int → Int) (W : Int → Int) : Nat → Int → Int → Int → (Int → Int) → (Int → Int) → (Int → Int) → Int × Int × (Int → Int) × (Int → Int) → Int × Int × (Int → Int) × (Int → Int)
  | 0, _, w, u, _, on, fr, B => if B.1 < w ∨ (w = B.1 ∧ u < B.2.1) then (w, u, on, fr) else B
  | j + 1, k, w, u, F, on, fr, B => sr nd f t W j (k + 1) w u F (ud on k (-1)) (ud fr k (-1)) (fldN (fun d B => if f F k d < 0 then B else sr nd f t W j (k + 1) (w + W k) (u + 1) (ud F d (f F k d + t k d)) (ud on k d) (ud fr k (f F k d)) B) nd B)
/-- what the loop over dishes does at place k -/
def srd (nd : Nat) (f : (Int → Int) → Int → Int → Int) (t : Int → Int → Int) (W : Int → Int) (j : Nat) (k w u : Int) (F on fr : Int → Int) (d : Int) (B : Int × Int × (Int → Int) × (Int → Int)) : Int × Int × (Int → Int) × (Int → Int) := if f F k d < 0 then B else sr nd f t W j (k + 1) (w + W k) (u + 1) (ud F d (f F k d + t k d)) (ud on k d) (ud fr k (f F k d)) B
theorem sr_succ (nd : Nat) (f : (Int → Int) → Int → Int → Int) (t : Int → Int → Int) (W : Int → Int) (j : Nat) (k w u : Int) (F on fr : Int → Int) (B : Int × Int × (Int → Int) × (Int → Int)) : sr nd f t W (j + 1) k w u F on fr B = sr nd f t W j (k + 1) w u F (ud on k (-1)) (ud fr k (-1)) (fldN (srd nd f t W j k w u F on fr) nd B) := rfl
theorem fldN_ind {β : Type} (g : Int → β → β) (R : β → Prop) (n : Nat) (B : β) (h0 : R B) (hs : ∀ d B, 0 ≤ d → d < (n : Int) → R B → R (g d B)) : R (fldN g n B) := by
  induction n with
  | zero => exact h0
  | succ n ih => exact hs n _ (by omega) (by omega) (ih (fun d B d0 d1 hB => hs d B d0 (by omega) hB))
theorem fldN_congr {β : Type} (g g' : Int → β → β) (n : Nat) (B : β) (hs : ∀ d B, 0 ≤ d → d < (n : Int) → g d B = g' d B) : fldN g n B = fldN g' n B := by
  induction n with
  | zero => rfl
  | succ n ih =>
    show g n (fldN g n B) = g' n (fldN g' n B)
    rw [ih (fun d B d0 d1 => hs d B d0 (by omega)), hs n _ (by omega) (by omega)]
theorem fldN_succ {β : Type} (g : Int → β → β) {d : Int} (d0 : 0 ≤ d) (B : β) : fldN g (d + 1).toNat B = g d (fldN g d.toNat B) := by
  have ei : (d.toNat : Int) = d := Int.toNat_of_nonneg d0
  have es : (d + 1).toNat = d.toNat + 1 := by omega
  rw [es]
  show g (d.toNat : Int) (fldN g d.toNat B) = _
  rw [ei]
theorem sr_up (nd : Nat) (f : (Int → Int) → Int → Int → Int) (t : Int → Int → Int) (W : Int → Int) : ∀ j k w u F on fr B, B.1 ≤ (sr nd f t W j k w u F on fr B).1 := by
  intro j
  induction j with
  | zero =>
    intro k w u F on fr B
    unfold sr
    split
    · rename_i z
      show B.1 ≤ w
      omega
    · exact Int.le_refl _
  | succ j ih =>
    intro k w u F on fr B
    rw [sr_succ]
    refine Int.le_trans ?_ (ih _ _ _ _ _ _ _)
    refine fldN_ind _ (fun B' => B.1 ≤ B'.1) nd B (Int.le_refl _) ?_
    intro d B' _ _ hB
    unfold srd
    split
    · exact hB
    · exact Int.le_trans hB (ih _ _ _ _ _ _ _)
theorem sr_ge (nd : Nat) (f : (Int → Int) → Int → Int → Int) (t : Int → Int → Int) (W : Int → Int) : ∀ j k w u F on fr B, w ≤ (sr nd f t W j k w u F on fr B).1 := by
  intro j
  induction j with
  | zero =>
    intro k w u F on fr B
    unfold sr
    split
    · exact Int.le_refl _
    · rename_i z
      omega
  | succ j ih =>
    intro k w u F on fr B
    rw [sr_succ]
    exact ih _ _ _ _ _ _ _
/-- what holds of every row that is tried holds of the best -/
theorem sr_ind (nd : Nat) (f : (Int → Int) → Int → Int → Int) (t : Int → Int → Int) (W : Int → Int) (m : Int) (Q : Int → Int → Int → (Int → Int) → (Int → Int) → (Int → Int) → Prop) (R : Int × Int × (Int → Int) × (Int → Int) → Prop)
    (hl : ∀ w u F on fr, Q m w u F on fr → R (w, u, on, fr))
    (hd : ∀ k w u F on fr d, 0 ≤ k → k < m → 0 ≤ d → d < (nd : Int) → Q k w u F on fr → 0 ≤ f F k d → Q (k + 1) (w + W k) (u + 1) (ud F d (f F k d + t k d)) (ud on k d) (ud fr k (f F k d)))
    (hn : ∀ k w u F on fr, 0 ≤ k → k < m → Q k w u F on fr → Q (k + 1) w u F (ud on k (-1)) (ud fr k (-1))) :
    ∀ j k w u F on fr B, 0 ≤ k → k + (j : Nat) = m → Q k w u F on fr → R B → R (sr nd f t W j k w u F on fr B) := by
  intro j
  induction j with
  | zero =>
    intro k w u F on fr B k0 km q r
    have e : k = m := by omega
    subst e
    unfold sr
    split
    · exact hl _ _ _ _ _ q
    · exact r
  | succ j ih =>
    intro k w u F on fr B k0 km q r
    rw [sr_succ]
    refine ih _ _ _ _ _ _ _ (by omega) (by omega) (hn _ _ _ _ _ _ k0 (by omega) q) ?_
    refine fldN_ind _ R nd B r ?_
    intro d B' d0 d1 hB
    unfold srd
    split
    · exact hB
    · rename_i z
      exact ih _ _ _ _ _ _ _ (by omega) (by omega) (hd _ _ _ _ _ _ _ k0 (by omega) d0 d1 q (by omega)) hB
/-- only the free hours of the dishes that there are count -/
theorem sr_congr (nd : Nat) (f f' : (Int → Int) → Int → Int → Int) (t t' : Int → Int → Int) (W W' : Int → Int) (m : Int)
    (hf : ∀ F F' k d, 0 ≤ k → k < m → 0 ≤ d → d < (nd : Int) → F d = F' d → f F k d = f' F' k d)
    (ht : ∀ k d, 0 ≤ k → k < m → 0 ≤ d → d < (nd : Int) → t k d = t' k d)
    (hW : ∀ k, 0 ≤ k → k < m → W k = W' k) :
    ∀ j k w u F F' on fr B, 0 ≤ k → k + (j : Nat) = m → (∀ d, 0 ≤ d → d < (nd : Int) → F d = F' d) → sr nd f t W j k w u F on fr B = sr nd f' t' W' j k w u F' on fr B := by
  intro j
  induction j with
  | zero => intro k w u F F' on fr B k0 km hF; rfl
  | succ j ih =>
    intro k w u F F' on fr B k0 km hF
    rw [sr_succ, sr_succ, fldN_congr (srd nd f t W j k w u F on fr) (srd nd f' t' W' j k w u F' on fr)]
    · exact ih _ _ _ _ _ _ _ _ (by omega) (by omega) hF
    · intro d B d0 d1
      unfold srd
      rw [hf F F' k d k0 (by omega) d0 d1 (hF d d0 d1), ht k d k0 (by omega) d0 d1, hW k k0 (by omega)]
      split
      · rfl
      · refine ih _ _ _ _ _ _ _ _ (by omega) (by omega) ?_
        intro x x0 x1
        unfold ud
        split
        · rfl
        · exact hF x x0 x1
/-- where the rest can't make it better, the search leaves the best as it is -/
theorem sr_skip (nd : Nat) (f : (Int → Int) → Int → Int → Int) (t : Int → Int → Int) (W : Int → Int) (m : Int) (F0 : Int → Int) (rw_ rh : Int → Int)
    (hf : ∀ F k d, 0 ≤ k → k < m → 0 ≤ d → d < (nd : Int) → (∀ x, 0 ≤ x → x < (nd : Int) → F0 x ≤ F x) → 0 ≤ f F k d → 0 ≤ f F0 k d ∧ F d ≤ f F k d + t k d)
    (hW : ∀ k, 0 ≤ k → k < m → 0 ≤ W k)
    (h0 : rw_ m = 0 ∧ rh m = 0)
    (hr : ∀ k, 0 ≤ k → k < m → (rw_ k = rw_ (k + 1) + W k ∧ rh k = rh (k + 1) + 1 ∧ 0 < W k) ∨ (rw_ k = rw_ (k + 1) ∧ rh k = rh (k + 1) ∧ (W k = 0 ∨ ∀ d, 0 ≤ d → d < (nd : Int) → f F0 k d < 0))) :
    ∀ j k w u F on fr B, 0 ≤ k → k + (j : Nat) = m → (∀ x, 0 ≤ x → x < (nd : Int) → F0 x ≤ F x) → ¬ (B.1 < w + rw_ k ∨ (w + rw_ k = B.1 ∧ u + rh k < B.2.1)) → sr nd f t W j k w u F on fr B = B := by
  intro j
  induction j with
  | zero =>
    intro k w u F on fr B k0 km hF hn
    have e : k = m := by omega
    subst e
    unfold sr
    rw [if_neg (by omega)]
  | succ j ih =>
    intro k w u F on fr B k0 km hF hn
    have hk := hr k k0 (by omega)
    have hw := hW k k0 (by omega)
    rw [sr_succ]
    have e1 : fldN (srd nd f t W j k w u F on fr) nd B = B := by
      refine fldN_ind _ (fun B' => B' = B) nd B rfl ?_
      intro d B' d0 d1 hB
      rw [hB]
      unfold srd
      split
      · rfl
      · rename_i z
        obtain ⟨g1, g2⟩ := hf F k d k0 (by omega) d0 d1 hF (by omega)
        refine ih _ _ _ _ _ _ _ (by omega) (by omega) ?_ ?_
        · intro x x0 x1
          unfold ud
          split
          · rename_i e; rw [e]; have := hF d d0 d1; omega
          · exact hF x x0 x1
        · rcases hk with ⟨a1, a2, a3⟩ | ⟨a1, a2, a3⟩
          · omega
          · rcases a3 with a3 | a3
            · omega
            · have := a3 d d0 d1
              omega
    rw [e1]
    refine ih _ _ _ _ _ _ _ (by omega) (by omega) hF ?_
    rcases hk with ⟨a1, a2, a3⟩ | ⟨a1, a2, a3⟩ <;> omega
