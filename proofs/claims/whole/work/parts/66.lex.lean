/-! the pieces of a text -/
def bt (b : Int → Int) (L k : Int) : Int := if k < L then b k else -1
def pSp (b : Int → Int) (L : Int) : Int → Bool := fun x => decide (bt b L x = 32)
def pLt (b : Int → Int) (L : Int) : Int → Bool := fun x => decide (97 ≤ bt b L x ∧ bt b L x ≤ 122)
def pDg (b : Int → Int) (L : Int) : Int → Bool := fun x => decide (48 ≤ bt b L x ∧ bt b L x ≤ 57)
def rnE (p : Int → Bool) : Nat → Int → Int
  | 0, a => a
  | n + 1, a => if p a = true then rnE p n (a + 1) else a
/-- from a to e p holds, and not at e -/
def Rn (p : Int → Bool) (L a e : Int) : Prop := a ≤ e ∧ e ≤ L ∧ (∀ x, a ≤ x → x < e → p x = true) ∧ p e = false
theorem rnE_ok {p : Int → Bool} {L : Int} (hp : p L = false) : ∀ (n : Nat) (a : Int), a ≤ L → L - a ≤ n → Rn p L a (rnE p n a) := by
  intro n
  induction n with
  | zero =>
    intro a a1 a2
    have e : a = L := by omega
    subst e
    exact ⟨Int.le_refl _, Int.le_refl _, fun x x0 x1 => by have x1 : x < a := x1; omega, hp⟩
  | succ n ih =>
    intro a a1 a2
    unfold rnE
    by_cases z : p a = true
    · rw [if_pos z]
      have ne : a ≠ L := by intro e; rw [e, hp] at z; cases z
      obtain ⟨q1, q2, q3, q4⟩ := ih (a + 1) (by omega) (by omega)
      refine ⟨by omega, q2, fun x x0 x1 => ?_, q4⟩
      by_cases e : x = a
      · rw [e]; exact z
      · exact q3 x (by omega) x1
    · rw [if_neg z]
      exact ⟨Int.le_refl _, a1, fun x x0 x1 => by omega, by simpa using z⟩
theorem bt_L (b : Int → Int) (L : Int) : bt b L L = -1 := if_neg (by omega)
theorem pSp_L (b : Int → Int) (L : Int) : pSp b L L = false := by unfold pSp; rw [bt_L]; decide
theorem pLt_L (b : Int → Int) (L : Int) : pLt b L L = false := by unfold pLt; rw [bt_L]; decide
theorem pDg_L (b : Int → Int) (L : Int) : pDg b L L = false := by unfold pDg; rw [bt_L]; decide
/-! words -/
def lcW (b : Int → Int) (L g e k : Int) : Int := if k < e - g then bt b L (g + k) else 0
def mtW (b : Int → Int) (L g e v : Int) : Prop := e - g ≤ 6 ∧ wl (6 * v) = lcW b L g e 0 ∧ wl (6 * v + 1) = lcW b L g e 1 ∧ wl (6 * v + 2) = lcW b L g e 2 ∧ wl (6 * v + 3) = lcW b L g e 3 ∧ wl (6 * v + 4) = lcW b L g e 4 ∧ wl (6 * v + 5) = lcW b L g e 5
theorem mtW_get {b : Int → Int} {L g e v : Int} (m : mtW b L g e v) : ∀ k, 0 ≤ k → k < 6 → wl (6 * v + k) = lcW b L g e k := by
  obtain ⟨-, m0, m1, m2, m3, m4, m5⟩ := m
  intro k k0 k1
  have : k = 0 ∨ k = 1 ∨ k = 2 ∨ k = 3 ∨ k = 4 ∨ k = 5 := by omega
  rcases this with rfl | rfl | rfl | rfl | rfl | rfl
  · rw [Int.add_zero]; exact m0
  · exact m1
  · exact m2
  · exact m3
  · exact m4
  · exact m5
theorem mtW_of {b : Int → Int} {L g e v : Int} (h6 : e - g ≤ 6) (m : ∀ k, 0 ≤ k → k < 6 → wl (6 * v + k) = lcW b L g e k) : mtW b L g e v := by
  have m0 := m 0 (by decide) (by decide)
  rw [Int.add_zero] at m0
  exact ⟨h6, m0, m 1 (by decide) (by decide), m 2 (by decide) (by decide), m 3 (by decide) (by decide), m 4 (by decide) (by decide), m 5 (by decide) (by decide)⟩
def lnW (v : Int) : Int := ([5, 4, 4, 4, 3, 6, 5, 1, 1, 4, 2, 5] : List Int).getD v.toNat 0
def stW (v : Int) : Int := ([0, 6, 11, 16, 21, 25, 32, 38, 40, 42, 47, 50, 56] : List Int).getD v.toNat 0
theorem words_N : ∀ v : Nat, v < 12 → (stW (v + 1) = stW v + lnW v + 1 ∧ 1 ≤ lnW v ∧ lnW v ≤ 6 ∧ 0 ≤ stW v ∧ q_tc (stW v + lnW v) = 44) ∧ ∀ k : Nat, k < 6 → ((k : Int) < lnW v → q_tc (stW v + k) = wl (6 * v + k) ∧ q_tc (stW v + k) ≠ 44 ∧ wl (6 * v + k) ≠ 0) ∧ (lnW v ≤ (k : Int) → wl (6 * v + k) = 0) := by decide
theorem words_ne : ∀ v : Nat, v < 12 → ∀ u : Nat, u < 12 → (∀ k : Nat, k < 6 → wl (6 * v + k) = wl (6 * u + k)) → v = u := by decide
theorem words {v : Int} (v0 : 0 ≤ v) (v1 : v < 12) : (stW (v + 1) = stW v + lnW v + 1 ∧ 1 ≤ lnW v ∧ lnW v ≤ 6 ∧ 0 ≤ stW v ∧ q_tc (stW v + lnW v) = 44) ∧ ∀ k, 0 ≤ k → k < 6 → (k < lnW v → q_tc (stW v + k) = wl (6 * v + k) ∧ q_tc (stW v + k) ≠ 44 ∧ wl (6 * v + k) ≠ 0) ∧ (lnW v ≤ k → wl (6 * v + k) = 0) := by
  have h := words_N v.toNat (by omega)
  rw [Int.toNat_of_nonneg v0] at h
  refine ⟨h.1, fun k k0 k1 => ?_⟩
  have h2 := h.2 k.toNat (by omega)
  rw [Int.toNat_of_nonneg k0] at h2
  exact h2
theorem mtW_one {b : Int → Int} {L g e v u : Int} (v0 : 0 ≤ v) (v1 : v < 12) (u0 : 0 ≤ u) (u1 : u < 12) (mv : mtW b L g e v) (mu : mtW b L g e u) : v = u := by
  have h := words_ne v.toNat (by omega) u.toNat (by omega) (fun k hk => by
    have a := mtW_get mv k (by omega) (by omega)
    have c := mtW_get mu k (by omega) (by omega)
    rw [Int.toNat_of_nonneg v0, Int.toNat_of_nonneg u0, a, c])
  omega
/-- the word of the letters from g to e: -1 if it is none -/
def WD (b : Int → Int) (L g e v : Int) : Prop := (0 ≤ v ∧ v < 12 ∧ mtW b L g e v) ∨ (v = -1 ∧ ∀ u, 0 ≤ u → u < 12 → ¬ mtW b L g e u)
def wdN (b : Int → Int) (L g e : Int) : Nat → Int
  | 0 => -1
  | n + 1 => if e - g ≤ 6 ∧ wl (6 * n) = lcW b L g e 0 ∧ wl (6 * n + 1) = lcW b L g e 1 ∧ wl (6 * n + 2) = lcW b L g e 2 ∧ wl (6 * n + 3) = lcW b L g e 3 ∧ wl (6 * n + 4) = lcW b L g e 4 ∧ wl (6 * n + 5) = lcW b L g e 5 then n else wdN b L g e n
theorem wdN_ok (b : Int → Int) (L g e : Int) : ∀ n : Nat, n ≤ 12 → (0 ≤ wdN b L g e n ∧ wdN b L g e n < 12 ∧ mtW b L g e (wdN b L g e n)) ∨ (wdN b L g e n = -1 ∧ ∀ u, 0 ≤ u → u < (n : Int) → ¬ mtW b L g e u) := by
  intro n
  induction n with
  | zero => intro _; exact Or.inr ⟨rfl, fun u u0 u1 => by omega⟩
  | succ n ih =>
    intro hn
    unfold wdN
    by_cases z : e - g ≤ 6 ∧ wl (6 * n) = lcW b L g e 0 ∧ wl (6 * n + 1) = lcW b L g e 1 ∧ wl (6 * n + 2) = lcW b L g e 2 ∧ wl (6 * n + 3) = lcW b L g e 3 ∧ wl (6 * n + 4) = lcW b L g e 4 ∧ wl (6 * n + 5) = lcW b L g e 5
    · rw [if_pos z]
      exact Or.inl ⟨by omega, by omega, z⟩
    · rw [if_neg z]
      rcases ih (by omega) with q | ⟨q1, q2⟩
      · exact Or.inl q
      · refine Or.inr ⟨q1, fun u u0 u1 => ?_⟩
        by_cases eu : u = n
        · rw [eu]; exact z
        · exact q2 u u0 (by omega)
theorem wdN_WD (b : Int → Int) (L g e : Int) : WD b L g e (wdN b L g e 12) := wdN_ok b L g e 12 (by decide)
/-! numbers -/
def nmN (b : Int → Int) (g : Int) : Nat → Int
  | 0 => 0
  | n + 1 => 10 * nmN b g n + b (g + n) - 48
theorem nmN_succ {b : Int → Int} {g k : Int} (k0 : 0 ≤ k) : nmN b g (k + 1).toNat = 10 * nmN b g k.toNat + b (g + k) - 48 := by
  have ei : (k.toNat : Int) = k := Int.toNat_of_nonneg k0
  have es : (k + 1).toNat = k.toNat + 1 := by omega
  rw [es]
  show 10 * nmN b g k.toNat + b (g + (k.toNat : Int)) - 48 = _
  rw [ei]
/-- the piece from a on: where it ends, where it begins, of what sort it is (0 end, 1 word, 2 number, 3 semicolon, 4 nothing), its word or number -/
def nx (b : Int → Int) (L a : Int) : Int × Int × Int × Int :=
  if rnE (pSp b L) 110 a = L then (L, L, 0, 0)
  else if pLt b L (rnE (pSp b L) 110 a) = true then (rnE (pLt b L) 110 (rnE (pSp b L) 110 a), rnE (pSp b L) 110 a, if wdN b L (rnE (pSp b L) 110 a) (rnE (pLt b L) 110 (rnE (pSp b L) 110 a)) 12 < 0 then 4 else 1, wdN b L (rnE (pSp b L) 110 a) (rnE (pLt b L) 110 (rnE (pSp b L) 110 a)) 12)
  else if pDg b L (rnE (pSp b L) 110 a) = true then (rnE (pDg b L) 110 (rnE (pSp b L) 110 a), rnE (pSp b L) 110 a, if 4 < rnE (pDg b L) 110 (rnE (pSp b L) 110 a) - rnE (pSp b L) 110 a then 4 else 2, nmN b (rnE (pSp b L) 110 a) (rnE (pDg b L) 110 (rnE (pSp b L) 110 a) - rnE (pSp b L) 110 a).toNat)
  else (rnE (pSp b L) 110 a + 1, rnE (pSp b L) 110 a, if b (rnE (pSp b L) 110 a) = 59 then 3 else 4, 0)
/-- the same, in cases -/
def NX (b : Int → Int) (L a e g s v : Int) : Prop := Rn (pSp b L) L a g ∧ ((g = L ∧ e = L ∧ s = 0 ∧ v = 0) ∨ (g < L ∧ ((pLt b L g = true ∧ Rn (pLt b L) L g e ∧ WD b L g e v ∧ s = if v < 0 then 4 else 1) ∨ (pLt b L g = false ∧ pDg b L g = true ∧ Rn (pDg b L) L g e ∧ v = nmN b g (e - g).toNat ∧ s = if 4 < e - g then 4 else 2) ∨ (pLt b L g = false ∧ pDg b L g = false ∧ e = g + 1 ∧ v = 0 ∧ s = if b g = 59 then 3 else 4))))
theorem nx_ok {b : Int → Int} {L a : Int} (L1 : L ≤ 110) (a0 : 0 ≤ a) (a1 : a ≤ L) : NX b L a (nx b L a).1 (nx b L a).2.1 (nx b L a).2.2.1 (nx b L a).2.2.2 := by
  have h1 := rnE_ok (pSp_L b L) 110 a a1 (by omega)
  unfold nx
  obtain ⟨g, eg⟩ : ∃ g, rnE (pSp b L) 110 a = g := ⟨_, rfl⟩
  rw [eg] at h1 ⊢
  by_cases z1 : g = L
  · rw [if_pos z1]
    subst z1
    exact ⟨h1, Or.inl ⟨rfl, rfl, rfl, rfl⟩⟩
  · rw [if_neg z1]
    have gl : g < L := by have := h1.2.1; omega
    have ga := h1.1
    by_cases z2 : pLt b L g = true
    · rw [if_pos z2]
      exact ⟨h1, Or.inr ⟨gl, Or.inl ⟨z2, rnE_ok (pLt_L b L) 110 g (by omega) (by omega), wdN_WD _ _ _ _, rfl⟩⟩⟩
    · rw [if_neg z2]
      have z2 : pLt b L g = false := by simpa using z2
      by_cases z3 : pDg b L g = true
      · rw [if_pos z3]
        exact ⟨h1, Or.inr ⟨gl, Or.inr (Or.inl ⟨z2, z3, rnE_ok (pDg_L b L) 110 g (by omega) (by omega), rfl, rfl⟩)⟩⟩
      · rw [if_neg z3]
        have z3 : pDg b L g = false := by simpa using z3
        exact ⟨h1, Or.inr ⟨gl, Or.inr (Or.inr ⟨z2, z3, rfl, rfl, rfl⟩)⟩⟩
theorem NX_b {b : Int → Int} {L a e g s v : Int} (n : NX b L a e g s v) : a ≤ g ∧ g ≤ e ∧ e ≤ L := by
  obtain ⟨⟨r1, r2, -⟩, h⟩ := n
  rcases h with ⟨h1, h2, -⟩ | ⟨gl, ⟨-, ⟨q1, q2, -⟩, -⟩ | ⟨-, -, ⟨q1, q2, -⟩, -⟩ | ⟨-, -, e1, -⟩⟩ <;> omega
theorem nmN_b {b : Int → Int} {L g e : Int} (r : Rn (pDg b L) L g e) : ∀ n : Nat, g + n ≤ e → n ≤ 4 → 0 ≤ nmN b g n ∧ nmN b g n ≤ 9999 ∧ (n ≤ 3 → nmN b g n ≤ 999) ∧ (n ≤ 2 → nmN b g n ≤ 99) ∧ (n ≤ 1 → nmN b g n ≤ 9) ∧ (n = 0 → nmN b g n = 0) := by
  intro n
  induction n with
  | zero => intro _ _; show 0 ≤ (0 : Int) ∧ (0 : Int) ≤ 9999 ∧ _; simp [nmN]
  | succ n ih =>
    intro h1 h2
    have i := ih (by omega) (by omega)
    have d := r.2.2.1 (g + n) (by omega) (by omega)
    have r2 := r.2.1
    unfold pDg bt at d
    rw [if_pos (by omega)] at d
    have d : 48 ≤ b (g + n) ∧ b (g + n) ≤ 57 := by simpa using d
    obtain ⟨i1, i2, i3, i4, i5, i6⟩ := i
    show 0 ≤ 10 * nmN b g n + b (g + n) - 48 ∧ 10 * nmN b g n + b (g + n) - 48 ≤ 9999 ∧ (n + 1 ≤ 3 → 10 * nmN b g n + b (g + n) - 48 ≤ 999) ∧ (n + 1 ≤ 2 → 10 * nmN b g n + b (g + n) - 48 ≤ 99) ∧ (n + 1 ≤ 1 → 10 * nmN b g n + b (g + n) - 48 ≤ 9) ∧ (n + 1 = 0 → 10 * nmN b g n + b (g + n) - 48 = 0)
    refine ⟨by omega, ?_, ?_, ?_, ?_, by omega⟩
    · have := i3 (by omega); omega
    · intro q; have := i4 (by omega); omega
    · intro q; have := i5 (by omega); omega
    · intro q; have := i6 (by omega); omega
