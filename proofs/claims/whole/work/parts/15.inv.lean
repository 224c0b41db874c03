/-! loops -/
theorem lpw {α : Type} (P : α → q_R) (I : α → Prop) (m : α → Nat) (Q : q_R → Prop) (step : ∀ x, I x → (∃ y, P x = P y ∧ I y ∧ m y < m x) ∨ Q (P x)) : ∀ x, I x → Q (P x) := by
  have key : ∀ n x, m x ≤ n → I x → Q (P x) := by
    intro n
    induction n with
    | zero =>
      intro x hm hx
      rcases step x hx with ⟨y, _, _, hy⟩ | h
      · omega
      · exact h
    | succ n ih =>
      intro x hm hx
      rcases step x hx with ⟨y, e, iy, hy⟩ | h
      · rw [e]; exact ih y (by omega) iy
      · exact h
  exact fun x hx => key (m x) x (Nat.le_refl _) hx
/-- a loop that counts up to n -/
theorem lp {α : Type} (P : Int → α → q_R) (I : Int → α → Prop) (Q : q_R → Prop) (n : Int) (step : ∀ i x, 0 ≤ i → i < n → I i x → (∃ y, P i x = P (i + 1) y ∧ I (i + 1) y) ∨ Q (P i x)) (done : ∀ x, I n x → Q (P n x)) : ∀ i x, 0 ≤ i → i ≤ n → I i x → Q (P i x) := by
  have key := lpw (fun z : Int × α => P z.1 z.2) (fun z => 0 ≤ z.1 ∧ z.1 ≤ n ∧ I z.1 z.2) (fun z => (n - z.1).toNat) Q (by
    intro z hz
    obtain ⟨i, x⟩ := z
    obtain ⟨h0, h1, h2⟩ := hz
    by_cases e : i < n
    · rcases step i x h0 e h2 with ⟨y, e1, i1⟩ | h
      · exact Or.inl ⟨(i + 1, y), e1, ⟨by show 0 ≤ i + 1; omega, by show i + 1 ≤ n; omega, i1⟩, by show (n - (i + 1)).toNat < (n - i).toNat; omega⟩
      · exact Or.inr h
    · have e2 : i = n := by have : i ≤ n := h1; omega
      subst e2
      exact Or.inr (done x h2))
  exact fun i x h0 h1 h2 => key (i, x) ⟨h0, h1, h2⟩
/-- a sum over 0 .. n - 1 -/
def smN (f : Int → Int) : Nat → Int
  | 0 => 0
  | n + 1 => smN f n + f n
def sm (f : Int → Int) (n : Int) : Int := smN f n.toNat
theorem sm_zero (f : Int → Int) : sm f 0 = 0 := rfl
theorem sm_succ {f : Int → Int} {i : Int} (h : 0 ≤ i) : sm f (i + 1) = sm f i + f i := by
  unfold sm
  have e : (i + 1).toNat = i.toNat + 1 := by omega
  rw [e]
  show smN f i.toNat + f (i.toNat : Int) = _
  rw [Int.toNat_of_nonneg h]
theorem smN_congr {f g : Int → Int} (n : Nat) (h : ∀ i : Nat, i < n → f i = g i) : smN f n = smN g n := by
  induction n with
  | zero => rfl
  | succ n ih =>
    show smN f n + f n = smN g n + g n
    rw [ih (fun i hi => h i (by omega)), h n (by omega)]
theorem sm_congr {f g : Int → Int} {n : Int} (h : ∀ i, 0 ≤ i → i < n → f i = g i) : sm f n = sm g n := smN_congr _ (fun i hi => h i (by omega) (by omega))
theorem smN_bnd {f : Int → Int} {a b : Int} (n : Nat) (h : ∀ i : Nat, i < n → a ≤ f i ∧ f i ≤ b) : a * n ≤ smN f n ∧ smN f n ≤ b * n := by
  induction n with
  | zero => show a * 0 ≤ 0 ∧ 0 ≤ b * 0; omega
  | succ n ih =>
    have h1 := ih (fun i hi => h i (by omega))
    have h2 := h n (by omega)
    show a * ((n + 1 : Nat) : Int) ≤ smN f n + f n ∧ smN f n + f n ≤ b * ((n + 1 : Nat) : Int)
    have e1 : a * ((n + 1 : Nat) : Int) = a * n + a := by rw [Int.natCast_add]; show a * ((n : Int) + 1) = _; rw [Int.mul_add, Int.mul_one]
    have e2 : b * ((n + 1 : Nat) : Int) = b * n + b := by rw [Int.natCast_add]; show b * ((n : Int) + 1) = _; rw [Int.mul_add, Int.mul_one]
    omega
theorem sm_bnd {f : Int → Int} {a b n : Int} (h0 : 0 ≤ n) (h : ∀ i, 0 ≤ i → i < n → a ≤ f i ∧ f i ≤ b) : a * n ≤ sm f n ∧ sm f n ≤ b * n := by
  have := smN_bnd (f := f) (a := a) (b := b) n.toNat (fun i hi => h i (by omega) (by omega))
  rw [Int.toNat_of_nonneg h0] at this
  exact this
/-! pointers -/
theorem Ptr.w4 {h : Int → Int → Int} (hp : Ptr h) {w : Int} (hw : isW w) : h w 4 = w + 1 := by
  have := hp w 4 _ (VP_world hw (by decide) (by decide)); omega
theorem Ptr.w5 {h : Int → Int → Int} (hp : Ptr h) {w : Int} (hw : isW w) : h w 5 = w + 2 := by
  have := hp w 5 _ (VP_world hw (by decide) (by decide)); omega
theorem Ptr.w6 {h : Int → Int → Int} (hp : Ptr h) {w : Int} (hw : isW w) : h w 6 = w + 3 := by
  have := hp w 6 _ (VP_world hw (by decide) (by decide)); omega
theorem Ptr.w7 {h : Int → Int → Int} (hp : Ptr h) {w : Int} (hw : isW w) : h w 7 = w + 4 := by
  have := hp w 7 _ (VP_world hw (by decide) (by decide)); omega
theorem Ptr.w8 {h : Int → Int → Int} (hp : Ptr h) {w : Int} (hw : isW w) : h w 8 = w + 5 := by
  have := hp w 8 _ (VP_world hw (by decide) (by decide)); omega
theorem Ptr.dish {h : Int → Int → Int} (hp : Ptr h) {w : Int} (hw : isW w) : ∀ d, 0 ≤ d → d < 6 → h (w + 2) d = w + 7 + d := fun d h0 h1 => hp _ _ _ (VP_dish hw h0 h1)
theorem Ptr.craft {h : Int → Int → Int} (hp : Ptr h) {w : Int} (hw : isW w) : ∀ c, 0 ≤ c → c < 8 → h (w + 3) c = w + 13 + 15 * c := fun d h0 h1 => hp _ _ _ (VP_craft hw h0 h1)
theorem Ptr.ask {h : Int → Int → Int} (hp : Ptr h) {w : Int} (hw : isW w) : ∀ a, 0 ≤ a → a < 14 → h (w + 4) a = w + 133 + a := fun d h0 h1 => hp _ _ _ (VP_ask hw h0 h1)
theorem Ptr.odds {h : Int → Int → Int} (hp : Ptr h) {w : Int} (hw : isW w) : h (w + 5) 0 = w + 6 := by
  rcases hw with rfl | rfl | rfl
  · exact hp 6 0 7 (by decide)
  · exact hp 153 0 154 (by decide)
  · exact hp 300 0 301 (by decide)
theorem Ptr.upFrom {h : Int → Int → Int} (hp : Ptr h) {w : Int} (hw : isW w) : ∀ c, 0 ≤ c → c < 8 → h (w + 13 + 15 * c) 3 = w + 13 + 15 * c + 1 := by
  intro c h0 h1
  have e := VP_c (j := 3) (r := 0) hw h0 h1 (by decide) (by decide)
  have e2 := hp _ _ _ (e.trans (show VPc (w + 13 + 15 * c + 0) 0 3 = some (w + 13 + 15 * c + 0 + 1) from by rfl))
  rw [Int.add_zero] at e2
  exact e2.trans (by omega)
theorem Ptr.upFor {h : Int → Int → Int} (hp : Ptr h) {w : Int} (hw : isW w) : ∀ c, 0 ≤ c → c < 8 → h (w + 13 + 15 * c) 4 = w + 13 + 15 * c + 2 := by
  intro c h0 h1
  have e := VP_c (j := 4) (r := 0) hw h0 h1 (by decide) (by decide)
  have e2 := hp _ _ _ (e.trans (show VPc (w + 13 + 15 * c + 0) 0 4 = some (w + 13 + 15 * c + 0 + 2) from by rfl))
  rw [Int.add_zero] at e2
  exact e2.trans (by omega)
theorem Ptr.blocks {h : Int → Int → Int} (hp : Ptr h) {w : Int} (hw : isW w) : ∀ c, 0 ≤ c → c < 8 → h (w + 13 + 15 * c) 5 = w + 13 + 15 * c + 3 := by
  intro c h0 h1
  have e := VP_c (j := 5) (r := 0) hw h0 h1 (by decide) (by decide)
  have e2 := hp _ _ _ (e.trans (show VPc (w + 13 + 15 * c + 0) 0 5 = some (w + 13 + 15 * c + 0 + 3) from by rfl))
  rw [Int.add_zero] at e2
  exact e2.trans (by omega)
theorem Ptr.orders {h : Int → Int → Int} (hp : Ptr h) {w : Int} (hw : isW w) : ∀ c, 0 ≤ c → c < 8 → h (w + 13 + 15 * c) 6 = w + 13 + 15 * c + 6 := by
  intro c h0 h1
  have e := VP_c (j := 6) (r := 0) hw h0 h1 (by decide) (by decide)
  have e2 := hp _ _ _ (e.trans (show VPc (w + 13 + 15 * c + 0) 0 6 = some (w + 13 + 15 * c + 0 + 6) from by rfl))
  rw [Int.add_zero] at e2
  exact e2.trans (by omega)
theorem Ptr.quiet {h : Int → Int → Int} (hp : Ptr h) {w : Int} (hw : isW w) : ∀ c, 0 ≤ c → c < 8 → h (w + 13 + 15 * c) 7 = w + 13 + 15 * c + 13 := by
  intro c h0 h1
  have e := VP_c (j := 7) (r := 0) hw h0 h1 (by decide) (by decide)
  have e2 := hp _ _ _ (e.trans (show VPc (w + 13 + 15 * c + 0) 0 7 = some (w + 13 + 15 * c + 0 + 13) from by rfl))
  rw [Int.add_zero] at e2
  exact e2.trans (by omega)
theorem Ptr.bnum {h : Int → Int → Int} (hp : Ptr h) {w : Int} (hw : isW w) : ∀ c, 0 ≤ c → c < 8 → h (w + 13 + 15 * c + 3) 6 = w + 13 + 15 * c + 4 := by
  intro c h0 h1
  have e := VP_c (j := 6) (r := 3) hw h0 h1 (by decide) (by decide)
  have e2 := hp _ _ _ (e.trans (show VPc (w + 13 + 15 * c + 3) 3 6 = some (w + 13 + 15 * c + 3 + 1) from by rfl))
  skip
  exact e2.trans (by omega)
theorem Ptr.bsent {h : Int → Int → Int} (hp : Ptr h) {w : Int} (hw : isW w) : ∀ c, 0 ≤ c → c < 8 → h (w + 13 + 15 * c + 3) 7 = w + 13 + 15 * c + 5 := by
  intro c h0 h1
  have e := VP_c (j := 7) (r := 3) hw h0 h1 (by decide) (by decide)
  have e2 := hp _ _ _ (e.trans (show VPc (w + 13 + 15 * c + 3) 3 7 = some (w + 13 + 15 * c + 3 + 2) from by rfl))
  skip
  exact e2.trans (by omega)
theorem Ptr.ord1 {h : Int → Int → Int} (hp : Ptr h) {w : Int} (hw : isW w) : ∀ c, 0 ≤ c → c < 8 → h (w + 13 + 15 * c + 6) 1 = w + 13 + 15 * c + 7 := by
  intro c h0 h1
  have e := VP_c (j := 1) (r := 6) hw h0 h1 (by decide) (by decide)
  have e2 := hp _ _ _ (e.trans (show VPc (w + 13 + 15 * c + 6) 6 1 = some (w + 13 + 15 * c + 6 + 1) from by rfl))
  skip
  exact e2.trans (by omega)
theorem Ptr.ord2 {h : Int → Int → Int} (hp : Ptr h) {w : Int} (hw : isW w) : ∀ c, 0 ≤ c → c < 8 → h (w + 13 + 15 * c + 6) 2 = w + 13 + 15 * c + 8 := by
  intro c h0 h1
  have e := VP_c (j := 2) (r := 6) hw h0 h1 (by decide) (by decide)
  have e2 := hp _ _ _ (e.trans (show VPc (w + 13 + 15 * c + 6) 6 2 = some (w + 13 + 15 * c + 6 + 2) from by rfl))
  skip
  exact e2.trans (by omega)
theorem Ptr.ord3 {h : Int → Int → Int} (hp : Ptr h) {w : Int} (hw : isW w) : ∀ c, 0 ≤ c → c < 8 → h (w + 13 + 15 * c + 6) 3 = w + 13 + 15 * c + 9 := by
  intro c h0 h1
  have e := VP_c (j := 3) (r := 6) hw h0 h1 (by decide) (by decide)
  have e2 := hp _ _ _ (e.trans (show VPc (w + 13 + 15 * c + 6) 6 3 = some (w + 13 + 15 * c + 6 + 3) from by rfl))
  skip
  exact e2.trans (by omega)
theorem Ptr.ord4 {h : Int → Int → Int} (hp : Ptr h) {w : Int} (hw : isW w) : ∀ c, 0 ≤ c → c < 8 → h (w + 13 + 15 * c + 6) 4 = w + 13 + 15 * c + 10 := by
  intro c h0 h1
  have e := VP_c (j := 4) (r := 6) hw h0 h1 (by decide) (by decide)
  have e2 := hp _ _ _ (e.trans (show VPc (w + 13 + 15 * c + 6) 6 4 = some (w + 13 + 15 * c + 6 + 4) from by rfl))
  skip
  exact e2.trans (by omega)
theorem Ptr.ord5 {h : Int → Int → Int} (hp : Ptr h) {w : Int} (hw : isW w) : ∀ c, 0 ≤ c → c < 8 → h (w + 13 + 15 * c + 6) 5 = w + 13 + 15 * c + 11 := by
  intro c h0 h1
  have e := VP_c (j := 5) (r := 6) hw h0 h1 (by decide) (by decide)
  have e2 := hp _ _ _ (e.trans (show VPc (w + 13 + 15 * c + 6) 6 5 = some (w + 13 + 15 * c + 6 + 5) from by rfl))
  skip
  exact e2.trans (by omega)
theorem Ptr.ord6 {h : Int → Int → Int} (hp : Ptr h) {w : Int} (hw : isW w) : ∀ c, 0 ≤ c → c < 8 → h (w + 13 + 15 * c + 6) 6 = w + 13 + 15 * c + 12 := by
  intro c h0 h1
  have e := VP_c (j := 6) (r := 6) hw h0 h1 (by decide) (by decide)
  have e2 := hp _ _ _ (e.trans (show VPc (w + 13 + 15 * c + 6) 6 6 = some (w + 13 + 15 * c + 6 + 6) from by rfl))
  skip
  exact e2.trans (by omega)
theorem Ptr.next {h : Int → Int → Int} (hp : Ptr h) {w : Int} (hw : isW w) : ∀ c, 0 ≤ c → c < 8 → h (w + 13 + 15 * c + 13) 0 = w + 13 + 15 * c + 14 := by
  intro c h0 h1
  have e := VP_c (j := 0) (r := 13) hw h0 h1 (by decide) (by decide)
  have e2 := hp _ _ _ (e.trans (show VPc (w + 13 + 15 * c + 13) 13 0 = some (w + 13 + 15 * c + 13 + 1) from by rfl))
  skip
  exact e2.trans (by omega)
theorem Ptr.t0 {h : Int → Int → Int} (hp : Ptr h) : h 0 0 = 1 := hp 0 0 1 (by decide)
theorem Ptr.t1 {h : Int → Int → Int} (hp : Ptr h) : h 0 1 = 148 := hp 0 1 148 (by decide)
theorem Ptr.t2 {h : Int → Int → Int} (hp : Ptr h) : h 0 2 = 295 := hp 0 2 295 (by decide)
theorem Ptr.t3 {h : Int → Int → Int} (hp : Ptr h) : h 0 3 = 442 := hp 0 3 442 (by decide)
theorem Ptr.t4 {h : Int → Int → Int} (hp : Ptr h) : h 0 4 = 452 := hp 0 4 452 (by decide)
theorem Ptr.t5 {h : Int → Int → Int} (hp : Ptr h) : h 0 5 = 459 := hp 0 5 459 (by decide)
theorem Ptr.t6 {h : Int → Int → Int} (hp : Ptr h) : h 0 6 = 468 := hp 0 6 468 (by decide)
theorem Ptr.tx0 {h : Int → Int → Int} (hp : Ptr h) : h 452 0 = 453 := hp 452 0 453 (by decide)
theorem Ptr.tx2 {h : Int → Int → Int} (hp : Ptr h) : h 452 2 = 454 := hp 452 2 454 (by decide)
theorem Ptr.pl3 {h : Int → Int → Int} (hp : Ptr h) : h 442 3 = 443 := hp 442 3 443 (by decide)
theorem Ptr.pl4 {h : Int → Int → Int} (hp : Ptr h) : h 442 4 = 444 := hp 442 4 444 (by decide)
theorem Ptr.pl5 {h : Int → Int → Int} (hp : Ptr h) : h 442 5 = 445 := hp 442 5 445 (by decide)
theorem Ptr.pl6 {h : Int → Int → Int} (hp : Ptr h) : h 442 6 = 446 := hp 442 6 446 (by decide)
theorem Ptr.pl7 {h : Int → Int → Int} (hp : Ptr h) : h 442 7 = 447 := hp 442 7 447 (by decide)
theorem Ptr.pl8 {h : Int → Int → Int} (hp : Ptr h) : h 442 8 = 448 := hp 442 8 448 (by decide)
theorem Ptr.pl9 {h : Int → Int → Int} (hp : Ptr h) : h 442 9 = 449 := hp 442 9 449 (by decide)
theorem Ptr.pl10 {h : Int → Int → Int} (hp : Ptr h) : h 442 10 = 450 := hp 442 10 450 (by decide)
theorem Ptr.pl11 {h : Int → Int → Int} (hp : Ptr h) : h 442 11 = 451 := hp 442 11 451 (by decide)
theorem Ptr.m0 {h : Int → Int → Int} (hp : Ptr h) : h 469 0 = 470 := hp 469 0 470 (by decide)
theorem Ptr.m1 {h : Int → Int → Int} (hp : Ptr h) : h 469 1 = 471 := hp 469 1 471 (by decide)
theorem Ptr.m2 {h : Int → Int → Int} (hp : Ptr h) : h 469 2 = 472 := hp 469 2 472 (by decide)
theorem Ptr.m4 {h : Int → Int → Int} (hp : Ptr h) : h 469 4 = 473 := hp 469 4 473 (by decide)
theorem Ptr.m6 {h : Int → Int → Int} (hp : Ptr h) : h 469 6 = 474 := hp 469 6 474 (by decide)
theorem Ptr.m7 {h : Int → Int → Int} (hp : Ptr h) : h 469 7 = 475 := hp 469 7 475 (by decide)
theorem Ptr.m8 {h : Int → Int → Int} (hp : Ptr h) : h 469 8 = 476 := hp 469 8 476 (by decide)
theorem Ptr.m9 {h : Int → Int → Int} (hp : Ptr h) : h 469 9 = 477 := hp 469 9 477 (by decide)
theorem Ptr.m10 {h : Int → Int → Int} (hp : Ptr h) : h 469 10 = 478 := hp 469 10 478 (by decide)
theorem Ptr.m16 {h : Int → Int → Int} (hp : Ptr h) : h 469 16 = 479 := hp 469 16 479 (by decide)
theorem Ptr.m17 {h : Int → Int → Int} (hp : Ptr h) : h 469 17 = 480 := hp 469 17 480 (by decide)
theorem Ptr.m19 {h : Int → Int → Int} (hp : Ptr h) : h 469 19 = 481 := hp 469 19 481 (by decide)
theorem Ptr.m20 {h : Int → Int → Int} (hp : Ptr h) : h 469 20 = 482 := hp 469 20 482 (by decide)
theorem Ptr.m21 {h : Int → Int → Int} (hp : Ptr h) : h 469 21 = 483 := hp 469 21 483 (by decide)
theorem Ptr.m22 {h : Int → Int → Int} (hp : Ptr h) : h 469 22 = 484 := hp 469 22 484 (by decide)
theorem Ptr.m23 {h : Int → Int → Int} (hp : Ptr h) : h 469 23 = 485 := hp 469 23 485 (by decide)
theorem Ptr.m26 {h : Int → Int → Int} (hp : Ptr h) : h 469 26 = 486 := hp 469 26 486 (by decide)
theorem Ptr.m27 {h : Int → Int → Int} (hp : Ptr h) : h 469 27 = 487 := hp 469 27 487 (by decide)
theorem Ptr.read {h : Int → Int → Int} (hp : Ptr h) : ∀ i, 0 ≤ i → i < 4 → h 454 i = 455 + i := fun i h0 h1 => hp _ _ _ (by unfold VP0; simp [h0, h1])
theorem Ptr.sheet {h : Int → Int → Int} (hp : Ptr h) : ∀ i, 0 ≤ i → i < 4 → h 459 i = 460 + 2 * i := fun i h0 h1 => hp _ _ _ (by unfold VP0; simp [h0, h1])
theorem Ptr.nums {h : Int → Int → Int} (hp : Ptr h) : ∀ i, 0 ≤ i → i < 4 → h (460 + 2 * i) 2 = 461 + 2 * i := by
  intro i h0 h1
  have : i = 0 ∨ i = 1 ∨ i = 2 ∨ i = 3 := by omega
  rcases this with rfl | rfl | rfl | rfl
  · exact hp 460 2 461 (by decide)
  · exact hp 462 2 463 (by decide)
  · exact hp 464 2 465 (by decide)
  · exact hp 466 2 467 (by decide)
/-! lengths -/
theorem Sh.rains {sh : Int × (Int → Nat × Int)} (hs : Sh sh) {w : Int} (hw : isW w) : (sh.2 (w + 1)).2 = 42 := by
  rcases hw with rfl | rfl | rfl <;> (rw [hs _ (by decide) (by decide)]; decide)
theorem Sh.dishes {sh : Int × (Int → Nat × Int)} (hs : Sh sh) {w : Int} (hw : isW w) : (sh.2 (w + 2)).2 = 6 := by
  rcases hw with rfl | rfl | rfl <;> (rw [hs _ (by decide) (by decide)]; decide)
theorem Sh.crafts {sh : Int × (Int → Nat × Int)} (hs : Sh sh) {w : Int} (hw : isW w) : (sh.2 (w + 3)).2 = 8 := by
  rcases hw with rfl | rfl | rfl <;> (rw [hs _ (by decide) (by decide)]; decide)
theorem Sh.asks {sh : Int × (Int → Nat × Int)} (hs : Sh sh) {w : Int} (hw : isW w) : (sh.2 (w + 4)).2 = 14 := by
  rcases hw with rfl | rfl | rfl <;> (rw [hs _ (by decide) (by decide)]; decide)
theorem Sh.odds {sh : Int × (Int → Nat × Int)} (hs : Sh sh) {w : Int} (hw : isW w) : (sh.2 (w + 6)).2 = 64 := by
  rcases hw with rfl | rfl | rfl <;> (rw [hs _ (by decide) (by decide)]; decide)
theorem LT_c {w c r : Int} (hw : isW w) (h0 : 0 ≤ c) (h1 : c < 8) (r0 : 0 ≤ r) (r1 : r < 15) : LT0 (w + 13 + 15 * c + r) = LTc r := by
  have e1 : (w + 13 + 15 * c + r - 1) % 147 = 13 + 15 * c + r := by rcases hw with rfl | rfl | rfl <;> omega
  have e2 : (13 + 15 * c + r - 13) % 15 = r := by omega
  unfold LT0
  rw [if_neg (by rcases hw with rfl | rfl | rfl <;> omega), if_pos (by rcases hw with rfl | rfl | rfl <;> omega), e1]
  unfold LTw
  rw [if_neg (by omega), if_neg (by omega), if_neg (by omega), if_neg (by omega), if_neg (by omega), if_neg (by omega), if_neg (by omega), if_neg (by omega), if_pos (by omega), e2]
theorem isW.b {w : Int} (hw : isW w) : 1 ≤ w ∧ w ≤ 295 := by rcases hw with rfl | rfl | rfl <;> decide
theorem Sh.c1 {sh : Int × (Int → Nat × Int)} (hs : Sh sh) {w : Int} (hw : isW w) : ∀ c, 0 ≤ c → c < 8 → (sh.2 (w + 13 + 15 * c + 1)).2 = 3 := by
  intro c h0 h1
  have := hw.b
  rw [hs _ (by omega) (by omega), LT_c hw h0 h1 (by decide) (by decide)]; rfl
theorem Sh.c2 {sh : Int × (Int → Nat × Int)} (hs : Sh sh) {w : Int} (hw : isW w) : ∀ c, 0 ≤ c → c < 8 → (sh.2 (w + 13 + 15 * c + 2)).2 = 3 := by
  intro c h0 h1
  have := hw.b
  rw [hs _ (by omega) (by omega), LT_c hw h0 h1 (by decide) (by decide)]; rfl
theorem Sh.c4 {sh : Int × (Int → Nat × Int)} (hs : Sh sh) {w : Int} (hw : isW w) : ∀ c, 0 ≤ c → c < 8 → (sh.2 (w + 13 + 15 * c + 4)).2 = 12 := by
  intro c h0 h1
  have := hw.b
  rw [hs _ (by omega) (by omega), LT_c hw h0 h1 (by decide) (by decide)]; rfl
theorem Sh.c5 {sh : Int × (Int → Nat × Int)} (hs : Sh sh) {w : Int} (hw : isW w) : ∀ c, 0 ≤ c → c < 8 → (sh.2 (w + 13 + 15 * c + 5)).2 = 12 := by
  intro c h0 h1
  have := hw.b
  rw [hs _ (by omega) (by omega), LT_c hw h0 h1 (by decide) (by decide)]; rfl
theorem Sh.c7 {sh : Int × (Int → Nat × Int)} (hs : Sh sh) {w : Int} (hw : isW w) : ∀ c, 0 ≤ c → c < 8 → (sh.2 (w + 13 + 15 * c + 7)).2 = 12 := by
  intro c h0 h1
  have := hw.b
  rw [hs _ (by omega) (by omega), LT_c hw h0 h1 (by decide) (by decide)]; rfl
theorem Sh.c8 {sh : Int × (Int → Nat × Int)} (hs : Sh sh) {w : Int} (hw : isW w) : ∀ c, 0 ≤ c → c < 8 → (sh.2 (w + 13 + 15 * c + 8)).2 = 12 := by
  intro c h0 h1
  have := hw.b
  rw [hs _ (by omega) (by omega), LT_c hw h0 h1 (by decide) (by decide)]; rfl
theorem Sh.c9 {sh : Int × (Int → Nat × Int)} (hs : Sh sh) {w : Int} (hw : isW w) : ∀ c, 0 ≤ c → c < 8 → (sh.2 (w + 13 + 15 * c + 9)).2 = 12 := by
  intro c h0 h1
  have := hw.b
  rw [hs _ (by omega) (by omega), LT_c hw h0 h1 (by decide) (by decide)]; rfl
theorem Sh.c10 {sh : Int × (Int → Nat × Int)} (hs : Sh sh) {w : Int} (hw : isW w) : ∀ c, 0 ≤ c → c < 8 → (sh.2 (w + 13 + 15 * c + 10)).2 = 12 := by
  intro c h0 h1
  have := hw.b
  rw [hs _ (by omega) (by omega), LT_c hw h0 h1 (by decide) (by decide)]; rfl
theorem Sh.c11 {sh : Int × (Int → Nat × Int)} (hs : Sh sh) {w : Int} (hw : isW w) : ∀ c, 0 ≤ c → c < 8 → (sh.2 (w + 13 + 15 * c + 11)).2 = 12 := by
  intro c h0 h1
  have := hw.b
  rw [hs _ (by omega) (by omega), LT_c hw h0 h1 (by decide) (by decide)]; rfl
theorem Sh.c12 {sh : Int × (Int → Nat × Int)} (hs : Sh sh) {w : Int} (hw : isW w) : ∀ c, 0 ≤ c → c < 8 → (sh.2 (w + 13 + 15 * c + 12)).2 = 12 := by
  intro c h0 h1
  have := hw.b
  rw [hs _ (by omega) (by omega), LT_c hw h0 h1 (by decide) (by decide)]; rfl
theorem Sh.c14 {sh : Int × (Int → Nat × Int)} (hs : Sh sh) {w : Int} (hw : isW w) : ∀ c, 0 ≤ c → c < 8 → (sh.2 (w + 13 + 15 * c + 14)).2 = 8 := by
  intro c h0 h1
  have := hw.b
  rw [hs _ (by omega) (by omega), LT_c hw h0 h1 (by decide) (by decide)]; rfl
theorem Sh.k443 {sh : Int × (Int → Nat × Int)} (hs : Sh sh) : (sh.2 443).2 = 5 := by
  rw [hs _ (by decide) (by decide)]; decide
theorem Sh.k444 {sh : Int × (Int → Nat × Int)} (hs : Sh sh) : (sh.2 444).2 = 5 := by
  rw [hs _ (by decide) (by decide)]; decide
theorem Sh.k445 {sh : Int × (Int → Nat × Int)} (hs : Sh sh) : (sh.2 445).2 = 5 := by
  rw [hs _ (by decide) (by decide)]; decide
theorem Sh.k446 {sh : Int × (Int → Nat × Int)} (hs : Sh sh) : (sh.2 446).2 = 5 := by
  rw [hs _ (by decide) (by decide)]; decide
theorem Sh.k447 {sh : Int × (Int → Nat × Int)} (hs : Sh sh) : (sh.2 447).2 = 5 := by
  rw [hs _ (by decide) (by decide)]; decide
theorem Sh.k448 {sh : Int × (Int → Nat × Int)} (hs : Sh sh) : (sh.2 448).2 = 5 := by
  rw [hs _ (by decide) (by decide)]; decide
theorem Sh.k449 {sh : Int × (Int → Nat × Int)} (hs : Sh sh) : (sh.2 449).2 = 6 := by
  rw [hs _ (by decide) (by decide)]; decide
theorem Sh.k450 {sh : Int × (Int → Nat × Int)} (hs : Sh sh) : (sh.2 450).2 = 6 := by
  rw [hs _ (by decide) (by decide)]; decide
theorem Sh.k451 {sh : Int × (Int → Nat × Int)} (hs : Sh sh) : (sh.2 451).2 = 6 := by
  rw [hs _ (by decide) (by decide)]; decide
theorem Sh.k453 {sh : Int × (Int → Nat × Int)} (hs : Sh sh) : (sh.2 453).2 = 110 := by
  rw [hs _ (by decide) (by decide)]; decide
theorem Sh.k454 {sh : Int × (Int → Nat × Int)} (hs : Sh sh) : (sh.2 454).2 = 4 := by
  rw [hs _ (by decide) (by decide)]; decide
theorem Sh.k459 {sh : Int × (Int → Nat × Int)} (hs : Sh sh) : (sh.2 459).2 = 4 := by
  rw [hs _ (by decide) (by decide)]; decide
theorem Sh.k468 {sh : Int × (Int → Nat × Int)} (hs : Sh sh) : (sh.2 468).2 = 7 := by
  rw [hs _ (by decide) (by decide)]; decide
theorem Sh.k470 {sh : Int × (Int → Nat × Int)} (hs : Sh sh) : (sh.2 470).2 = 1354 := by
  rw [hs _ (by decide) (by decide)]; decide
theorem Sh.k471 {sh : Int × (Int → Nat × Int)} (hs : Sh sh) : (sh.2 471).2 = 1354 := by
  rw [hs _ (by decide) (by decide)]; decide
theorem Sh.k472 {sh : Int × (Int → Nat × Int)} (hs : Sh sh) : (sh.2 472).2 = 1354 := by
  rw [hs _ (by decide) (by decide)]; decide
theorem Sh.k473 {sh : Int × (Int → Nat × Int)} (hs : Sh sh) : (sh.2 473).2 = 110 := by
  rw [hs _ (by decide) (by decide)]; decide
theorem Sh.k474 {sh : Int × (Int → Nat × Int)} (hs : Sh sh) : (sh.2 474).2 = 7 := by
  rw [hs _ (by decide) (by decide)]; decide
theorem Sh.k475 {sh : Int × (Int → Nat × Int)} (hs : Sh sh) : (sh.2 475).2 = 4 := by
  rw [hs _ (by decide) (by decide)]; decide
theorem Sh.k476 {sh : Int × (Int → Nat × Int)} (hs : Sh sh) : (sh.2 476).2 = 4 := by
  rw [hs _ (by decide) (by decide)]; decide
theorem Sh.k477 {sh : Int × (Int → Nat × Int)} (hs : Sh sh) : (sh.2 477).2 = 96 := by
  rw [hs _ (by decide) (by decide)]; decide
theorem Sh.k478 {sh : Int × (Int → Nat × Int)} (hs : Sh sh) : (sh.2 478).2 = 24 := by
  rw [hs _ (by decide) (by decide)]; decide
theorem Sh.k479 {sh : Int × (Int → Nat × Int)} (hs : Sh sh) : (sh.2 479).2 = 24 := by
  rw [hs _ (by decide) (by decide)]; decide
theorem Sh.k480 {sh : Int × (Int → Nat × Int)} (hs : Sh sh) : (sh.2 480).2 = 72 := by
  rw [hs _ (by decide) (by decide)]; decide
theorem Sh.k481 {sh : Int × (Int → Nat × Int)} (hs : Sh sh) : (sh.2 481).2 = 5 := by
  rw [hs _ (by decide) (by decide)]; decide
theorem Sh.k482 {sh : Int × (Int → Nat × Int)} (hs : Sh sh) : (sh.2 482).2 = 5 := by
  rw [hs _ (by decide) (by decide)]; decide
theorem Sh.k483 {sh : Int × (Int → Nat × Int)} (hs : Sh sh) : (sh.2 483).2 = 5 := by
  rw [hs _ (by decide) (by decide)]; decide
theorem Sh.k484 {sh : Int × (Int → Nat × Int)} (hs : Sh sh) : (sh.2 484).2 = 5 := by
  rw [hs _ (by decide) (by decide)]; decide
theorem Sh.k485 {sh : Int × (Int → Nat × Int)} (hs : Sh sh) : (sh.2 485).2 = 5 := by
  rw [hs _ (by decide) (by decide)]; decide
theorem Sh.k486 {sh : Int × (Int → Nat × Int)} (hs : Sh sh) : (sh.2 486).2 = 6 := by
  rw [hs _ (by decide) (by decide)]; decide
theorem Sh.k487 {sh : Int × (Int → Nat × Int)} (hs : Sh sh) : (sh.2 487).2 = 12 := by
  rw [hs _ (by decide) (by decide)]; decide
theorem Sh.read {sh : Int × (Int → Nat × Int)} (hs : Sh sh) : ∀ i, 0 ≤ i → i < 4 → (sh.2 (455 + i)).2 = 6 := by
  intro i h0 h1
  have : i = 0 ∨ i = 1 ∨ i = 2 ∨ i = 3 := by omega
  rcases this with rfl | rfl | rfl | rfl <;> (rw [hs _ (by decide) (by decide)]; decide)
theorem Sh.nums {sh : Int × (Int → Nat × Int)} (hs : Sh sh) : ∀ i, 0 ≤ i → i < 4 → (sh.2 (461 + 2 * i)).2 = 24 := by
  intro i h0 h1
  have : i = 0 ∨ i = 1 ∨ i = 2 ∨ i = 3 := by omega
  rcases this with rfl | rfl | rfl | rfl <;> (rw [hs _ (by decide) (by decide)]; decide)
/-! ranges of the entries of p: from, to, least, most -/
def RT : List (Int × Int × Int × Int) := [(0, 1, 0, 3000), (1, 2, 0, 6), (2, 3, 0, 8), (3, 4, 0, 14), (10, 52, 0, 9), (52, 58, 0, 2), (58, 64, 0, 9), (64, 70, 0, 3), (70, 76, 0, 1), (76, 84, 0, 9), (84, 92, 0, 30), (92, 100, 0, 12), (100, 108, 0, 6), (108, 116, 0, 12), (148, 156, 0, 12), (156, 180, 0, 23), (180, 204, 0, 24), (300, 396, -1, 3000), (396, 410, 0, 6), (410, 424, 0, 7), (424, 438, 0, 9), (438, 452, 0, 9999), (452, 466, 0, 9999), (466, 480, 0, 999), (480, 494, 0, 4), (494, 508, -1, 5), (508, 522, -1, 9999), (1098, 1162, 0, 7), (1162, 1226, 0, 1), (1226, 1290, 0, 99), (1290, 1354, 0, 1)]
def WFR (G : Int → Int) : Prop := ∀ q, q ∈ RT → ∀ i, q.1 ≤ i → i < q.2.1 → q.2.2.1 ≤ G i ∧ G i ≤ q.2.2.2
set_option maxRecDepth 100000 in
theorem RT_apart : ∀ q ∈ RT, ∀ r ∈ RT, q = r ∨ q.2.1 ≤ r.1 ∨ r.2.1 ≤ q.1 := by decide
theorem WFR.set {G : Int → Int} (wf : WFR G) (q : Int × Int × Int × Int) {i v : Int} (hq : q ∈ RT) (h0 : q.1 ≤ i) (h1 : i < q.2.1) (h2 : q.2.2.1 ≤ v) (h3 : v ≤ q.2.2.2) : WFR (ud G i v) := by
  intro r hr j j0 j1
  by_cases e : j = i
  · subst e
    rw [ud_self]
    rcases RT_apart q hq r hr with rfl | h | h
    · exact ⟨h2, h3⟩
    · omega
    · omega
  · rw [ud_ne e]; exact wf r hr j j0 j1
theorem WFR.free {G : Int → Int} (wf : WFR G) {i v : Int} (hi : (116 ≤ i ∧ i < 148) ∨ (204 ≤ i ∧ i < 300) ∨ (522 ≤ i ∧ i < 1098)) : WFR (ud G i v) := by
  have key : ∀ r ∈ RT, (r.2.1 ≤ 116 ∨ 148 ≤ r.1) ∧ (r.2.1 ≤ 204 ∨ 300 ≤ r.1) ∧ (r.2.1 ≤ 522 ∨ 1098 ≤ r.1) := by decide
  intro r hr j j0 j1
  have := key r hr
  rw [ud_ne (by omega)]
  exact wf r hr j j0 j1
theorem WFR.hour {G : Int → Int} (wf : WFR G) : 0 ≤ G 0 ∧ G 0 ≤ 3000 := wf (0, 1, 0, 3000) (by decide) 0 (by decide) (by decide)
theorem WFR.nd {G : Int → Int} (wf : WFR G) : 0 ≤ G 1 ∧ G 1 ≤ 6 := wf (1, 2, 0, 6) (by decide) 1 (by decide) (by decide)
theorem WFR.nc {G : Int → Int} (wf : WFR G) : 0 ≤ G 2 ∧ G 2 ≤ 8 := wf (2, 3, 0, 8) (by decide) 2 (by decide) (by decide)
theorem WFR.na {G : Int → Int} (wf : WFR G) : 0 ≤ G 3 ∧ G 3 ≤ 14 := wf (3, 4, 0, 14) (by decide) 3 (by decide) (by decide)
theorem WFR.rain {G : Int → Int} (wf : WFR G) {d : Int} (h0 : 0 ≤ d) (h1 : d < 42) : 0 ≤ G (10 + d) ∧ G (10 + d) ≤ 9 := wf (10, 52, 0, 9) (by decide) _ (by show (10 : Int) ≤ _; omega) (by show _ < (52 : Int); omega)
theorem WFR.place {G : Int → Int} (wf : WFR G) {d : Int} (h0 : 0 ≤ d) (h1 : d < 6) : 0 ≤ G (52 + d) ∧ G (52 + d) ≤ 2 := wf (52, 58, 0, 2) (by decide) _ (by show (52 : Int) ≤ _; omega) (by show _ < (58 : Int); omega)
theorem WFR.size {G : Int → Int} (wf : WFR G) {d : Int} (h0 : 0 ≤ d) (h1 : d < 6) : 0 ≤ G (58 + d) ∧ G (58 + d) ≤ 9 := wf (58, 64, 0, 9) (by decide) _ (by show (58 : Int) ≤ _; omega) (by show _ < (64 : Int); omega)
theorem WFR.turn {G : Int → Int} (wf : WFR G) {d : Int} (h0 : 0 ≤ d) (h1 : d < 6) : 0 ≤ G (64 + d) ∧ G (64 + d) ≤ 3 := wf (64, 70, 0, 3) (by decide) _ (by show (64 : Int) ≤ _; omega) (by show _ < (70 : Int); omega)
theorem WFR.broken {G : Int → Int} (wf : WFR G) {d : Int} (h0 : 0 ≤ d) (h1 : d < 6) : 0 ≤ G (70 + d) ∧ G (70 + d) ≤ 1 := wf (70, 76, 0, 1) (by decide) _ (by show (70 : Int) ≤ _; omega) (by show _ < (76 : Int); omega)
theorem WFR.loud {G : Int → Int} (wf : WFR G) {d : Int} (h0 : 0 ≤ d) (h1 : d < 8) : 0 ≤ G (76 + d) ∧ G (76 + d) ≤ 9 := wf (76, 84, 0, 9) (by decide) _ (by show (76 : Int) ≤ _; omega) (by show _ < (84 : Int); omega)
theorem WFR.far {G : Int → Int} (wf : WFR G) {d : Int} (h0 : 0 ≤ d) (h1 : d < 8) : 0 ≤ G (84 + d) ∧ G (84 + d) ≤ 30 := wf (84, 92, 0, 30) (by decide) _ (by show (84 : Int) ≤ _; omega) (by show _ < (92 : Int); omega)
theorem WFR.room {G : Int → Int} (wf : WFR G) {d : Int} (h0 : 0 ≤ d) (h1 : d < 8) : 0 ≤ G (92 + d) ∧ G (92 + d) ≤ 12 := wf (92, 100, 0, 12) (by decide) _ (by show (92 : Int) ≤ _; omega) (by show _ < (100 : Int); omega)
theorem WFR.rate {G : Int → Int} (wf : WFR G) {d : Int} (h0 : 0 ≤ d) (h1 : d < 8) : 0 ≤ G (100 + d) ∧ G (100 + d) ≤ 6 := wf (100, 108, 0, 6) (by decide) _ (by show (100 : Int) ≤ _; omega) (by show _ < (108 : Int); omega)
theorem WFR.blocks {G : Int → Int} (wf : WFR G) {d : Int} (h0 : 0 ≤ d) (h1 : d < 8) : 0 ≤ G (108 + d) ∧ G (108 + d) ≤ 12 := wf (108, 116, 0, 12) (by decide) _ (by show (108 : Int) ≤ _; omega) (by show _ < (116 : Int); omega)
theorem WFR.orders {G : Int → Int} (wf : WFR G) {d : Int} (h0 : 0 ≤ d) (h1 : d < 8) : 0 ≤ G (148 + d) ∧ G (148 + d) ≤ 12 := wf (148, 156, 0, 12) (by decide) _ (by show (148 : Int) ≤ _; omega) (by show _ < (156 : Int); omega)
theorem WFR.upat {G : Int → Int} (wf : WFR G) {c p : Int} (c0 : 0 ≤ c) (c1 : c < 8) (p0 : 0 ≤ p) (p1 : p < 3) : 0 ≤ G (156 + 3 * c + p) ∧ G (156 + 3 * c + p) ≤ 23 := wf (156, 180, 0, 23) (by decide) _ (by show (156 : Int) ≤ _; omega) (by show _ < (180 : Int); omega)
theorem WFR.upfor {G : Int → Int} (wf : WFR G) {c p : Int} (c0 : 0 ≤ c) (c1 : c < 8) (p0 : 0 ≤ p) (p1 : p < 3) : 0 ≤ G (180 + 3 * c + p) ∧ G (180 + 3 * c + p) ≤ 24 := wf (180, 204, 0, 24) (by decide) _ (by show (180 : Int) ≤ _; omega) (by show _ < (204 : Int); omega)
theorem WFR.bsent {G : Int → Int} (wf : WFR G) {c p : Int} (c0 : 0 ≤ c) (c1 : c < 8) (p0 : 0 ≤ p) (p1 : p < 12) : -1 ≤ G (300 + 12 * c + p) ∧ G (300 + 12 * c + p) ≤ 3000 := wf (300, 396, -1, 3000) (by decide) _ (by show (300 : Int) ≤ _; omega) (by show _ < (396 : Int); omega)
theorem WFR.kind {G : Int → Int} (wf : WFR G) {d : Int} (h0 : 0 ≤ d) (h1 : d < 14) : 0 ≤ G (396 + d) ∧ G (396 + d) ≤ 6 := wf (396, 410, 0, 6) (by decide) _ (by show (396 : Int) ≤ _; omega) (by show _ < (410 : Int); omega)
theorem WFR.acraft {G : Int → Int} (wf : WFR G) {d : Int} (h0 : 0 ≤ d) (h1 : d < 14) : 0 ≤ G (410 + d) ∧ G (410 + d) ≤ 7 := wf (410, 424, 0, 7) (by decide) _ (by show (410 : Int) ≤ _; omega) (by show _ < (424 : Int); omega)
theorem WFR.an {G : Int → Int} (wf : WFR G) {d : Int} (h0 : 0 ≤ d) (h1 : d < 14) : 0 ≤ G (424 + d) ∧ G (424 + d) ≤ 9 := wf (424, 438, 0, 9) (by decide) _ (by show (424 : Int) ≤ _; omega) (by show _ < (438 : Int); omega)
theorem WFR.afrom {G : Int → Int} (wf : WFR G) {d : Int} (h0 : 0 ≤ d) (h1 : d < 14) : 0 ≤ G (438 + d) ∧ G (438 + d) ≤ 9999 := wf (438, 452, 0, 9999) (by decide) _ (by show (438 : Int) ≤ _; omega) (by show _ < (452 : Int); omega)
theorem WFR.ato {G : Int → Int} (wf : WFR G) {d : Int} (h0 : 0 ≤ d) (h1 : d < 14) : 0 ≤ G (452 + d) ∧ G (452 + d) ≤ 9999 := wf (452, 466, 0, 9999) (by decide) _ (by show (452 : Int) ≤ _; omega) (by show _ < (466 : Int); omega)
theorem WFR.aworth {G : Int → Int} (wf : WFR G) {d : Int} (h0 : 0 ≤ d) (h1 : d < 14) : 0 ≤ G (466 + d) ∧ G (466 + d) ≤ 999 := wf (466, 480, 0, 999) (by decide) _ (by show (466 : Int) ≤ _; omega) (by show _ < (480 : Int); omega)
theorem WFR.astate {G : Int → Int} (wf : WFR G) {d : Int} (h0 : 0 ≤ d) (h1 : d < 14) : 0 ≤ G (480 + d) ∧ G (480 + d) ≤ 4 := wf (480, 494, 0, 4) (by decide) _ (by show (480 : Int) ≤ _; omega) (by show _ < (494 : Int); omega)
theorem WFR.adish {G : Int → Int} (wf : WFR G) {d : Int} (h0 : 0 ≤ d) (h1 : d < 14) : -1 ≤ G (494 + d) ∧ G (494 + d) ≤ 5 := wf (494, 508, -1, 5) (by decide) _ (by show (494 : Int) ≤ _; omega) (by show _ < (508 : Int); omega)
theorem WFR.abegin {G : Int → Int} (wf : WFR G) {d : Int} (h0 : 0 ≤ d) (h1 : d < 14) : -1 ≤ G (508 + d) ∧ G (508 + d) ≤ 9999 := wf (508, 522, -1, 9999) (by decide) _ (by show (508 : Int) ≤ _; omega) (by show _ < (522 : Int); omega)
theorem WFR.tto {G : Int → Int} (wf : WFR G) {c p : Int} (c0 : 0 ≤ c) (c1 : c < 8) (p0 : 0 ≤ p) (p1 : p < 8) : 0 ≤ G (1098 + 8 * c + p) ∧ G (1098 + 8 * c + p) ≤ 7 := wf (1098, 1162, 0, 7) (by decide) _ (by show (1098 : Int) ≤ _; omega) (by show _ < (1162 : Int); omega)
theorem WFR.heard {G : Int → Int} (wf : WFR G) {c p : Int} (c0 : 0 ≤ c) (c1 : c < 8) (p0 : 0 ≤ p) (p1 : p < 8) : 0 ≤ G (1162 + 8 * c + p) ∧ G (1162 + 8 * c + p) ≤ 1 := wf (1162, 1226, 0, 1) (by decide) _ (by show (1162 : Int) ≤ _; omega) (by show _ < (1226 : Int); omega)
theorem WFR.odds {G : Int → Int} (wf : WFR G) {d : Int} (h0 : 0 ≤ d) (h1 : d < 64) : 0 ≤ G (1226 + d) ∧ G (1226 + d) ≤ 99 := wf (1226, 1290, 0, 99) (by decide) _ (by show (1226 : Int) ≤ _; omega) (by show _ < (1290 : Int); omega)
theorem WFR.seen {G : Int → Int} (wf : WFR G) {d : Int} (h0 : 0 ≤ d) (h1 : d < 64) : 0 ≤ G (1290 + d) ∧ G (1290 + d) ≤ 1 := wf (1290, 1354, 0, 1) (by decide) _ (by show (1290 : Int) ≤ _; omega) (by show _ < (1354 : Int); omega)
/-! bits -/
def ib (x s : Int) : Int := q_and (q_shr x s) 1
def lb (x s : Int) : Int := q_land (q_lshr x s) 1
/-- the world from w on bears G -/
def RelW (h : Int → Int → Int) (w : Int) (G : Int → Int) : Prop := RelL h w G (Live G) ∧ (∀ c s, 0 ≤ c → c < G 2 → 0 ≤ s → s < 8 → ib (h (w + 13 + 15 * c + 13) 1) s = G (1162 + 8 * c + s)) ∧ (∀ i, 0 ≤ i → i < 64 → lb (h (w + 5) 1) i = G (1290 + i))
theorem cel_nb {i : Int} (hi : Mp i) : cel i ≠ 5 ∧ ∀ c, 0 ≤ c → c < 8 → cel i ≠ 13 + 15 * c + 13 := by
  unfold Mp at hi
  refine ⟨?_, ?_⟩
  · unfold cel
    repeat' split
    all_goals omega
  · intro c h0 h1
    unfold cel
    repeat' split
    all_goals omega
theorem RelW.frame {h h' : Int → Int → Int} {w : Int} {G : Int → Int} (r : RelW h w G) (wf : WFR G) (hf : ∀ k, w ≤ k → k < w + 147 → h' k = h k) : RelW h' w G := by
  have := wf.nc
  refine ⟨r.1.frame hf, ?_, ?_⟩
  · intro c s h0 h1 h2 h3
    rw [hf _ (by omega) (by omega)]
    exact r.2.1 c s h0 h1 h2 h3
  · intro i h0 h1
    rw [hf _ (by omega) (by omega)]
    exact r.2.2 i h0 h1
/-- an entry that is no count is set on both sides -/
theorem RelW.set {h : Int → Int → Int} {w : Int} {G : Int → Int} (r : RelW h w G) (wf : WFR G) {i v k j a : Int} (hl : cel i = k ∧ slt i = j ∧ Mp i) (ha : a = w + k) (hi : (i = 0 ∨ 10 ≤ i) ∧ (i < 108 ∨ 116 ≤ i) ∧ (i < 148 ∨ 156 ≤ i) ∧ (i < 1162 ∨ (1226 ≤ i ∧ i < 1290))) : RelW (q_up h a j v) w (ud G i v) := by
  have n2 := wf.nc
  have e1 : ud G i v 1 = G 1 := ud_ne (by omega)
  have e2 : ud G i v 2 = G 2 := ud_ne (by omega)
  have e3 : ud G i v 3 = G 3 := ud_ne (by omega)
  have nb := cel_nb hl.2.2
  refine ⟨(r.1.set' hl ha).mono ?_, ?_, ?_⟩
  · intro x hx
    by_cases e : x = i
    · exact Or.inr e
    · left
      unfold Live at hx ⊢
      rw [e1, e2, e3] at hx
      have m1 : ∀ y, 108 ≤ y → y < 116 → ud G i v y = G y := fun y _ _ => ud_ne (by omega)
      have m2 : ∀ y, 148 ≤ y → y < 156 → ud G i v y = G y := fun y _ _ => ud_ne (by omega)
      obtain ⟨a1, a2, a3, a4, a5, a6, a7, a8, a9⟩ := hx
      refine ⟨a1, a2, a3, a4, ?_, ?_, a7, ?_, a9⟩
      · intro z1 z2
        have := a5 z1 z2
        rw [m1 _ (by omega) (by omega)] at this
        exact this
      · intro z1 z2
        have := a6 z1 z2
        rw [m1 _ (by omega) (by omega)] at this
        exact this
      · intro z1 z2
        have := a8 z1 z2
        rw [m2 _ (by omega) (by omega)] at this
        exact this
  · intro c s h0 h1 h2 h3
    rw [e2] at h1
    rw [ud_ne (by omega), q_up_far]
    · exact r.2.1 c s h0 h1 h2 h3
    · have := nb.2 c h0 (by omega)
      rw [← hl.1] at ha
      omega
  · intro y h0 h1
    rw [ud_ne (by omega), q_up_far]
    · exact r.2.2 y h0 h1
    · rw [← hl.1] at ha
      omega
/-! what else holds of p -/
def WFk (G : Int → Int) : Prop := ∀ c, 0 ≤ c → c < G 2 → 1 ≤ G (92 + c) ∧ G (108 + c) ≤ G (92 + c)
def WFa (G : Int → Int) : Prop := ∀ a, 0 ≤ a → a < G 3 → G (410 + a) < G 2 ∧ 1 ≤ G (424 + a) ∧ G (494 + a) < G 1 ∧ (G (480 + a) = 1 → 0 ≤ G (494 + a) ∧ G 0 ≤ G (508 + a)) ∧ (G (480 + a) = 2 → 0 ≤ G (494 + a) ∧ 0 ≤ G (508 + a) ∧ G (508 + a) ≤ G 0 ∧ G 0 < G (508 + a) + G (424 + a))
def WFp (G : Int → Int) : Prop := ∀ a b, 0 ≤ a → a < b → b < G 3 → (G (480 + a) = 1 ∨ G (480 + a) = 2) → (G (480 + b) = 1 ∨ G (480 + b) = 2) → G (494 + a) = G (494 + b) → G (508 + a) + G (424 + a) ≤ G (508 + b) ∨ G (508 + b) + G (424 + b) ≤ G (508 + a)
def WFb (G : Int → Int) : Prop := ∀ c, G 2 ≤ c → c < 8 → G (108 + c) = 0 ∧ G (116 + c) = 0 ∧ G (124 + c) = 0 ∧ G (132 + c) = 0 ∧ G (140 + c) = 0 ∧ G (148 + c) = 0 ∧ (∀ p, 0 ≤ p → p < 3 → G (156 + 3 * c + p) = 0 ∧ G (180 + 3 * c + p) = 0) ∧ (∀ s, 0 ≤ s → s < 8 → G (1098 + 8 * c + s) = s ∧ G (1162 + 8 * c + s) = 0)
def WF (G : Int → Int) : Prop := WFR G ∧ WFk G ∧ WFa G ∧ WFp G ∧ WFb G
theorem WFk.fr {G G' : Int → Int} (wf : WFk G) (wr : WFR G) (hf : ∀ i, (i = 2 ∨ (92 ≤ i ∧ i < 100) ∨ (108 ≤ i ∧ i < 116)) → G' i = G i) : WFk G' := by
  have := wr.nc
  intro c h0 h1
  rw [hf 2 (by omega)] at h1
  rw [hf _ (by omega), hf _ (by omega)]
  exact wf c h0 h1
theorem WFa.fr {G G' : Int → Int} (wf : WFa G) (wr : WFR G) (hf : ∀ i, ((0 ≤ i ∧ i < 4) ∨ (410 ≤ i ∧ i < 438) ∨ (480 ≤ i ∧ i < 522)) → G' i = G i) : WFa G' := by
  have := wr.na
  intro a h0 h1
  rw [hf 3 (by omega)] at h1
  rw [hf 0 (by omega), hf 1 (by omega), hf 2 (by omega), hf (410 + a) (by omega), hf (424 + a) (by omega), hf (494 + a) (by omega), hf (480 + a) (by omega), hf (508 + a) (by omega)]
  exact wf a h0 h1
theorem WFp.fr {G G' : Int → Int} (wf : WFp G) (wr : WFR G) (hf : ∀ i, (i = 3 ∨ (424 ≤ i ∧ i < 438) ∨ (480 ≤ i ∧ i < 522)) → G' i = G i) : WFp G' := by
  have := wr.na
  intro a b h0 h1 h2
  rw [hf 3 (by omega)] at h2
  rw [hf (424 + a) (by omega), hf (494 + a) (by omega), hf (480 + a) (by omega), hf (508 + a) (by omega), hf (424 + b) (by omega), hf (494 + b) (by omega), hf (480 + b) (by omega), hf (508 + b) (by omega)]
  exact wf a b h0 h1 h2
/-- entries of blanks may change below the count -/
theorem WFb.fr {G G' : Int → Int} (wf : WFb G) (wr : WFR G) (h2 : G' 2 = G 2) (hf : ∀ i, ((108 + G 2 ≤ i ∧ i < 116) ∨ (116 + G 2 ≤ i ∧ i < 124) ∨ (124 + G 2 ≤ i ∧ i < 132) ∨ (132 + G 2 ≤ i ∧ i < 140) ∨ (140 + G 2 ≤ i ∧ i < 148) ∨ (148 + G 2 ≤ i ∧ i < 156) ∨ (156 + 3 * G 2 ≤ i ∧ i < 180) ∨ (180 + 3 * G 2 ≤ i ∧ i < 204) ∨ (1098 + 8 * G 2 ≤ i ∧ i < 1162) ∨ (1162 + 8 * G 2 ≤ i ∧ i < 1226)) → G' i = G i) : WFb G' := by
  have := wr.nc
  intro c h0 h1
  rw [h2] at h0
  obtain ⟨b1, b2, b3, b4, b5, b6, b7, b8⟩ := wf c h0 h1
  rw [hf (108 + c) (by omega), hf (116 + c) (by omega), hf (124 + c) (by omega), hf (132 + c) (by omega), hf (140 + c) (by omega), hf (148 + c) (by omega)]
  refine ⟨b1, b2, b3, b4, b5, b6, ?_, ?_⟩
  · intro p p0 p1
    rw [hf (156 + 3 * c + p) (by omega), hf (180 + 3 * c + p) (by omega)]
    exact b7 p p0 p1
  · intro s s0 s1
    rw [hf (1098 + 8 * c + s) (by omega), hf (1162 + 8 * c + s) (by omega)]
    exact b8 s s0 s1
/-- what may hold anything between two calls -/
def Scr (k j : Int) : Prop := (295 ≤ k ∧ k < 452) ∨ (k = 452 ∧ 3 ≤ j) ∨ (454 ≤ k ∧ k < 459) ∨ k = 472 ∨ k = 478 ∨ k = 479 ∨ (481 ≤ k ∧ k ≤ 487) ∨ (k = 469 ∧ ((11 ≤ j ∧ j ≤ 15) ∨ j = 18 ∨ j = 24 ∨ j = 25))
/-- the reference's letters of words, six a word -/
def wl (i : Int) : Int := ([116, 114, 97, 99, 107, 0, 115, 101, 110, 100, 0, 0, 104, 101, 97, 114, 0, 0, 98, 111, 116, 104, 0, 0, 102, 97, 114, 0, 0, 0, 115, 104, 97, 114, 101, 100, 97, 114, 114, 97, 121, 0, 99, 0, 0, 0, 0, 0, 110, 0, 0, 0, 0, 0, 102, 114, 111, 109, 0, 0, 116, 111, 0, 0, 0, 0, 119, 111, 114, 116, 104, 0] : List Int).getD i.toNat 0
def InvI (h : Int → Int → Int) : Prop := h 0 7 = h 469 3 ∧ (h 0 7 = 0 ∨ (h 0 7 = 1 ∧ RelW h 148 (h 471) ∧ WF (h 471) ∧ h 471 0 ≤ 2000))
def InvT (h : Int → Int → Int) : Prop := h 452 1 = h 469 5 ∧ 0 ≤ h 452 1 ∧ h 452 1 ≤ 110 ∧ ∀ i, 0 ≤ i → i < h 452 1 → h 453 i = h 473 i ∧ 0 ≤ h 453 i ∧ h 453 i ≤ 255
def InvF (h : Int → Int → Int) : Prop := ∀ i, 0 ≤ i → i < 7 → h 468 i = h 474 i ∧ -2147483648 ≤ h 474 i ∧ h 474 i < 2147483648
def InvS (h : Int → Int → Int) : Prop := ∀ s, 0 ≤ s → s < 4 → h (460 + 2 * s) 0 = h 475 s ∧ h (460 + 2 * s) 1 = h 476 s ∧ (h 475 s = 0 ∨ h 475 s = 8 ∨ h 475 s = 16 ∨ h 475 s = 32) ∧ 0 ≤ h 476 s ∧ h 476 s ≤ 24 ∧ ∀ i, 0 ≤ i → i < 24 → h (461 + 2 * s) i = h 477 (24 * s + i)
def InvL (h : Int → Int → Int) : Prop := ∀ i, 0 ≤ i → i < 72 → h 480 i = wl i
def Inv (h : Int → Int → Int) : Prop := Ptr h ∧ RelW h 1 (h 470) ∧ WF (h 470) ∧ h 470 0 ≤ 2000 ∧ InvI h ∧ InvT h ∧ InvF h ∧ InvS h ∧ InvL h
theorem InvI.fr {h h2 : Int → Int → Int} (hi : InvI h) (hf : ∀ k j, (k < 1 ∨ 148 ≤ k) → k ≠ 470 → ¬ Scr k j → h2 k j = h k j) : InvI h2 := by
  unfold InvI
  have e1 : h2 0 7 = h 0 7 := hf 0 7 (by omega) (by omega) (by unfold Scr; omega)
  have e2 : h2 469 3 = h 469 3 := hf 469 3 (by omega) (by omega) (by unfold Scr; omega)
  have e3 : h2 471 = h 471 := by funext j; exact hf 471 j (by omega) (by omega) (by unfold Scr; omega)
  rw [e1, e2, e3]
  refine ⟨hi.1, ?_⟩
  rcases hi.2 with h0 | ⟨h1, r, wf, hh⟩
  · exact Or.inl h0
  · exact Or.inr ⟨h1, r.frame wf.1 (fun k k0 k1 => by funext j; exact hf k j (by omega) (by omega) (by unfold Scr; omega)), wf, hh⟩
theorem InvT.fr {h h2 : Int → Int → Int} (hi : InvT h) (hf : ∀ k j, (k < 1 ∨ 148 ≤ k) → k ≠ 470 → ¬ Scr k j → h2 k j = h k j) : InvT h2 := by
  unfold InvT
  have e1 : h2 452 1 = h 452 1 := hf 452 1 (by omega) (by omega) (by unfold Scr; omega)
  have e2 : h2 469 5 = h 469 5 := hf 469 5 (by omega) (by omega) (by unfold Scr; omega)
  have e3 : h2 453 = h 453 := by funext j; exact hf 453 j (by omega) (by omega) (by unfold Scr; omega)
  have e4 : h2 473 = h 473 := by funext j; exact hf 473 j (by omega) (by omega) (by unfold Scr; omega)
  rw [e1, e2, e3, e4]
  exact hi
theorem InvF.fr {h h2 : Int → Int → Int} (hi : InvF h) (hf : ∀ k j, (k < 1 ∨ 148 ≤ k) → k ≠ 470 → ¬ Scr k j → h2 k j = h k j) : InvF h2 := by
  unfold InvF
  have e3 : h2 468 = h 468 := by funext j; exact hf 468 j (by omega) (by omega) (by unfold Scr; omega)
  have e4 : h2 474 = h 474 := by funext j; exact hf 474 j (by omega) (by omega) (by unfold Scr; omega)
  rw [e3, e4]
  exact hi
theorem InvS.fr {h h2 : Int → Int → Int} (hi : InvS h) (hf : ∀ k j, (k < 1 ∨ 148 ≤ k) → k ≠ 470 → ¬ Scr k j → h2 k j = h k j) : InvS h2 := by
  intro s s0 s1
  have e1 : h2 (460 + 2 * s) = h (460 + 2 * s) := by funext j; exact hf _ j (by omega) (by omega) (by unfold Scr; omega)
  have e2 : h2 (461 + 2 * s) = h (461 + 2 * s) := by funext j; exact hf _ j (by omega) (by omega) (by unfold Scr; omega)
  have e3 : h2 475 = h 475 := by funext j; exact hf 475 j (by omega) (by omega) (by unfold Scr; omega)
  have e4 : h2 476 = h 476 := by funext j; exact hf 476 j (by omega) (by omega) (by unfold Scr; omega)
  have e5 : h2 477 = h 477 := by funext j; exact hf 477 j (by omega) (by omega) (by unfold Scr; omega)
  rw [e1, e2, e3, e4, e5]
  exact hi s s0 s1
theorem InvL.fr {h h2 : Int → Int → Int} (hi : InvL h) (hf : ∀ k j, (k < 1 ∨ 148 ≤ k) → k ≠ 470 → ¬ Scr k j → h2 k j = h k j) : InvL h2 := by
  intro i i0 i1
  rw [hf 480 i (by omega) (by omega) (by unfold Scr; omega)]
  exact hi i i0 i1
/-- a call changes the world and p (and what may hold anything) alone -/
theorem Inv.world {h h2 : Int → Int → Int} (hi : Inv h) (hp : Ptr h2) (hf : ∀ k j, (k < 1 ∨ 148 ≤ k) → k ≠ 470 → ¬ Scr k j → h2 k j = h k j) (hr : RelW h2 1 (h2 470)) (hw : WF (h2 470)) (hh : h2 470 0 ≤ 2000) : Inv h2 :=
  ⟨hp, hr, hw, hh, hi.2.2.2.2.1.fr hf, hi.2.2.2.2.2.1.fr hf, hi.2.2.2.2.2.2.1.fr hf, hi.2.2.2.2.2.2.2.1.fr hf, hi.2.2.2.2.2.2.2.2.fr hf⟩
/-- a call changes only what may hold anything -/
theorem Inv.scr {h h2 : Int → Int → Int} (hi : Inv h) (hp : Ptr h2) (hf : ∀ k j, ¬ Scr k j → h2 k j = h k j) : Inv h2 := by
  have e : h2 470 = h 470 := by funext j; exact hf 470 j (by unfold Scr; omega)
  refine hi.world hp (fun k j _ _ hs => hf k j hs) ?_ (by rw [e]; exact hi.2.2.1) (by rw [e]; exact hi.2.2.2.1)
  rw [e]
  exact hi.2.1.frame hi.2.2.1.1 (fun k k0 k1 => by funext j; exact hf k j (by unfold Scr; omega))
/-- a finding is told on both sides -/
theorem Inv.find {h : Int → Int → Int} (hi : Inv h) (i : Int) (h0 : 0 ≤ i) (h7 : i < 7) : Inv (q_up (q_up h 468 i (q_add (h 468 i) 1)) 474 i (q_add (h 474 i) 1)) := by
  obtain ⟨hp, hr, hw, hh, iI, iT, iF, iS, iL⟩ := hi
  have hf : ∀ k, k ≠ 468 → k ≠ 474 → (q_up (q_up h 468 i (q_add (h 468 i) 1)) 474 i (q_add (h 474 i) 1)) k = h k := by
    intro k k1 k2
    rw [q_up_far k2, q_up_far k1]
  refine ⟨(hp.up (by rfl)).up (by rfl), ?_, ?_, ?_, ?_, ?_, ?_, ?_, ?_⟩
  · rw [hf 470 (by decide) (by decide)]
    exact hr.frame hw.1 (fun k k0 k1 => hf k (by omega) (by omega))
  · rw [hf 470 (by decide) (by decide)]; exact hw
  · rw [hf 470 (by decide) (by decide)]; exact hh
  · unfold InvI
    rw [hf 0 (by decide) (by decide), hf 469 (by decide) (by decide), hf 471 (by decide) (by decide)]
    refine ⟨iI.1, ?_⟩
    rcases iI.2 with z | ⟨z, r, wf, zh⟩
    · exact Or.inl z
    · exact Or.inr ⟨z, r.frame wf.1 (fun k k0 k1 => hf k (by omega) (by omega)), wf, zh⟩
  · unfold InvT
    rw [hf 452 (by decide) (by decide), hf 469 (by decide) (by decide), hf 453 (by decide) (by decide), hf 473 (by decide) (by decide)]
    exact iT
  · intro j j0 j7
    have e := iF j j0 j7
    by_cases ej : j = i
    · subst ej
      rw [q_up_ne (by omega), q_up_self, q_up_self, e.1]
      refine ⟨rfl, ?_, ?_⟩ <;> (unfold q_add q_w; omega)
    · rw [q_up_ne (by omega), q_up_ne (by omega), q_up_ne (by omega), q_up_ne (by omega)]
      exact e
  · intro s s0 s1
    rw [hf (460 + 2 * s) (by omega) (by omega), hf (461 + 2 * s) (by omega) (by omega), hf 475 (by decide) (by decide), hf 476 (by decide) (by decide), hf 477 (by decide) (by decide)]
    exact iS s s0 s1
  · intro j j0 j1
    rw [hf 480 (by decide) (by decide)]
    exact iL j j0 j1
/-- what the law needs of a call: class and reference answer alike, and all holds again -/
def Old (sh : Int × (Int → Nat × Int)) (h : Int → Int → Int) : Prop := (sh.2 (-5)).2 = 7 ∧ ∀ j, h (-5) j = q_und j
/-- class and reference do a call alike -/
def Step (nc nr : Nat) (as : List q_V) : Prop := ∀ sh h, Sh sh → Old sh h → Inv h → ∃ v h1 h2, q_Cc nc ((21, 0) :: as) (sh, h) = some ((0, v), (sh, h1)) ∧ q_Cc nr ((22, 469) :: as) (sh, h1) = some ((0, v), (sh, h2)) ∧ Inv h2 ∧ ∀ k, k < 0 → h2 k = h k ∧ h1 k = h k
theorem RelW.hour {h : Int → Int → Int} {w : Int} {G : Int → Int} (r : RelW h w G) (wf : WFR G) : h (w) 0 = G (0) := by
  skip
  have u1 := wf.nd; have u2 := wf.nc; have u3 := wf.na
  exact r.1.get lo_hour (by unfold Live; refine ⟨?_, ?_, ?_, ?_, ?_, ?_, ?_, ?_, ?_⟩ <;> intro y1 y2 <;> omega) (by omega)
theorem RelW.nd {h : Int → Int → Int} {w : Int} {G : Int → Int} (r : RelW h w G) (wf : WFR G) : h (w) 1 = G (1) := by
  skip
  have u1 := wf.nd; have u2 := wf.nc; have u3 := wf.na
  exact r.1.get lo_nd (by unfold Live; refine ⟨?_, ?_, ?_, ?_, ?_, ?_, ?_, ?_, ?_⟩ <;> intro y1 y2 <;> omega) (by omega)
theorem RelW.nc {h : Int → Int → Int} {w : Int} {G : Int → Int} (r : RelW h w G) (wf : WFR G) : h (w) 2 = G (2) := by
  skip
  have u1 := wf.nd; have u2 := wf.nc; have u3 := wf.na
  exact r.1.get lo_nc (by unfold Live; refine ⟨?_, ?_, ?_, ?_, ?_, ?_, ?_, ?_, ?_⟩ <;> intro y1 y2 <;> omega) (by omega)
theorem RelW.na {h : Int → Int → Int} {w : Int} {G : Int → Int} (r : RelW h w G) (wf : WFR G) : h (w) 3 = G (3) := by
  skip
  have u1 := wf.nd; have u2 := wf.nc; have u3 := wf.na
  exact r.1.get lo_na (by unfold Live; refine ⟨?_, ?_, ?_, ?_, ?_, ?_, ?_, ?_, ?_⟩ <;> intro y1 y2 <;> omega) (by omega)
theorem RelW.rain {h : Int → Int → Int} {w : Int} {G : Int → Int} (r : RelW h w G) (wf : WFR G) : ∀ j, 0 ≤ j → j < 42 → h (w + 1) j = G (10 + j) := by
  intro j z1 z2
  have u1 := wf.nd; have u2 := wf.nc; have u3 := wf.na
  exact r.1.get (lo_rain z1 z2) (by unfold Live; refine ⟨?_, ?_, ?_, ?_, ?_, ?_, ?_, ?_, ?_⟩ <;> intro y1 y2 <;> omega) (by omega)
theorem RelW.place {h : Int → Int → Int} {w : Int} {G : Int → Int} (r : RelW h w G) (wf : WFR G) : ∀ d, 0 ≤ d → d < G 1 → h (w + 7 + d) 0 = G (52 + d) := by
  intro d z1 z2
  have u1 := wf.nd; have u2 := wf.nc; have u3 := wf.na
  exact r.1.get (lo_place z1 (by omega)) (by unfold Live; refine ⟨?_, ?_, ?_, ?_, ?_, ?_, ?_, ?_, ?_⟩ <;> intro y1 y2 <;> omega) (by omega)
theorem RelW.size {h : Int → Int → Int} {w : Int} {G : Int → Int} (r : RelW h w G) (wf : WFR G) : ∀ d, 0 ≤ d → d < G 1 → h (w + 7 + d) 1 = G (58 + d) := by
  intro d z1 z2
  have u1 := wf.nd; have u2 := wf.nc; have u3 := wf.na
  exact r.1.get (lo_size z1 (by omega)) (by unfold Live; refine ⟨?_, ?_, ?_, ?_, ?_, ?_, ?_, ?_, ?_⟩ <;> intro y1 y2 <;> omega) (by omega)
theorem RelW.turn {h : Int → Int → Int} {w : Int} {G : Int → Int} (r : RelW h w G) (wf : WFR G) : ∀ d, 0 ≤ d → d < G 1 → h (w + 7 + d) 2 = G (64 + d) := by
  intro d z1 z2
  have u1 := wf.nd; have u2 := wf.nc; have u3 := wf.na
  exact r.1.get (lo_turn z1 (by omega)) (by unfold Live; refine ⟨?_, ?_, ?_, ?_, ?_, ?_, ?_, ?_, ?_⟩ <;> intro y1 y2 <;> omega) (by omega)
theorem RelW.broken {h : Int → Int → Int} {w : Int} {G : Int → Int} (r : RelW h w G) (wf : WFR G) : ∀ d, 0 ≤ d → d < G 1 → h (w + 7 + d) 3 = G (70 + d) := by
  intro d z1 z2
  have u1 := wf.nd; have u2 := wf.nc; have u3 := wf.na
  exact r.1.get (lo_broken z1 (by omega)) (by unfold Live; refine ⟨?_, ?_, ?_, ?_, ?_, ?_, ?_, ?_, ?_⟩ <;> intro y1 y2 <;> omega) (by omega)
theorem RelW.loud {h : Int → Int → Int} {w : Int} {G : Int → Int} (r : RelW h w G) (wf : WFR G) : ∀ c, 0 ≤ c → c < G 2 → h (w + 13 + 15 * c) 0 = G (76 + c) := by
  intro c z1 z2
  have u1 := wf.nd; have u2 := wf.nc; have u3 := wf.na
  exact r.1.get (lo_loud z1 (by omega)) (by unfold Live; refine ⟨?_, ?_, ?_, ?_, ?_, ?_, ?_, ?_, ?_⟩ <;> intro y1 y2 <;> omega) (by omega)
theorem RelW.far {h : Int → Int → Int} {w : Int} {G : Int → Int} (r : RelW h w G) (wf : WFR G) : ∀ c, 0 ≤ c → c < G 2 → h (w + 13 + 15 * c) 1 = G (84 + c) := by
  intro c z1 z2
  have u1 := wf.nd; have u2 := wf.nc; have u3 := wf.na
  exact r.1.get (lo_far z1 (by omega)) (by unfold Live; refine ⟨?_, ?_, ?_, ?_, ?_, ?_, ?_, ?_, ?_⟩ <;> intro y1 y2 <;> omega) (by omega)
theorem RelW.room {h : Int → Int → Int} {w : Int} {G : Int → Int} (r : RelW h w G) (wf : WFR G) : ∀ c, 0 ≤ c → c < G 2 → h (w + 13 + 15 * c + 3) 0 = G (92 + c) := by
  intro c z1 z2
  have u1 := wf.nd; have u2 := wf.nc; have u3 := wf.na
  exact r.1.get (lo_room z1 (by omega)) (by unfold Live; refine ⟨?_, ?_, ?_, ?_, ?_, ?_, ?_, ?_, ?_⟩ <;> intro y1 y2 <;> omega) (by omega)
theorem RelW.rate {h : Int → Int → Int} {w : Int} {G : Int → Int} (r : RelW h w G) (wf : WFR G) : ∀ c, 0 ≤ c → c < G 2 → h (w + 13 + 15 * c) 2 = G (100 + c) := by
  intro c z1 z2
  have u1 := wf.nd; have u2 := wf.nc; have u3 := wf.na
  exact r.1.get (lo_rate z1 (by omega)) (by unfold Live; refine ⟨?_, ?_, ?_, ?_, ?_, ?_, ?_, ?_, ?_⟩ <;> intro y1 y2 <;> omega) (by omega)
theorem RelW.blocks {h : Int → Int → Int} {w : Int} {G : Int → Int} (r : RelW h w G) (wf : WFR G) : ∀ c, 0 ≤ c → c < G 2 → h (w + 13 + 15 * c + 3) 1 = G (108 + c) := by
  intro c z1 z2
  have u1 := wf.nd; have u2 := wf.nc; have u3 := wf.na
  exact r.1.get (lo_blocks z1 (by omega)) (by unfold Live; refine ⟨?_, ?_, ?_, ?_, ?_, ?_, ?_, ?_, ?_⟩ <;> intro y1 y2 <;> omega) (by omega)
theorem RelW.made {h : Int → Int → Int} {w : Int} {G : Int → Int} (r : RelW h w G) (wf : WFR G) : ∀ c, 0 ≤ c → c < G 2 → h (w + 13 + 15 * c + 3) 2 = G (116 + c) := by
  intro c z1 z2
  have u1 := wf.nd; have u2 := wf.nc; have u3 := wf.na
  exact r.1.get (lo_made z1 (by omega)) (by unfold Live; refine ⟨?_, ?_, ?_, ?_, ?_, ?_, ?_, ?_, ?_⟩ <;> intro y1 y2 <;> omega) (by omega)
theorem RelW.had {h : Int → Int → Int} {w : Int} {G : Int → Int} (r : RelW h w G) (wf : WFR G) : ∀ c, 0 ≤ c → c < G 2 → h (w + 13 + 15 * c + 3) 3 = G (124 + c) := by
  intro c z1 z2
  have u1 := wf.nd; have u2 := wf.nc; have u3 := wf.na
  exact r.1.get (lo_had z1 (by omega)) (by unfold Live; refine ⟨?_, ?_, ?_, ?_, ?_, ?_, ?_, ?_, ?_⟩ <;> intro y1 y2 <;> omega) (by omega)
theorem RelW.dropped {h : Int → Int → Int} {w : Int} {G : Int → Int} (r : RelW h w G) (wf : WFR G) : ∀ c, 0 ≤ c → c < G 2 → h (w + 13 + 15 * c + 3) 4 = G (132 + c) := by
  intro c z1 z2
  have u1 := wf.nd; have u2 := wf.nc; have u3 := wf.na
  exact r.1.get (lo_dropped z1 (by omega)) (by unfold Live; refine ⟨?_, ?_, ?_, ?_, ?_, ?_, ?_, ?_, ?_⟩ <;> intro y1 y2 <;> omega) (by omega)
theorem RelW.lost {h : Int → Int → Int} {w : Int} {G : Int → Int} (r : RelW h w G) (wf : WFR G) : ∀ c, 0 ≤ c → c < G 2 → h (w + 13 + 15 * c + 3) 5 = G (140 + c) := by
  intro c z1 z2
  have u1 := wf.nd; have u2 := wf.nc; have u3 := wf.na
  exact r.1.get (lo_lost z1 (by omega)) (by unfold Live; refine ⟨?_, ?_, ?_, ?_, ?_, ?_, ?_, ?_, ?_⟩ <;> intro y1 y2 <;> omega) (by omega)
theorem RelW.orders {h : Int → Int → Int} {w : Int} {G : Int → Int} (r : RelW h w G) (wf : WFR G) : ∀ c, 0 ≤ c → c < G 2 → h (w + 13 + 15 * c + 6) 0 = G (148 + c) := by
  intro c z1 z2
  have u1 := wf.nd; have u2 := wf.nc; have u3 := wf.na
  exact r.1.get (lo_orders z1 (by omega)) (by unfold Live; refine ⟨?_, ?_, ?_, ?_, ?_, ?_, ?_, ?_, ?_⟩ <;> intro y1 y2 <;> omega) (by omega)
theorem RelW.upat {h : Int → Int → Int} {w : Int} {G : Int → Int} (r : RelW h w G) (wf : WFR G) : ∀ c p, 0 ≤ c → c < G 2 → 0 ≤ p → p < 3 → h (w + 13 + 15 * c + 1) p = G (156 + 3 * c + p) := by
  intro c p z1 z2 z3 z4
  have u1 := wf.nd; have u2 := wf.nc; have u3 := wf.na
  exact r.1.get (lo_upat z1 (by omega) z3 z4) (by unfold Live; refine ⟨?_, ?_, ?_, ?_, ?_, ?_, ?_, ?_, ?_⟩ <;> intro y1 y2 <;> omega) (by omega)
theorem RelW.upfor {h : Int → Int → Int} {w : Int} {G : Int → Int} (r : RelW h w G) (wf : WFR G) : ∀ c p, 0 ≤ c → c < G 2 → 0 ≤ p → p < 3 → h (w + 13 + 15 * c + 2) p = G (180 + 3 * c + p) := by
  intro c p z1 z2 z3 z4
  have u1 := wf.nd; have u2 := wf.nc; have u3 := wf.na
  exact r.1.get (lo_upfor z1 (by omega) z3 z4) (by unfold Live; refine ⟨?_, ?_, ?_, ?_, ?_, ?_, ?_, ?_, ?_⟩ <;> intro y1 y2 <;> omega) (by omega)
theorem RelW.bnum {h : Int → Int → Int} {w : Int} {G : Int → Int} (r : RelW h w G) (wf : WFR G) : ∀ c k, 0 ≤ c → c < G 2 → 0 ≤ k → k < G (108 + c) → h (w + 13 + 15 * c + 4) k = G (204 + 12 * c + k) := by
  intro c k z1 z2 z3 z4
  have u1 := wf.nd; have u2 := wf.nc; have u3 := wf.na
  have u4 := wf.blocks z1 (by omega)
  have e1 : (204 + 12 * c + k - 204) / 12 = c := by omega
  have e2 : (204 + 12 * c + k - 204) % 12 = k := by omega
  exact r.1.get (lo_bnum z1 (by omega) z3 (by omega)) (by unfold Live; rw [e1, e2]; refine ⟨?_, ?_, ?_, ?_, ?_, ?_, ?_, ?_, ?_⟩ <;> intro y1 y2 <;> omega) (by omega)
theorem RelW.bsent {h : Int → Int → Int} {w : Int} {G : Int → Int} (r : RelW h w G) (wf : WFR G) : ∀ c k, 0 ≤ c → c < G 2 → 0 ≤ k → k < G (108 + c) → h (w + 13 + 15 * c + 5) k = G (300 + 12 * c + k) := by
  intro c k z1 z2 z3 z4
  have u1 := wf.nd; have u2 := wf.nc; have u3 := wf.na
  have u4 := wf.blocks z1 (by omega)
  have e1 : (300 + 12 * c + k - 300) / 12 = c := by omega
  have e2 : (300 + 12 * c + k - 300) % 12 = k := by omega
  exact r.1.get (lo_bsent z1 (by omega) z3 (by omega)) (by unfold Live; rw [e1, e2]; refine ⟨?_, ?_, ?_, ?_, ?_, ?_, ?_, ?_, ?_⟩ <;> intro y1 y2 <;> omega) (by omega)
theorem RelW.osent {h : Int → Int → Int} {w : Int} {G : Int → Int} (r : RelW h w G) (wf : WFR G) : ∀ c k, 0 ≤ c → c < G 2 → 0 ≤ k → k < G (148 + c) → h (w + 13 + 15 * c + 7) k = G (522 + 12 * c + k) := by
  intro c k z1 z2 z3 z4
  have u1 := wf.nd; have u2 := wf.nc; have u3 := wf.na
  have u4 := wf.orders z1 (by omega)
  have e1 : ((522 + 12 * c + k - 522) / 12) % 8 = c := by omega
  have e2 : (522 + 12 * c + k - 522) % 12 = k := by omega
  exact r.1.get (lo_osent z1 (by omega) z3 (by omega)) (by unfold Live; rw [e1, e2]; refine ⟨?_, ?_, ?_, ?_, ?_, ?_, ?_, ?_, ?_⟩ <;> intro y1 y2 <;> omega) (by omega)
theorem RelW.oagain {h : Int → Int → Int} {w : Int} {G : Int → Int} (r : RelW h w G) (wf : WFR G) : ∀ c k, 0 ≤ c → c < G 2 → 0 ≤ k → k < G (148 + c) → h (w + 13 + 15 * c + 8) k = G (618 + 12 * c + k) := by
  intro c k z1 z2 z3 z4
  have u1 := wf.nd; have u2 := wf.nc; have u3 := wf.na
  have u4 := wf.orders z1 (by omega)
  have e1 : ((618 + 12 * c + k - 522) / 12) % 8 = c := by omega
  have e2 : (618 + 12 * c + k - 522) % 12 = k := by omega
  exact r.1.get (lo_oagain z1 (by omega) z3 (by omega)) (by unfold Live; rw [e1, e2]; refine ⟨?_, ?_, ?_, ?_, ?_, ?_, ?_, ?_, ?_⟩ <;> intro y1 y2 <;> omega) (by omega)
theorem RelW.olast {h : Int → Int → Int} {w : Int} {G : Int → Int} (r : RelW h w G) (wf : WFR G) : ∀ c k, 0 ≤ c → c < G 2 → 0 ≤ k → k < G (148 + c) → h (w + 13 + 15 * c + 9) k = G (714 + 12 * c + k) := by
  intro c k z1 z2 z3 z4
  have u1 := wf.nd; have u2 := wf.nc; have u3 := wf.na
  have u4 := wf.orders z1 (by omega)
  have e1 : ((714 + 12 * c + k - 522) / 12) % 8 = c := by omega
  have e2 : (714 + 12 * c + k - 522) % 12 = k := by omega
  exact r.1.get (lo_olast z1 (by omega) z3 (by omega)) (by unfold Live; rw [e1, e2]; refine ⟨?_, ?_, ?_, ?_, ?_, ?_, ?_, ?_, ?_⟩ <;> intro y1 y2 <;> omega) (by omega)
theorem RelW.ostate {h : Int → Int → Int} {w : Int} {G : Int → Int} (r : RelW h w G) (wf : WFR G) : ∀ c k, 0 ≤ c → c < G 2 → 0 ≤ k → k < G (148 + c) → h (w + 13 + 15 * c + 11) k = G (810 + 12 * c + k) := by
  intro c k z1 z2 z3 z4
  have u1 := wf.nd; have u2 := wf.nc; have u3 := wf.na
  have u4 := wf.orders z1 (by omega)
  have e1 : ((810 + 12 * c + k - 522) / 12) % 8 = c := by omega
  have e2 : (810 + 12 * c + k - 522) % 12 = k := by omega
  exact r.1.get (lo_ostate z1 (by omega) z3 (by omega)) (by unfold Live; rw [e1, e2]; refine ⟨?_, ?_, ?_, ?_, ?_, ?_, ?_, ?_, ?_⟩ <;> intro y1 y2 <;> omega) (by omega)
theorem RelW.odone {h : Int → Int → Int} {w : Int} {G : Int → Int} (r : RelW h w G) (wf : WFR G) : ∀ c k, 0 ≤ c → c < G 2 → 0 ≤ k → k < G (148 + c) → h (w + 13 + 15 * c + 12) k = G (906 + 12 * c + k) := by
  intro c k z1 z2 z3 z4
  have u1 := wf.nd; have u2 := wf.nc; have u3 := wf.na
  have u4 := wf.orders z1 (by omega)
  have e1 : ((906 + 12 * c + k - 522) / 12) % 8 = c := by omega
  have e2 : (906 + 12 * c + k - 522) % 12 = k := by omega
  exact r.1.get (lo_odone z1 (by omega) z3 (by omega)) (by unfold Live; rw [e1, e2]; refine ⟨?_, ?_, ?_, ?_, ?_, ?_, ?_, ?_, ?_⟩ <;> intro y1 y2 <;> omega) (by omega)
theorem RelW.owent {h : Int → Int → Int} {w : Int} {G : Int → Int} (r : RelW h w G) (wf : WFR G) : ∀ c k, 0 ≤ c → c < G 2 → 0 ≤ k → k < G (148 + c) → h (w + 13 + 15 * c + 10) k = G (1002 + 12 * c + k) := by
  intro c k z1 z2 z3 z4
  have u1 := wf.nd; have u2 := wf.nc; have u3 := wf.na
  have u4 := wf.orders z1 (by omega)
  have e1 : ((1002 + 12 * c + k - 522) / 12) % 8 = c := by omega
  have e2 : (1002 + 12 * c + k - 522) % 12 = k := by omega
  exact r.1.get (lo_owent z1 (by omega) z3 (by omega)) (by unfold Live; rw [e1, e2]; refine ⟨?_, ?_, ?_, ?_, ?_, ?_, ?_, ?_, ?_⟩ <;> intro y1 y2 <;> omega) (by omega)
theorem RelW.kind {h : Int → Int → Int} {w : Int} {G : Int → Int} (r : RelW h w G) (wf : WFR G) : ∀ a, 0 ≤ a → a < G 3 → h (w + 133 + a) 0 = G (396 + a) := by
  intro a z1 z2
  have u1 := wf.nd; have u2 := wf.nc; have u3 := wf.na
  exact r.1.get (lo_kind z1 (by omega)) (by unfold Live; refine ⟨?_, ?_, ?_, ?_, ?_, ?_, ?_, ?_, ?_⟩ <;> intro y1 y2 <;> omega) (by omega)
theorem RelW.acraft {h : Int → Int → Int} {w : Int} {G : Int → Int} (r : RelW h w G) (wf : WFR G) : ∀ a, 0 ≤ a → a < G 3 → h (w + 133 + a) 1 = G (410 + a) := by
  intro a z1 z2
  have u1 := wf.nd; have u2 := wf.nc; have u3 := wf.na
  exact r.1.get (lo_acraft z1 (by omega)) (by unfold Live; refine ⟨?_, ?_, ?_, ?_, ?_, ?_, ?_, ?_, ?_⟩ <;> intro y1 y2 <;> omega) (by omega)
theorem RelW.an {h : Int → Int → Int} {w : Int} {G : Int → Int} (r : RelW h w G) (wf : WFR G) : ∀ a, 0 ≤ a → a < G 3 → h (w + 133 + a) 2 = G (424 + a) := by
  intro a z1 z2
  have u1 := wf.nd; have u2 := wf.nc; have u3 := wf.na
  exact r.1.get (lo_an z1 (by omega)) (by unfold Live; refine ⟨?_, ?_, ?_, ?_, ?_, ?_, ?_, ?_, ?_⟩ <;> intro y1 y2 <;> omega) (by omega)
theorem RelW.afrom {h : Int → Int → Int} {w : Int} {G : Int → Int} (r : RelW h w G) (wf : WFR G) : ∀ a, 0 ≤ a → a < G 3 → h (w + 133 + a) 3 = G (438 + a) := by
  intro a z1 z2
  have u1 := wf.nd; have u2 := wf.nc; have u3 := wf.na
  exact r.1.get (lo_afrom z1 (by omega)) (by unfold Live; refine ⟨?_, ?_, ?_, ?_, ?_, ?_, ?_, ?_, ?_⟩ <;> intro y1 y2 <;> omega) (by omega)
theorem RelW.ato {h : Int → Int → Int} {w : Int} {G : Int → Int} (r : RelW h w G) (wf : WFR G) : ∀ a, 0 ≤ a → a < G 3 → h (w + 133 + a) 4 = G (452 + a) := by
  intro a z1 z2
  have u1 := wf.nd; have u2 := wf.nc; have u3 := wf.na
  exact r.1.get (lo_ato z1 (by omega)) (by unfold Live; refine ⟨?_, ?_, ?_, ?_, ?_, ?_, ?_, ?_, ?_⟩ <;> intro y1 y2 <;> omega) (by omega)
theorem RelW.aworth {h : Int → Int → Int} {w : Int} {G : Int → Int} (r : RelW h w G) (wf : WFR G) : ∀ a, 0 ≤ a → a < G 3 → h (w + 133 + a) 5 = G (466 + a) := by
  intro a z1 z2
  have u1 := wf.nd; have u2 := wf.nc; have u3 := wf.na
  exact r.1.get (lo_aworth z1 (by omega)) (by unfold Live; refine ⟨?_, ?_, ?_, ?_, ?_, ?_, ?_, ?_, ?_⟩ <;> intro y1 y2 <;> omega) (by omega)
theorem RelW.astate {h : Int → Int → Int} {w : Int} {G : Int → Int} (r : RelW h w G) (wf : WFR G) : ∀ a, 0 ≤ a → a < G 3 → h (w + 133 + a) 6 = G (480 + a) := by
  intro a z1 z2
  have u1 := wf.nd; have u2 := wf.nc; have u3 := wf.na
  exact r.1.get (lo_astate z1 (by omega)) (by unfold Live; refine ⟨?_, ?_, ?_, ?_, ?_, ?_, ?_, ?_, ?_⟩ <;> intro y1 y2 <;> omega) (by omega)
theorem RelW.adish {h : Int → Int → Int} {w : Int} {G : Int → Int} (r : RelW h w G) (wf : WFR G) : ∀ a, 0 ≤ a → a < G 3 → h (w + 133 + a) 7 = G (494 + a) := by
  intro a z1 z2
  have u1 := wf.nd; have u2 := wf.nc; have u3 := wf.na
  exact r.1.get (lo_adish z1 (by omega)) (by unfold Live; refine ⟨?_, ?_, ?_, ?_, ?_, ?_, ?_, ?_, ?_⟩ <;> intro y1 y2 <;> omega) (by omega)
theorem RelW.abegin {h : Int → Int → Int} {w : Int} {G : Int → Int} (r : RelW h w G) (wf : WFR G) : ∀ a, 0 ≤ a → a < G 3 → h (w + 133 + a) 8 = G (508 + a) := by
  intro a z1 z2
  have u1 := wf.nd; have u2 := wf.nc; have u3 := wf.na
  exact r.1.get (lo_abegin z1 (by omega)) (by unfold Live; refine ⟨?_, ?_, ?_, ?_, ?_, ?_, ?_, ?_, ?_⟩ <;> intro y1 y2 <;> omega) (by omega)
theorem RelW.tto {h : Int → Int → Int} {w : Int} {G : Int → Int} (r : RelW h w G) (wf : WFR G) : ∀ c k, 0 ≤ c → c < G 2 → 0 ≤ k → k < 8 → h (w + 13 + 15 * c + 14) k = G (1098 + 8 * c + k) := by
  intro c k z1 z2 z3 z4
  have u1 := wf.nd; have u2 := wf.nc; have u3 := wf.na
  exact r.1.get (lo_tto z1 (by omega) z3 z4) (by unfold Live; refine ⟨?_, ?_, ?_, ?_, ?_, ?_, ?_, ?_, ?_⟩ <;> intro y1 y2 <;> omega) (by omega)
theorem RelW.odds {h : Int → Int → Int} {w : Int} {G : Int → Int} (r : RelW h w G) (wf : WFR G) : ∀ j, 0 ≤ j → j < 64 → h (w + 6) j = G (1226 + j) := by
  intro j z1 z2
  have u1 := wf.nd; have u2 := wf.nc; have u3 := wf.na
  exact r.1.get (lo_odds z1 z2) (by unfold Live; refine ⟨?_, ?_, ?_, ?_, ?_, ?_, ?_, ?_, ?_⟩ <;> intro y1 y2 <;> omega) (by omega)
