/-! askings are added -/
def adG (G V : Int → Int) : Int → Int := ud (ud (ud (ud (ud (ud (ud (ud (ud (ud G (396 + G 3) (V 0)) (410 + G 3) (V 1)) (424 + G 3) (V 2)) (438 + G 3) (V 3)) (452 + G 3) (V 4)) (466 + G 3) (V 5)) (480 + G 3) 0) (494 + G 3) (-1)) (508 + G 3) (-1)) 3 (G 3 + 1)
theorem adG_out {G V : Int → Int} {y : Int} (wr : WFR G) (a1 : G 3 < 14) (hy : (y < 396 ∨ 522 ≤ y) ∧ y ≠ 3) : adG G V y = G y := by
  have u3 := wr.na
  unfold adG
  simp (disch := omega) only [q_470, q_up_far, q_row_row, q_row_self, q_row_ne, q_up_ne, q_up_eq, q_rowup, ud_eq, ud_ne, q_add_id, q_sub_id, q_mul_id, q_w_eq, q_rem_n, q_div_n, ↓reduceIte, leT, leF, ltT, ltF, eqT, eqF, true_or, or_true, false_or, or_false, true_and, and_true, false_and, and_false, or_self, and_self, Option.bind_some, ]
theorem adG_old {G V : Int → Int} {y : Int} (wr : WFR G) (a1 : G 3 < 14) (h0 : 396 ≤ y) (h1 : y < 522) (h2 : (y - 396) % 14 < G 3) : adG G V y = G y := by
  have u3 := wr.na
  unfold adG
  simp (disch := omega) only [q_470, q_up_far, q_row_row, q_row_self, q_row_ne, q_up_ne, q_up_eq, q_rowup, ud_eq, ud_ne, q_add_id, q_sub_id, q_mul_id, q_w_eq, q_rem_n, q_div_n, ↓reduceIte, leT, leF, ltT, ltF, eqT, eqF, true_or, or_true, false_or, or_false, true_and, and_true, false_and, and_false, or_self, and_self, Option.bind_some, ]
theorem adG_new {G V : Int → Int} (wr : WFR G) (a1 : G 3 < 14) : adG G V 3 = G 3 + 1 ∧ adG G V (396 + G 3) = V 0 ∧ adG G V (410 + G 3) = V 1 ∧ adG G V (424 + G 3) = V 2 ∧ adG G V (438 + G 3) = V 3 ∧ adG G V (452 + G 3) = V 4 ∧ adG G V (466 + G 3) = V 5 ∧ adG G V (480 + G 3) = 0 ∧ adG G V (494 + G 3) = -1 ∧ adG G V (508 + G 3) = -1 := by
  have u3 := wr.na
  unfold adG
  refine ⟨?_, ?_, ?_, ?_, ?_, ?_, ?_, ?_, ?_, ?_⟩ <;> simp (disch := omega) only [q_470, q_up_far, q_row_row, q_row_self, q_row_ne, q_up_ne, q_up_eq, q_rowup, ud_eq, ud_ne, q_add_id, q_sub_id, q_mul_id, q_w_eq, q_rem_n, q_div_n, ↓reduceIte, leT, leF, ltT, ltF, eqT, eqF, true_or, or_true, false_or, or_false, true_and, and_true, false_and, and_false, or_self, and_self, Option.bind_some, ]
theorem WF.asked {G : Int → Int} (wf : WF G) (a1 : G 3 < 14) {k c n f t v : Int} (k0 : 0 ≤ k) (k1 : k ≤ 6) (c0 : 0 ≤ c) (c1 : c < G 2) (n0 : 1 ≤ n) (n1 : n ≤ 9) (f0 : 0 ≤ f) (f1 : f ≤ 9999) (t0 : 0 ≤ t) (t1 : t ≤ 9999) (v0 : 0 ≤ v) (v1 : v ≤ 999) : WF (adG G (one6 k c n f t v)) := by
  have wr := wf.1
  have u1 := wr.nd; have u2 := wr.nc; have u3 := wr.na
  have nw := adG_new (V := one6 k c n f t v) wr a1
  have out : ∀ y, ((y < 396 ∨ 522 ≤ y) ∧ y ≠ 3) → adG G (one6 k c n f t v) y = G y := fun y hy => adG_out wr a1 hy
  have old : ∀ y, 396 ≤ y → y < 522 → (y - 396) % 14 < G 3 → adG G (one6 k c n f t v) y = G y := fun y h0 h1 h2 => adG_old wr a1 h0 h1 h2
  have wr' : WFR (adG G (one6 k c n f t v)) := by
    unfold adG
    have e0 : one6 k c n f t v 0 = k := rfl
    have e1 : one6 k c n f t v 1 = c := rfl
    have e2 : one6 k c n f t v 2 = n := rfl
    have e3 : one6 k c n f t v 3 = f := rfl
    have e4 : one6 k c n f t v 4 = t := rfl
    have e5 : one6 k c n f t v 5 = v := rfl
    rw [e0, e1, e2, e3, e4, e5]
    exact (((((((((wr.set (396, 410, 0, 6) (by decide) (by show (396 : Int) ≤ _; omega) (by show _ < (410 : Int); omega) (by show (0 : Int) ≤ _; omega) (by show _ ≤ (6 : Int); omega)).set (410, 424, 0, 7) (by decide) (by show (410 : Int) ≤ _; omega) (by show _ < (424 : Int); omega) (by show (0 : Int) ≤ _; omega) (by show _ ≤ (7 : Int); omega)).set (424, 438, 0, 9) (by decide) (by show (424 : Int) ≤ _; omega) (by show _ < (438 : Int); omega) (by show (0 : Int) ≤ _; omega) (by show _ ≤ (9 : Int); omega)).set (438, 452, 0, 9999) (by decide) (by show (438 : Int) ≤ _; omega) (by show _ < (452 : Int); omega) (by show (0 : Int) ≤ _; omega) (by show _ ≤ (9999 : Int); omega)).set (452, 466, 0, 9999) (by decide) (by show (452 : Int) ≤ _; omega) (by show _ < (466 : Int); omega) (by show (0 : Int) ≤ _; omega) (by show _ ≤ (9999 : Int); omega)).set (466, 480, 0, 999) (by decide) (by show (466 : Int) ≤ _; omega) (by show _ < (480 : Int); omega) (by show (0 : Int) ≤ _; omega) (by show _ ≤ (999 : Int); omega)).set (480, 494, 0, 4) (by decide) (by show (480 : Int) ≤ _; omega) (by show _ < (494 : Int); omega) (by show (0 : Int) ≤ _; omega) (by show _ ≤ (4 : Int); omega)).set (494, 508, -1, 5) (by decide) (by show (494 : Int) ≤ _; omega) (by show _ < (508 : Int); omega) (by show (-1 : Int) ≤ _; omega) (by show _ ≤ (5 : Int); omega)).set (508, 522, -1, 9999) (by decide) (by show (508 : Int) ≤ _; omega) (by show _ < (522 : Int); omega) (by show (-1 : Int) ≤ _; omega) (by show _ ≤ (9999 : Int); omega)).set (3, 4, 0, 14) (by decide) (by show (3 : Int) ≤ _; omega) (by show _ < (4 : Int); omega) (by show (0 : Int) ≤ _; omega) (by show _ ≤ (14 : Int); omega)
  obtain ⟨H, eH⟩ : ∃ H, adG G (one6 k c n f t v) = H := ⟨_, rfl⟩
  rw [eH] at nw out old wr' ⊢
  clear eH
  obtain ⟨w3, -, w1, w2, -, -, -, w4, w5, w6⟩ := nw
  have w1 : H (410 + G 3) = c := w1
  have w2 : H (424 + G 3) = n := w2
  refine ⟨wr', wf.2.1.fr wr (fun x hx => out x (by omega)), ?_, ?_, wf.2.2.2.2.fr wr (out 2 (by omega)) (fun x hx => out x (by omega))⟩
  · intro a a0 aa
    rw [w3] at aa
    rw [out 0 (by omega), out 1 (by omega), out 2 (by omega)]
    by_cases e : a = G 3
    · subst e
      rw [w1, w2, w4, w5, w6]
      exact ⟨c1, n0, by omega, fun h => by omega, fun h => by omega⟩
    · rw [old (410 + a) (by omega) (by omega) (by omega), old (424 + a) (by omega) (by omega) (by omega), old (494 + a) (by omega) (by omega) (by omega), old (480 + a) (by omega) (by omega) (by omega), old (508 + a) (by omega) (by omega) (by omega)]
      exact wf.2.2.1 a a0 (by omega)
  · intro a b a0 ab b1 sa sb ed
    rw [w3] at b1
    by_cases e : b = G 3
    · subst e
      rw [w4] at sb
      omega
    · rw [old (480 + a) (by omega) (by omega) (by omega)] at sa
      rw [old (480 + b) (by omega) (by omega) (by omega)] at sb
      rw [old (494 + a) (by omega) (by omega) (by omega), old (494 + b) (by omega) (by omega) (by omega)] at ed
      rw [old (508 + a) (by omega) (by omega) (by omega), old (508 + b) (by omega) (by omega) (by omega), old (424 + a) (by omega) (by omega) (by omega), old (424 + b) (by omega) (by omega) (by omega)]
      exact wf.2.2.2.1 a b a0 ab (by omega) sa sb ed
theorem RelW.asked {h : Int → Int → Int} {w : Int} {G : Int → Int} (hr : RelW h w G) (iw : isW w) (wr : WFR G) (a1 : G 3 < 14) (V : Int → Int) : RelW (q_up (q_up (q_up (q_up (q_up (q_up (q_up (q_up (q_up (q_up h (w + 133 + G 3) 0 (V 0)) (w + 133 + G 3) 1 (V 1)) (w + 133 + G 3) 2 (V 2)) (w + 133 + G 3) 3 (V 3)) (w + 133 + G 3) 4 (V 4)) (w + 133 + G 3) 5 (V 5)) (w + 133 + G 3) 6 0) (w + 133 + G 3) 7 (-1)) (w + 133 + G 3) 8 (-1)) w 3 (G 3 + 1)) w (adG G V) := by
  have w0 := iw.b
  have u2 := wr.nc; have u3 := wr.na
  have g3 := (adG_new (V := V) wr a1).1
  have out : ∀ y, ((y < 396 ∨ 522 ≤ y) ∧ y ≠ 3) → adG G V y = G y := fun y hy => adG_out wr a1 hy
  obtain ⟨a, ea⟩ : ∃ a, G 3 = a := ⟨_, rfl⟩
  have q := (((((((((hr.1.set' (v := V 0) (lo_kind (a := a) (by omega) (by omega)) (a := w + 133 + a) (by omega)).set' (v := V 1) (lo_acraft (a := a) (by omega) (by omega)) (a := w + 133 + a) (by omega)).set' (v := V 2) (lo_an (a := a) (by omega) (by omega)) (a := w + 133 + a) (by omega)).set' (v := V 3) (lo_afrom (a := a) (by omega) (by omega)) (a := w + 133 + a) (by omega)).set' (v := V 4) (lo_ato (a := a) (by omega) (by omega)) (a := w + 133 + a) (by omega)).set' (v := V 5) (lo_aworth (a := a) (by omega) (by omega)) (a := w + 133 + a) (by omega)).set' (v := 0) (lo_astate (a := a) (by omega) (by omega)) (a := w + 133 + a) (by omega)).set' (v := -1) (lo_adish (a := a) (by omega) (by omega)) (a := w + 133 + a) (by omega)).set' (v := -1) (lo_abegin (a := a) (by omega) (by omega)) (a := w + 133 + a) (by omega)).set' (v := a + 1) lo_na (a := w) (by omega)
  have eA : adG G V = ud (ud (ud (ud (ud (ud (ud (ud (ud (ud G (396 + a) (V 0)) (410 + a) (V 1)) (424 + a) (V 2)) (438 + a) (V 3)) (452 + a) (V 4)) (466 + a) (V 5)) (480 + a) 0) (494 + a) (-1)) (508 + a) (-1)) 3 (a + 1) := by unfold adG; rw [ea]
  rw [← eA] at q
  rw [ea]
  rw [ea] at g3
  refine hr.of q ?_ (out 2 (by omega)) (by omega) (fun x hx => out x (by omega)) (by simp (disch := omega) only [q_470, q_up_far, q_row_row, q_row_self, q_row_ne, q_up_ne, q_up_eq, q_rowup, ud_eq, ud_ne, q_add_id, q_sub_id, q_mul_id, q_w_eq, q_rem_n, q_div_n, ↓reduceIte, leT, leF, ltT, ltF, eqT, eqF, true_or, or_true, false_or, or_false, true_and, and_true, false_and, and_false, or_self, and_self, Option.bind_some, ]) (fun c' h0 h1 => by simp (disch := omega) only [q_470, q_up_far, q_row_row, q_row_self, q_row_ne, q_up_ne, q_up_eq, q_rowup, ud_eq, ud_ne, q_add_id, q_sub_id, q_mul_id, q_w_eq, q_rem_n, q_div_n, ↓reduceIte, leT, leF, ltT, ltF, eqT, eqF, true_or, or_true, false_or, or_false, true_and, and_true, false_and, and_false, or_self, and_self, Option.bind_some, ])
  intro x mx hx
  by_cases x3 : x = 3
  · exact Or.inr x3
  · by_cases xa : 396 ≤ x ∧ x < 522 ∧ (x - 396) % 14 = a
    · have : x = 396 + a ∨ x = 410 + a ∨ x = 424 + a ∨ x = 438 + a ∨ x = 452 + a ∨ x = 466 + a ∨ x = 480 + a ∨ x = 494 + a ∨ x = 508 + a := by omega
      left
      rcases this with z | z | z | z | z | z | z | z | z
      · exact Or.inl (Or.inl (Or.inl (Or.inl (Or.inl (Or.inl (Or.inl (Or.inl (Or.inr z))))))))
      · exact Or.inl (Or.inl (Or.inl (Or.inl (Or.inl (Or.inl (Or.inl (Or.inr z)))))))
      · exact Or.inl (Or.inl (Or.inl (Or.inl (Or.inl (Or.inl (Or.inr z))))))
      · exact Or.inl (Or.inl (Or.inl (Or.inl (Or.inl (Or.inr z)))))
      · exact Or.inl (Or.inl (Or.inl (Or.inl (Or.inr z))))
      · exact Or.inl (Or.inl (Or.inl (Or.inr z)))
      · exact Or.inl (Or.inl (Or.inr z))
      · exact Or.inl (Or.inr z)
      · exact Or.inr z
    · refine Or.inl (Or.inl (Or.inl (Or.inl (Or.inl (Or.inl (Or.inl (Or.inl (Or.inl (Or.inl ?_)))))))))
      unfold Live at hx ⊢
      rw [g3, out 1 (by omega), out 2 (by omega)] at hx
      rw [ea]
      obtain ⟨b1, b2, b3, b4, b5, b6, b7, b8, b9⟩ := hx
      refine ⟨b1, b2, b3, b4, ?_, ?_, ?_, ?_, b9⟩
      · intro z1 z2; have := b5 z1 z2; rw [out _ (by omega)] at this; exact this
      · intro z1 z2; have := b6 z1 z2; rw [out _ (by omega)] at this; exact this
      · intro z1 z2; have := b7 z1 z2; clear b1 b2 b3 b4 b5 b6 b7 b8 b9; omega
      · intro z1 z2; have := b8 z1 z2; rw [out _ (by omega)] at this; exact this
theorem k_addAsking {sh : Int × (Int → Nat × Int)} {h : Int → Int → Int} {w R : Int} {G V : Int → Int} (hs : Sh sh) (hp : Ptr h) (iw : isW w) (hr : RelW h w G) (wr : WFR G) (a1 : G 3 < 14) (r0 : 455 ≤ R) (lR : (sh.2 R).2 = 6) (hV : ∀ i, 0 ≤ i → i < 6 → h R i = V i) : ∃ h', q_Cc 94 [(20, w), (30, R)] (sh, h) = some ((9, 0), (sh, h')) ∧ Ptr h' ∧ RelW h' w (adG G V) ∧ ∀ k, (k < w ∨ w + 147 ≤ k) → h' k = h k := by
  have w0 := iw.b
  have u3 := wr.na
  have V0 := hV 0 (by decide) (by decide)
  have V1 := hV 1 (by decide) (by decide)
  have V2 := hV 2 (by decide) (by decide)
  have V3 := hV 3 (by decide) (by decide)
  have V4 := hV 4 (by decide) (by decide)
  have V5 := hV 5 (by decide) (by decide)
  refine ⟨_, ?_, ?_, hr.asked iw wr a1 V, ?_⟩
  · simp (disch := omega) only [q_470, q_up_far, q_row_row, q_row_self, q_row_ne, q_up_ne, q_up_eq, q_rowup, ud_eq, ud_ne, q_add_id, q_sub_id, q_mul_id, q_w_eq, q_rem_n, q_div_n, ↓reduceIte, leT, leF, ltT, ltF, eqT, eqF, true_or, or_true, false_or, or_false, true_and, and_true, false_and, and_false, or_self, and_self, Option.bind_some, V0, V1, V2, V3, V4, V5, lR, hr.na wr, hp.w7 iw, hp.ask iw, hs.asks iw, c_X10_addAsking, e_X10_addAsking_0, e_X10_addAsking_13, c_X0_begin, e_X0_begin_0, e_X0_begin_46, c_X0_waitAgain, e_X0_waitAgain_0]
  · exact (((((((((hp.up (pn_ask iw u3.1 a1)).up (pn_ask iw u3.1 a1)).up (pn_ask iw u3.1 a1)).up (pn_ask iw u3.1 a1)).up (pn_ask iw u3.1 a1)).up (pn_ask iw u3.1 a1)).up (pn_ask iw u3.1 a1)).up (pn_ask iw u3.1 a1)).up (pn_ask iw u3.1 a1)).up (VP_w0 iw (by omega))
  · intro k hk
    simp (disch := omega) only [q_470, q_up_far, q_row_row, q_row_self, q_row_ne, q_up_ne, q_up_eq, q_rowup, ud_eq, ud_ne, q_add_id, q_sub_id, q_mul_id, q_w_eq, q_rem_n, q_div_n, ↓reduceIte, leT, leF, ltT, ltF, eqT, eqF, true_or, or_true, false_or, or_false, true_and, and_true, false_and, and_false, or_self, and_self, Option.bind_some, ]
def adN (G : Int → Int) (V : Nat → Int → Int) : Nat → Int → Int
  | 0 => G
  | n + 1 => adG (adN G V n) (V n)
theorem adN_ok {G : Int → Int} {V : Nat → Int → Int} {m : Nat} (wf : WF G) (hm : G 3 + m ≤ 14) (hV : ∀ x : Nat, x < m → ∃ k c n f t v, V x = one6 k c n f t v ∧ 0 ≤ k ∧ k ≤ 6 ∧ 0 ≤ c ∧ c < G 2 ∧ 1 ≤ n ∧ n ≤ 9 ∧ 0 ≤ f ∧ f ≤ 9999 ∧ 0 ≤ t ∧ t ≤ 9999 ∧ 0 ≤ v ∧ v ≤ 999) : ∀ n : Nat, n ≤ m → WF (adN G V n) ∧ adN G V n 3 = G 3 + n ∧ adN G V n 2 = G 2 ∧ adN G V n 0 = G 0 := by
  intro n
  induction n with
  | zero => intro _; exact ⟨wf, by show G 3 = G 3 + ((0 : Nat) : Int); omega, rfl, rfl⟩
  | succ n ih =>
    intro hn
    obtain ⟨i1, i2, i3, i4⟩ := ih (by omega)
    obtain ⟨k, c, n', f, t, v, e, k0, k1, c0, c1, n0, n1, f0, f1, t0, t1, v0, v1⟩ := hV n (by omega)
    have w := i1.asked (by omega) k0 k1 c0 (by omega) n0 n1 f0 f1 t0 t1 v0 v1
    rw [← e] at w
    refine ⟨w, ?_, ?_, ?_⟩
    · show adG (adN G V n) (V n) 3 = _
      rw [(adG_new (V := V n) i1.1 (by omega)).1]; omega
    · show adG (adN G V n) (V n) 2 = _
      rw [adG_out i1.1 (by omega) (by omega)]; exact i3
    · show adG (adN G V n) (V n) 0 = _
      rw [adG_out i1.1 (by omega) (by omega)]; exact i4
