/-! the class's search -/
theorem FE_ud {G E : Int → Int} {d v : Int} (v0 : 0 ≤ v) (hv : G 0 ≤ v + G (64 + d)) : FE G (ud E d v) = ud (FE G E) d (v + G (64 + d)) := by
  funext x
  by_cases e : x = d
  · subst e
    rw [ud_self]
    unfold FE
    rw [ud_self, if_neg (by omega)]
    split <;> omega
  · rw [ud_ne e]
    unfold FE
    rw [ud_ne e]
def ftP (G A : Int → Int) : (Int → Int) → Int → Int → Int := fun F k d => ft G F (A k) d
def ntP (G A : Int → Int) : Int → Int → Int := fun k d => G (424 + A k) + G (64 + d)
/-- what the class's rows bear within the search -/
def SC (h : Int → Int → Int) (G : Int → Int) (m k : Int) (E on fr : Int → Int) (B : Int × Int × (Int → Int) × (Int → Int)) : Prop := (∀ i, 0 ≤ i → i < k → h 445 i = on i ∧ h 446 i = fr i) ∧ (∀ d, 0 ≤ d → d < G 1 → h 451 d = E d) ∧ h 442 1 = B.1 ∧ h 442 2 = B.2.1 ∧ (0 ≤ B.1 → ∀ i, 0 ≤ i → i < m → h 447 i = B.2.2.1 i ∧ h 448 i = B.2.2.2 i)
theorem k_better {sh : Int × (Int → Nat × Int)} {h : Int → Int → Int} {k wt us b u r v : Int} (hs : Sh sh) (hp : Ptr h) (k0 : 0 ≤ k) (k1 : k ≤ 5) (h1 : h 442 1 = b) (h2 : h 442 2 = u) (hr : h 449 k = r) (hv : h 450 k = v) (w0 : 0 ≤ wt) (w1 : wt ≤ 20000) (u0 : 0 ≤ us) (u1 : us ≤ 20) (r0 : 0 ≤ r) (r1 : r ≤ 20000) (v0 : 0 ≤ v) (v1 : v ≤ 20) : q_Cc 46 [(15, 442), (0, k), (0, wt), (0, us)] (sh, h) = some ((0, if b < wt + r ∨ (wt + r = b ∧ us + v < u) then 1 else 0), (sh, h)) := by
  by_cases e1 : b < wt + r
  · rw [if_pos (Or.inl e1)]
    simp (disch := omega) only [q_470, q_up_far, q_row_row, q_row_self, q_row_ne, q_up_ne, q_up_eq, q_rowup, ud_eq, ud_ne, q_add_id, q_sub_id, q_mul_id, q_w_eq, q_rem_n, q_div_n, ↓reduceIte, leT, leF, ltT, ltF, eqT, eqF, true_or, or_true, false_or, or_false, true_and, and_true, false_and, and_false, or_self, and_self, Option.bind_some, h1, h2, hr, hv, hp.pl9, hp.pl10, hs.k449, hs.k450, c_X5_canBeBetter, e_X5_canBeBetter_0, e_X5_canBeBetter_43, e_X5_canBeBetter_47, e_X5_canBeBetter_48]
  · by_cases e2 : wt + r = b
    · by_cases e3 : us + v < u
      · rw [if_pos (Or.inr ⟨e2, e3⟩)]
        simp (disch := omega) only [q_470, q_up_far, q_row_row, q_row_self, q_row_ne, q_up_ne, q_up_eq, q_rowup, ud_eq, ud_ne, q_add_id, q_sub_id, q_mul_id, q_w_eq, q_rem_n, q_div_n, ↓reduceIte, leT, leF, ltT, ltF, eqT, eqF, true_or, or_true, false_or, or_false, true_and, and_true, false_and, and_false, or_self, and_self, Option.bind_some, h1, h2, hr, hv, hp.pl9, hp.pl10, hs.k449, hs.k450, c_X5_canBeBetter, e_X5_canBeBetter_0, e_X5_canBeBetter_43, e_X5_canBeBetter_47, e_X5_canBeBetter_48]
      · rw [if_neg (by omega)]
        simp (disch := omega) only [q_470, q_up_far, q_row_row, q_row_self, q_row_ne, q_up_ne, q_up_eq, q_rowup, ud_eq, ud_ne, q_add_id, q_sub_id, q_mul_id, q_w_eq, q_rem_n, q_div_n, ↓reduceIte, leT, leF, ltT, ltF, eqT, eqF, true_or, or_true, false_or, or_false, true_and, and_true, false_and, and_false, or_self, and_self, Option.bind_some, h1, h2, hr, hv, hp.pl9, hp.pl10, hs.k449, hs.k450, c_X5_canBeBetter, e_X5_canBeBetter_0, e_X5_canBeBetter_43, e_X5_canBeBetter_47, e_X5_canBeBetter_48]
    · rw [if_neg (by omega)]
      simp (disch := omega) only [q_470, q_up_far, q_row_row, q_row_self, q_row_ne, q_up_ne, q_up_eq, q_rowup, ud_eq, ud_ne, q_add_id, q_sub_id, q_mul_id, q_w_eq, q_rem_n, q_div_n, ↓reduceIte, leT, leF, ltT, ltF, eqT, eqF, true_or, or_true, false_or, or_false, true_and, and_true, false_and, and_false, or_self, and_self, Option.bind_some, h1, h2, hr, hv, hp.pl9, hp.pl10, hs.k449, hs.k450, c_X5_canBeBetter, e_X5_canBeBetter_0, e_X5_canBeBetter_43, e_X5_canBeBetter_47, e_X5_canBeBetter_48]
theorem k_keepRow {sh : Int × (Int → Nat × Int)} {h : Int → Int → Int} {m wt us : Int} (hs : Sh sh) (hp : Ptr h) (m0 : 0 ≤ m) (m5 : m ≤ 5) (hm : h 442 0 = m) : ∃ h', q_Cc 47 [(15, 442), (0, wt), (0, us)] (sh, h) = some ((9, 0), (sh, h')) ∧ FC h h' ∧ h' 442 1 = wt ∧ h' 442 2 = us ∧ (∀ i, 0 ≤ i → i < m → h' 447 i = h 445 i ∧ h' 448 i = h 446 i) ∧ h' 445 = h 445 ∧ h' 446 = h 446 ∧ h' 451 = h 451 := by
  refine ⟨q_cp (q_cp (q_up (q_up h 442 1 wt) 442 2 us) 445 0 447 0 m) 446 0 448 0 m, ?_, ?_, ?_, ?_, ?_, ?_, ?_, ?_⟩
  · simp (disch := omega) only [q_470, q_up_far, q_row_row, q_row_self, q_row_ne, q_up_ne, q_up_eq, q_rowup, ud_eq, ud_ne, q_add_id, q_sub_id, q_mul_id, q_w_eq, q_rem_n, q_div_n, ↓reduceIte, leT, leF, ltT, ltF, eqT, eqF, true_or, or_true, false_or, or_false, true_and, and_true, false_and, and_false, or_self, and_self, Option.bind_some, hm, q_cp_far, Int.zero_add, hp.pl5, hp.pl6, hp.pl7, hp.pl8, hs.k445, hs.k446, hs.k447, hs.k448, c_X5_keepRow, e_X5_keepRow_0, e_X5_keepRow_27, e_X5_keepRow_44]
  · intro x y hn
    rw [q_cp_far (by omega), q_cp_far (by omega), q_up_ne (by omega), q_up_ne (by omega)]
  · rw [q_cp_far (by decide), q_cp_far (by decide), q_up_ne (by decide), q_up_self]
  · rw [q_cp_far (by decide), q_cp_far (by decide), q_up_self]
  · intro i i0 i1
    constructor
    · rw [q_cp_far (by decide), q_cp_row, q_row_self, if_pos (by omega), q_up_far (by decide), q_up_far (by decide)]
      congr 1; omega
    · rw [q_cp_row, q_row_self, if_pos (by omega), q_cp_far (by decide), q_up_far (by decide), q_up_far (by decide)]
      congr 1; omega
  · rw [q_cp_far (by decide), q_cp_far (by decide), q_up_far (by decide), q_up_far (by decide)]
  · rw [q_cp_far (by decide), q_cp_far (by decide), q_up_far (by decide), q_up_far (by decide)]
  · rw [q_cp_far (by decide), q_cp_far (by decide), q_up_far (by decide), q_up_far (by decide)]
theorem k_try {sh : Int × (Int → Nat × Int)} {w m : Int} {G E0 A W R V : Int → Int} (hs : Sh sh) (iw : isW w) (wf : WF G) (lk : LK G m A) (hW : ∀ i, 0 ≤ i → i < m → 0 ≤ W i ∧ W i ≤ 3000) (rs : RS G E0 A W m R V) (rb : ∀ k, 0 ≤ k → k ≤ m → 0 ≤ R k ∧ R k ≤ 3000 * (m - k) ∧ 0 ≤ V k ∧ V k ≤ m - k)
    (e0 : ∀ d, 0 ≤ d → d < G 1 → E0 d ≤ 20000) :
    ∀ (j J : Nat) (k wt us : Int) (E on fr : Int → Int) (B : Int × Int × (Int → Int) × (Int → Int)) (h : Int → Int → Int), J ≤ 6 → j < J → 0 ≤ k → k + j = m → PC h w G m A W → (∀ i, 0 ≤ i → i ≤ m → h 449 i = R i ∧ h 450 i = V i) → 0 ≤ wt → wt ≤ 3000 * k → 0 ≤ us → us ≤ k → (∀ d, 0 ≤ d → d < G 1 → E d ≤ 20000 ∧ FE G E0 d ≤ FE G E d) → SC h G m k E on fr B → ∃ h', q_Cc (300 + J) [(15, 442), (20, w), (0, k), (0, wt), (0, us)] (sh, h) = some ((9, 0), (sh, h')) ∧ FC h h' ∧ SC h' G m k E on fr (sr (G 1).toNat (ftP G A) (ntP G A) W j k wt us (FE G E) on fr B) := by
  have wr := wf.1
  have u0 := wr.hour; have u1 := wr.nd; have u3 := wr.na
  have w0 := iw.b
  obtain ⟨m0, m5, la, -⟩ := id lk
  have nd : ((G 1).toNat : Int) = G 1 := Int.toNat_of_nonneg u1.1
  have skip := sr_skip (G 1).toNat (ftP G A) (ntP G A) W m (FE G E0) R V (by
    intro F k d k0 k1 d0 d1 hF hf
    rw [nd] at d1 hF
    have a := la k k0 k1
    have b0 := FE_b (E := E0) wf d0 (by omega) (e0 d d0 d1)
    have t := wr.turn (d := d) d0 (by omega)
    have n := wr.an (d := A k) (by omega) (by omega)
    have hFd := hF d d0 d1
    refine ⟨ft_mono (F0 := FE G E0) (F := F) wr a.1 (by omega) d0 (by omega) (by omega) hFd hf, ?_⟩
    have b := ft_b (G := G) (F := F) (a := A k) (d := d) wr (by omega)
    have hf : 0 ≤ ft G F (A k) d := hf
    show F d ≤ ft G F (A k) d + (G (424 + A k) + G (64 + d))
    omega) (fun k k0 k1 => (hW k k0 k1).1) ⟨rs.1, rs.2.1⟩ (by
    intro k k0 k1
    rw [nd]
    exact rs.2.2 k k0 k1)
  rw [nd] at skip
  intro j
  induction j with
  | zero =>
    intro J k wt us E on fr B h hJ jJ k0 km pc hRV wt0 wt1 us0 us1 hE sc
    have ek : k = m := by omega
    have hp := pc.1
    have hm := pc.2.2.1
    obtain ⟨s1, s2, s3, s4, s5⟩ := id sc
    have rk := hRV k k0 (by omega)
    have rbk := rb k k0 (by omega)
    have kb := k_better (sh := sh) (wt := wt) (us := us) hs hp k0 (by omega) s3 s4 rk.1 rk.2 wt0 (by omega) us0 (by omega) rbk.1 (by omega) rbk.2.2.1 (by omega)
    by_cases z : B.1 < wt + R k ∨ (wt + R k = B.1 ∧ us + V k < B.2.1)
    · rw [if_pos z] at kb
      obtain ⟨h', q1, q2, q3, q4, q5, q6, q7, q8⟩ := k_keepRow (sh := sh) (wt := wt) (us := us) hs hp m0 m5 hm
      refine ⟨h', ?_, q2, ?_⟩
      · simp (disch := omega) only [q_470, q_up_far, q_row_row, q_row_self, q_row_ne, q_up_ne, q_up_eq, q_rowup, ud_eq, ud_ne, q_add_id, q_sub_id, q_mul_id, q_w_eq, q_rem_n, q_div_n, ↓reduceIte, leT, leF, ltT, ltF, eqT, eqF, true_or, or_true, false_or, or_false, true_and, and_true, false_and, and_false, or_self, and_self, Option.bind_some, kb, q1, hm, c_X5_tryFrom J hJ, e_X5_tryFrom_0 J hJ, e_X5_tryFrom_8 J hJ, e_X5_tryFrom_27 J hJ]
      · have es : sr (G 1).toNat (ftP G A) (ntP G A) W 0 k wt us (FE G E) on fr B = (wt, us, on, fr) := by
          unfold sr
          rw [ek, rs.1, rs.2.1] at z
          rw [if_pos (by omega)]
        rw [es]
        unfold SC
        rw [q6, q7, q8]
        refine ⟨s1, s2, q3, q4, fun _ i i0 i1 => ?_⟩
        rw [(q5 i i0 i1).1, (q5 i i0 i1).2]
        exact s1 i i0 (by omega)
    · have sk := skip 0 k wt us (FE G E) on fr B k0 km (fun x x0 x1 => (hE x x0 x1).2) z
      rw [if_neg z] at kb
      refine ⟨h, ?_, FC.refl h, ?_⟩
      · simp (disch := omega) only [q_470, q_up_far, q_row_row, q_row_self, q_row_ne, q_up_ne, q_up_eq, q_rowup, ud_eq, ud_ne, q_add_id, q_sub_id, q_mul_id, q_w_eq, q_rem_n, q_div_n, ↓reduceIte, leT, leF, ltT, ltF, eqT, eqF, true_or, or_true, false_or, or_false, true_and, and_true, false_and, and_false, or_self, and_self, Option.bind_some, kb, c_X5_tryFrom J hJ, e_X5_tryFrom_0 J hJ, e_X5_tryFrom_8 J hJ]
      · rw [sk]; exact sc
  | succ j ih =>
    intro J k wt us E on fr B h hJ jJ k0 km pc hRV wt0 wt1 us0 us1 hE sc
    have hp := pc.1
    have hm := pc.2.2.1
    obtain ⟨s1, s2, s3, s4, s5⟩ := id sc
    have rk := hRV k k0 (by omega)
    have rbk := rb k k0 (by omega)
    have wk := hW k k0 (by omega)
    have ak := la k k0 (by omega)
    have nk := wr.an (d := A k) (by omega) (by omega)
    have tk := wr.ato (d := A k) (by omega) (by omega)
    have kb := k_better (sh := sh) (wt := wt) (us := us) hs hp k0 (by omega) s3 s4 rk.1 rk.2 wt0 (by omega) us0 (by omega) rbk.1 (by omega) rbk.2.2.1 (by omega)
    by_cases z : B.1 < wt + R k ∨ (wt + R k = B.1 ∧ us + V k < B.2.1)
    · rw [if_pos z] at kb
      clear z
      obtain ⟨J', eJ⟩ : ∃ J', J = J' + 1 := ⟨J - 1, by omega⟩
      have e9 : 299 + J = 300 + J' := by omega
      have := lp (fun d (y : (Int → Int → Int) × q_V × q_V) => q_L (300 + J) 31 [(15, 442), (20, w), (0, k), (0, wt), (0, us), (0, d), y.2.1, y.2.2] [] (sh, y.1)) (fun d y => FC h y.1 ∧ SC y.1 G m k E on fr (fldN (srd (G 1).toNat (ftP G A) (ntP G A) W j k wt us (FE G E) on fr) d.toNat B)) (fun r => ∃ h', r = some ((9, 0), (sh, h')) ∧ FC h h' ∧ SC h' G m k E on fr (sr (G 1).toNat (ftP G A) (ntP G A) W (j + 1) k wt us (FE G E) on fr B)) (G 1) ?_ ?_ 0 (h, (9, 0), (9, 0)) (by omega) u1.1 ⟨FC.refl h, sc⟩
      · obtain ⟨h', q1, q2⟩ := this
        refine ⟨h', ?_, q2⟩
        have q1 : q_L (300 + J) 31 [(15, 442), (20, w), (0, k), (0, wt), (0, us), (0, 0), (9, 0), (9, 0)] [] (sh, h) = some ((9, 0), (sh, h')) := q1
        simp (disch := omega) only [q_470, q_up_far, q_row_row, q_row_self, q_row_ne, q_up_ne, q_up_eq, q_rowup, ud_eq, ud_ne, q_add_id, q_sub_id, q_mul_id, q_w_eq, q_rem_n, q_div_n, ↓reduceIte, leT, leF, ltT, ltF, eqT, eqF, true_or, or_true, false_or, or_false, true_and, and_true, false_and, and_false, or_self, and_self, Option.bind_some, kb, q1, hm, c_X5_tryFrom J hJ, e_X5_tryFrom_0 J hJ, e_X5_tryFrom_8 J hJ]
      · intro d y d0 d1 hI
        obtain ⟨g, x6, x7⟩ := y
        obtain ⟨f1, sg⟩ := hI
        have f1 : FC h g := f1
        have pg := pc.fc iw wr f1
        obtain ⟨hpg, hrg, hmg, hag⟩ := id pg
        have hag := hag k k0 (by omega)
        have sg : SC g G m k E on fr (fldN (srd (G 1).toNat (ftP G A) (ntP G A) W j k wt us (FE G E) on fr) d.toNat B) := sg
        have fs := fldN_succ (srd (G 1).toNat (ftP G A) (ntP G A) W j k wt us (FE G E) on fr) d0 B
        obtain ⟨Bd, eB⟩ : ∃ Bd, fldN (srd (G 1).toNat (ftP G A) (ntP G A) W j k wt us (FE G E) on fr) d.toNat B = Bd := ⟨_, rfl⟩
        rw [eB] at sg fs
        obtain ⟨t1, t2, t3, t4, t5⟩ := id sg
        obtain ⟨ed1, ed2⟩ := hE d d0 d1
        have ks := k_startOn (E := E) (sh := sh) hs hpg iw hrg wf k0 (by omega) hag.1 ak.1 ak.2.1 d0 d1 (t2 d d0 d1) ed1
        obtain ⟨s, es⟩ : ∃ s, ft G (FE G E) (A k) d = s := ⟨_, rfl⟩
        rw [es] at ks
        have tu := wr.turn (d := d) d0 (by omega)
        have fb := FE_b (E := E) wf d0 (by omega) ed1
        have sb := ft_b (G := G) (F := FE G E) (a := A k) (d := d) wr (by omega)
        rw [es] at sb
        left
        by_cases z : s < 0
        · refine ⟨(g, (0, s), x7), ?_, f1, ?_⟩
          · show q_L (300 + J) 31 [(15, 442), (20, w), (0, k), (0, wt), (0, us), (0, d), x6, x7] [] (sh, g) = q_L (300 + J) 31 [(15, 442), (20, w), (0, k), (0, wt), (0, us), (0, d + 1), (0, s), x7] [] (sh, g)
            rw [e_X5_tryFrom_31 J hJ]
            simp (disch := omega) only [q_470, q_up_far, q_row_row, q_row_self, q_row_ne, q_up_ne, q_up_eq, q_rowup, ud_eq, ud_ne, q_add_id, q_sub_id, q_mul_id, q_w_eq, q_rem_n, q_div_n, ↓reduceIte, leT, leF, ltT, ltF, eqT, eqF, true_or, or_true, false_or, or_false, true_and, and_true, false_and, and_false, or_self, and_self, Option.bind_some, ks, hrg.nd wr, e_X5_tryFrom_48 J hJ, e_X5_tryFrom_133 J hJ]
          · show SC g G m k E on fr (fldN (srd (G 1).toNat (ftP G A) (ntP G A) W j k wt us (FE G E) on fr) (d + 1).toNat B)
            rw [fs]
            unfold srd
            have : ftP G A (FE G E) k d < 0 := by show ft G (FE G E) (A k) d < 0; rw [es]; exact z
            rw [if_pos this]
            exact sg
        · obtain ⟨g1, eg⟩ : ∃ g1, q_up (q_up (q_up g 445 k d) 446 k s) 451 d (s + G (424 + A k)) = g1 := ⟨_, rfl⟩
          have f2 : FC g g1 := fun x y hn => by rw [← eg, q_up_ne (by omega), q_up_ne (by omega), q_up_ne (by omega)]
          have pg1 := pg.fc iw wr f2
          have eF := FE_ud (G := G) (E := E) (d := d) (v := s + G (424 + A k)) (by omega) (by omega)
          have sg1 : SC g1 G m (k + 1) (ud E d (s + G (424 + A k))) (ud on k d) (ud fr k s) Bd := by
            refine ⟨?_, ?_, ?_, ?_, ?_⟩
            · intro i i0 i1
              rw [← eg]
              by_cases e : i = k
              · subst e
                rw [ud_self, ud_self, q_up_ne (by omega), q_up_ne (by omega), q_up_self, q_up_ne (by omega), q_up_self]
                exact ⟨rfl, rfl⟩
              · rw [ud_ne e, ud_ne e, q_up_ne (by omega), q_up_ne (by omega), q_up_ne (by omega), q_up_ne (by omega), q_up_ne (by omega), q_up_ne (by omega)]
                exact t1 i i0 (by omega)
            · intro x x0 x1
              rw [← eg]
              by_cases e : x = d
              · rw [e, q_up_self, ud_self]
              · rw [ud_ne e, q_up_ne (by omega), q_up_ne (by omega), q_up_ne (by omega)]
                exact t2 x x0 x1
            · rw [← eg, q_up_ne (by omega), q_up_ne (by omega), q_up_ne (by omega)]; exact t3
            · rw [← eg, q_up_ne (by omega), q_up_ne (by omega), q_up_ne (by omega)]; exact t4
            · intro hb i i0 i1
              rw [← eg, q_up_ne (by omega), q_up_ne (by omega), q_up_ne (by omega), q_up_ne (by omega), q_up_ne (by omega), q_up_ne (by omega)]
              exact t5 hb i i0 i1
          obtain ⟨g2, c1, f3, sg2⟩ := ih J' (k + 1) (wt + W k) (us + 1) (ud E d (s + G (424 + A k))) (ud on k d) (ud fr k s) Bd g1 (by omega) (by omega) (by omega) (by omega) pg1 (fun i i0 i1 => by rw [f2 449 i (by omega), f2 450 i (by omega), f1 449 i (by omega), f1 450 i (by omega)]; exact hRV i i0 i1) (by omega) (by omega) (by omega) (by omega) (by
            intro x x0 x1
            rw [eF]
            by_cases e : x = d
            · rw [e, ud_self, ud_self]
              refine ⟨by omega, ?_⟩
              omega
            · rw [ud_ne e, ud_ne e]; exact hE x x0 x1) sg1
          have f4 : FC h g2 := (f1.trans f2).trans f3
          have pg2 := pc.fc iw wr f4
          have hpg2 := pg2.1
          have f5 : FC g2 (q_up g2 451 d (E d)) := fun x y hn => by rw [q_up_ne (by omega)]
          refine ⟨(q_up g2 451 d (E d), (0, s), (0, E d)), ?_, f4.trans f5, ?_⟩
          · show q_L (300 + J) 31 [(15, 442), (20, w), (0, k), (0, wt), (0, us), (0, d), x6, x7] [] (sh, g) = q_L (300 + J) 31 [(15, 442), (20, w), (0, k), (0, wt), (0, us), (0, d + 1), (0, s), (0, E d)] [] (sh, q_up g2 451 d (E d))
            have t2d := t2 d d0 d1
            have an := hrg.an wr (A k) ak.1 ak.2.1
            have hA := hag.1
            have hV := hag.2
            clear ih sg1 sg2 f1 f2 f3 f4 f5 t1 t2 t3 t4 t5 sg pg pg1 pg2 pc hRV rb s1 s2 s3 s4 s5 sc hE la skip hW
            rw [e_X5_tryFrom_31 J hJ]
            simp (disch := omega) only [q_470, q_up_far, q_row_row, q_row_self, q_row_ne, q_up_ne, q_up_eq, q_rowup, ud_eq, ud_ne, q_add_id, q_sub_id, q_mul_id, q_w_eq, q_rem_n, q_div_n, ↓reduceIte, leT, leF, ltT, ltF, eqT, eqF, true_or, or_true, false_or, or_false, true_and, and_true, false_and, and_false, or_self, and_self, Option.bind_some, ks, hrg.nd wr, e_X5_tryFrom_48 J hJ, hpg.pl3, hpg.pl4, hpg.pl5, hpg.pl6, hpg.pl11, hs.k443, hs.k444, hs.k445, hs.k446, hs.k451, t2d, hA, hV, an, hpg.w7 iw, hpg.ask iw, hs.asks iw]
            rw [eg, e9, c1]
            simp (disch := omega) only [q_470, q_up_far, q_row_row, q_row_self, q_row_ne, q_up_ne, q_up_eq, q_rowup, ud_eq, ud_ne, q_add_id, q_sub_id, q_mul_id, q_w_eq, q_rem_n, q_div_n, ↓reduceIte, leT, leF, ltT, ltF, eqT, eqF, true_or, or_true, false_or, or_false, true_and, and_true, false_and, and_false, or_self, and_self, Option.bind_some, e_X5_tryFrom_124 J hJ, e_X5_tryFrom_133 J hJ, hpg2.pl11, hs.k451]
          · show SC (q_up g2 451 d (E d)) G m k E on fr (fldN (srd (G 1).toNat (ftP G A) (ntP G A) W j k wt us (FE G E) on fr) (d + 1).toNat B)
            have eq : fldN (srd (G 1).toNat (ftP G A) (ntP G A) W j k wt us (FE G E) on fr) (d + 1).toNat B = sr (G 1).toNat (ftP G A) (ntP G A) W j (k + 1) (wt + W k) (us + 1) (FE G (ud E d (s + G (424 + A k)))) (ud on k d) (ud fr k s) Bd := by
              rw [fs]
              unfold srd
              have e1 : ftP G A (FE G E) k d = s := es
              have e2 : s + ntP G A k d = s + G (424 + A k) + G (64 + d) := by show s + (G (424 + A k) + G (64 + d)) = _; omega
              rw [e1, if_neg z, e2, eF]
            rw [eq]
            obtain ⟨v1, v2, v3, v4, v5⟩ := sg2
            refine ⟨?_, ?_, ?_, ?_, ?_⟩
            · intro i i0 i1
              rw [q_up_ne (by omega), q_up_ne (by omega)]
              have := v1 i i0 (by omega)
              rw [ud_ne (by omega), ud_ne (by omega)] at this
              exact this
            · intro x x0 x1
              by_cases e : x = d
              · rw [e, q_up_self]
              · rw [q_up_ne (by omega)]
                have := v2 x x0 x1
                rw [ud_ne e] at this
                exact this
            · rw [q_up_ne (by omega)]; exact v3
            · rw [q_up_ne (by omega)]; exact v4
            · intro hb i i0 i1
              rw [q_up_ne (by omega), q_up_ne (by omega)]
              exact v5 hb i i0 i1
      · intro y hI
        obtain ⟨g, x6, x7⟩ := y
        obtain ⟨f1, sg⟩ := hI
        have f1 : FC h g := f1
        have pg := pc.fc iw wr f1
        obtain ⟨hpg, hrg, hmg, -⟩ := id pg
        have sg : SC g G m k E on fr (fldN (srd (G 1).toNat (ftP G A) (ntP G A) W j k wt us (FE G E) on fr) (G 1).toNat B) := sg
        obtain ⟨Bd, eB⟩ : ∃ Bd, fldN (srd (G 1).toNat (ftP G A) (ntP G A) W j k wt us (FE G E) on fr) (G 1).toNat B = Bd := ⟨_, rfl⟩
        rw [eB] at sg
        obtain ⟨t1, t2, t3, t4, t5⟩ := id sg
        obtain ⟨g1, eg⟩ : ∃ g1, q_up (q_up g 445 k (-1)) 446 k (-1) = g1 := ⟨_, rfl⟩
        have f2 : FC g g1 := fun x y hn => by rw [← eg, q_up_ne (by omega), q_up_ne (by omega)]
        have pg1 := pg.fc iw wr f2
        have sg1 : SC g1 G m (k + 1) E (ud on k (-1)) (ud fr k (-1)) Bd := by
          refine ⟨?_, ?_, ?_, ?_, ?_⟩
          · intro i i0 i1
            rw [← eg]
            by_cases e : i = k
            · subst e
              rw [ud_self, ud_self, q_up_ne (by omega), q_up_self, q_up_self]
              exact ⟨rfl, rfl⟩
            · rw [ud_ne e, ud_ne e, q_up_ne (by omega), q_up_ne (by omega), q_up_ne (by omega), q_up_ne (by omega)]
              exact t1 i i0 (by omega)
          · intro x x0 x1
            rw [← eg, q_up_ne (by omega), q_up_ne (by omega)]
            exact t2 x x0 x1
          · rw [← eg, q_up_ne (by omega), q_up_ne (by omega)]; exact t3
          · rw [← eg, q_up_ne (by omega), q_up_ne (by omega)]; exact t4
          · intro hb i i0 i1
            rw [← eg, q_up_ne (by omega), q_up_ne (by omega), q_up_ne (by omega), q_up_ne (by omega)]
            exact t5 hb i i0 i1
        obtain ⟨g2, c1, f3, sg2⟩ := ih J' (k + 1) wt us E (ud on k (-1)) (ud fr k (-1)) Bd g1 (by omega) (by omega) (by omega) (by omega) pg1 (fun i i0 i1 => by rw [f2 449 i (by omega), f2 450 i (by omega), f1 449 i (by omega), f1 450 i (by omega)]; exact hRV i i0 i1) (by omega) (by omega) (by omega) (by omega) hE sg1
        refine ⟨g2, ?_, (f1.trans f2).trans f3, ?_⟩
        · show q_L (300 + J) 31 [(15, 442), (20, w), (0, k), (0, wt), (0, us), (0, G 1), x6, x7] [] (sh, g) = _
          clear ih sg1 sg2 f1 f2 f3 t1 t2 t3 t4 t5 sg pg pg1 pc hRV rb s1 s2 s3 s4 s5 sc hE la skip hW
          rw [e_X5_tryFrom_31 J hJ]
          simp (disch := omega) only [q_470, q_up_far, q_row_row, q_row_self, q_row_ne, q_up_ne, q_up_eq, q_rowup, ud_eq, ud_ne, q_add_id, q_sub_id, q_mul_id, q_w_eq, q_rem_n, q_div_n, ↓reduceIte, leT, leF, ltT, ltF, eqT, eqF, true_or, or_true, false_or, or_false, true_and, and_true, false_and, and_false, or_self, and_self, Option.bind_some, hrg.nd wr, hpg.pl5, hpg.pl6, hs.k445, hs.k446]
          rw [eg, e9, c1]
          simp (disch := omega) only [q_470, q_up_far, q_row_row, q_row_self, q_row_ne, q_up_ne, q_up_eq, q_rowup, ud_eq, ud_ne, q_add_id, q_sub_id, q_mul_id, q_w_eq, q_rem_n, q_div_n, ↓reduceIte, leT, leF, ltT, ltF, eqT, eqF, true_or, or_true, false_or, or_false, true_and, and_true, false_and, and_false, or_self, and_self, Option.bind_some, e_X5_tryFrom_164 J hJ]
        · rw [sr_succ, eB]
          obtain ⟨v1, v2, v3, v4, v5⟩ := sg2
          refine ⟨?_, v2, v3, v4, v5⟩
          intro i i0 i1
          have := v1 i i0 (by omega)
          rw [ud_ne (by omega), ud_ne (by omega)] at this
          exact this
    · have sk := skip (j + 1) k wt us (FE G E) on fr B k0 km (fun x x0 x1 => (hE x x0 x1).2) z
      rw [if_neg z] at kb
      refine ⟨h, ?_, FC.refl h, ?_⟩
      · simp (disch := omega) only [q_470, q_up_far, q_row_row, q_row_self, q_row_ne, q_up_ne, q_up_eq, q_rowup, ud_eq, ud_ne, q_add_id, q_sub_id, q_mul_id, q_w_eq, q_rem_n, q_div_n, ↓reduceIte, leT, leF, ltT, ltF, eqT, eqF, true_or, or_true, false_or, or_false, true_and, and_true, false_and, and_false, or_self, and_self, Option.bind_some, kb, c_X5_tryFrom J hJ, e_X5_tryFrom_0 J hJ, e_X5_tryFrom_8 J hJ]
      · rw [sk]; exact sc
