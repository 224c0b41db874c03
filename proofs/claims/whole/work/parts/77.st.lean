/-! the two constructors: cells are made in order; Q: slots that are not yet set -/
theorem q_mh_row (sh : Int × (Int → Nat × Int)) (h : Int → Int → Int) (z : Int → Int) : q_mh sh h z = q_row h sh.1 z := by
  funext a b
  unfold q_mh q_row
  by_cases e : a = sh.1
  · rw [if_pos e, if_pos e]
  · rw [if_neg e, if_neg e]
def ST (n : Int) (Q : Int → Int → Prop) (sl : Int → Nat × Int) (hl : Int → Int → Int) (sh : Int × (Int → Nat × Int)) (h : Int → Int → Int) : Prop := sh.1 = n ∧ (∀ k, 0 ≤ k → k < n → sh.2 k = LT0 k) ∧ (∀ k j v, 0 ≤ k → k < n → VP0 k j = some v → ¬ Q k j → h k j = v) ∧ (∀ k j, 0 ≤ k → k < n → k ≠ 470 → k ≠ 480 → VP0 k j = none → (LT0 k).1 ≤ 31 → h k j = 0) ∧ ∀ k, k < 0 → sh.2 k = sl k ∧ h k = hl k
theorem ST.mono {n : Int} {Q Q' : Int → Int → Prop} {sl : Int → Nat × Int} {hl : Int → Int → Int} {sh : Int × (Int → Nat × Int)} {h : Int → Int → Int} (S : ST n Q sl hl sh h) (m : ∀ k j v, 0 ≤ k → k < n → VP0 k j = some v → Q k j → Q' k j) : ST n Q' sl hl sh h :=
  ⟨S.1, S.2.1, fun k j v k0 k1 hv hq => S.2.2.1 k j v k0 k1 hv (fun q => hq (m k j v k0 k1 hv q)), S.2.2.2.1, S.2.2.2.2⟩
theorem ST.cast {n m : Int} {Q : Int → Int → Prop} {sl : Int → Nat × Int} {hl : Int → Int → Int} {sh : Int × (Int → Nat × Int)} {h : Int → Int → Int} (S : ST n Q sl hl sh h) (e : n = m) : ST m Q sl hl sh h := by rw [← e]; exact S
theorem ST.obj {n : Int} {Q : Int → Int → Prop} {sl : Int → Nat × Int} {hl : Int → Int → Int} {sh : Int × (Int → Nat × Int)} {h : Int → Int → Int} {t : Nat} {len : Int} {z : Int → Int} (S : ST n Q sl hl sh h) (n0 : 0 ≤ n) (hl0 : LT0 n = (t, len)) (hz : ∀ j, VP0 n j = none → t ≤ 31 → n ≠ 470 → n ≠ 480 → z j = 0) : ST (n + 1) (fun k j => k = n ∨ Q k j) sl hl (q_ms sh t len) (q_mh sh h z) := by
  obtain ⟨s1, s2, s3, s4, s5⟩ := S
  rw [q_mh_row, s1]
  refine ⟨by show sh.1 + 1 = n + 1; rw [s1], fun k k0 k1 => ?_, fun k j v k0 k1 hv hq => ?_, fun k j k0 k1 k2 k3 hv ht => ?_, fun k k0 => ⟨?_, ?_⟩⟩
  · show (if k = sh.1 then (t, len) else sh.2 k) = LT0 k
    by_cases e : k = n
    · rw [if_pos (by rw [s1]; exact e), e, hl0]
    · rw [if_neg (by rw [s1]; exact e)]; exact s2 k k0 (by omega)
  · have e : k ≠ n := fun e => hq (Or.inl e)
    rw [q_row_ne e]
    exact s3 k j v k0 (by omega) hv (fun q => hq (Or.inr q))
  · by_cases e : k = n
    · rw [e, q_row_self]
      rw [e] at hv ht k2 k3
      rw [hl0] at ht
      exact hz j hv ht k2 k3
    · rw [q_row_ne e]; exact s4 k j k0 (by omega) k2 k3 hv ht
  · show (if k = sh.1 then (t, len) else sh.2 k) = sl k
    rw [if_neg (by omega)]; exact (s5 k k0).1
  · rw [q_row_ne (by omega)]; exact (s5 k k0).2
theorem ST.row {n : Int} {Q : Int → Int → Prop} {sl : Int → Nat × Int} {hl : Int → Int → Int} {sh : Int × (Int → Nat × Int)} {h : Int → Int → Int} {t : Nat} {len : Int} {z : Int → Int} (S : ST n Q sl hl sh h) (n0 : 0 ≤ n) (hl0 : LT0 n = (t, len)) (hn : ∀ j, VP0 n j = none) (hz : ∀ j, t ≤ 31 → n ≠ 470 → n ≠ 480 → z j = 0) : ST (n + 1) Q sl hl (q_ms sh t len) (q_mh sh h z) :=
  (S.obj n0 hl0 (fun j _ => hz j)).mono (fun k j v _ _ hv q => by
    rcases q with q | q
    · rw [q, hn] at hv; cases hv
    · exact q)
theorem ST.store {n : Int} {Q : Int → Int → Prop} {sl : Int → Nat × Int} {hl : Int → Int → Int} {sh : Int × (Int → Nat × Int)} {h : Int → Int → Int} {a s v : Int} (S : ST n Q sl hl sh h) (a0 : 0 ≤ a) (hv : VP0 a s = some v) : ST n (fun k j => Q k j ∧ ¬ (k = a ∧ j = s)) sl hl sh (q_up h a s v) := by
  obtain ⟨s1, s2, s3, s4, s5⟩ := S
  refine ⟨s1, s2, fun k j u k0 k1 hu hq => ?_, fun k j k0 k1 k2 k3 hn ht => ?_, fun k k0 => ⟨(s5 k k0).1, ?_⟩⟩
  · by_cases e : k = a ∧ j = s
    · rw [e.1, e.2, q_up_self]
      rw [e.1, e.2, hv] at hu
      injection hu
    · rw [q_up_ne (by omega)]
      exact s3 k j u k0 k1 hu (fun q => hq ⟨q, e⟩)
  · rw [q_up_ne]
    · exact s4 k j k0 k1 k2 k3 hn ht
    · by_cases e : k = a ∧ j = s
      · rw [e.1, e.2, hv] at hn; cases hn
      · omega
  · rw [q_up_far (by omega)]; exact (s5 k k0).2
theorem ST.get {n : Int} {Q : Int → Int → Prop} {sl : Int → Nat × Int} {hl : Int → Int → Int} {sh : Int × (Int → Nat × Int)} {h : Int → Int → Int} {a s v : Int} (S : ST n Q sl hl sh h) (a0 : 0 ≤ a) (a1 : a < n) (hv : VP0 a s = some v) (hq : ¬ Q a s) : h a s = v := S.2.2.1 a s v a0 a1 hv hq
/-- a constructor: cells a to b are made, a itself before -/
def KON (N : Nat) (t : Nat) (a b : Int) : Prop := ∀ (Q : Int → Int → Prop) (sl : Int → Nat × Int) (hl : Int → Int → Int) (sh : Int × (Int → Nat × Int)) (h : Int → Int → Int), (∀ k j, a ≤ k → ¬ Q k j) → ST (a + 1) (fun k j => k = a ∨ Q k j) sl hl sh h → ∃ sh' h', q_Cc N [(t, a)] (sh, h) = some ((9, 0), (sh', h')) ∧ ST b Q sl hl sh' h' 
theorem kon_X1_init {a : Int} (a0 : 0 ≤ a) (v6 : VP0 a 6 = some (a + 1)) (v7 : VP0 a 7 = some (a + 2)) (vo : ∀ j, j ≠ 6 → j ≠ 7 → VP0 a j = none) (r1 : ∀ j, VP0 (a + 1) j = none) (l1 : LT0 (a + 1) = (30, 12)) (r2 : ∀ j, VP0 (a + 2) j = none) (l2 : LT0 (a + 2) = (30, 12)) : KON 8 11 a (a + 3) := by
  intro Q sl hl sh h hq S
  have n0 := S.1
  rw [c_X1_init, e_X1_init_0, if_pos ⟨by decide, by decide⟩]
  have S1 := (S.row (t := 30) (len := 12) (z := fun _ => 0) (by omega) l1 r1 (fun _ _ _ _ => rfl)).cast (show _ = a + 2 by omega)
  rw [n0]
  generalize q_ms sh 30 12 = sh1 at *
  generalize q_mh sh h (fun _ => 0) = h1 at *
  rw [e_X1_init_9, if_pos (by omega), if_pos ⟨by decide, by decide⟩]
  have n1 := S1.1
  rw [n1]
  have T1 := S1.store (a := a) a0 v6
  have S2 := (T1.row (t := 30) (len := 12) (z := fun _ => 0) (by omega) l2 r2 (fun _ _ _ _ => rfl)).cast (show _ = a + 3 by omega)
  generalize q_ms sh1 30 12 = sh2 at *
  generalize q_mh sh1 (q_up h1 a 6 (a + 1)) (fun _ => 0) = h2 at *
  rw [e_X1_init_17, if_pos (by omega)]
  have T2 := S2.store (a := a) a0 v7
  refine ⟨_, _, rfl, T2.mono (fun k j v _ _ hv q => ?_)⟩
  by_cases e : k = a
  · exfalso
    rw [e, vo j (fun z => by simp [e, z] at q) (fun z => by simp [e, z] at q)] at hv
    cases hv
  · have : Q k j := by simpa [e] using q
    exact this
theorem kon_X4_init {a : Int} (a0 : 0 ≤ a) (v1 : VP0 a 1 = some (a + 1)) (v2 : VP0 a 2 = some (a + 2)) (v3 : VP0 a 3 = some (a + 3)) (v4 : VP0 a 4 = some (a + 4)) (v5 : VP0 a 5 = some (a + 5)) (v6 : VP0 a 6 = some (a + 6)) (vo : ∀ j, j ≠ 1 → j ≠ 2 → j ≠ 3 → j ≠ 4 → j ≠ 5 → j ≠ 6 → VP0 a j = none) (r1 : ∀ j, VP0 (a + 1) j = none) (l1 : LT0 (a + 1) = (30, 12)) (r2 : ∀ j, VP0 (a + 2) j = none) (l2 : LT0 (a + 2) = (30, 12)) (r3 : ∀ j, VP0 (a + 3) j = none) (l3 : LT0 (a + 3) = (30, 12)) (r4 : ∀ j, VP0 (a + 4) j = none) (l4 : LT0 (a + 4) = (30, 12)) (r5 : ∀ j, VP0 (a + 5) j = none) (l5 : LT0 (a + 5) = (30, 12)) (r6 : ∀ j, VP0 (a + 6) j = none) (l6 : LT0 (a + 6) = (30, 12)) : KON 29 14 a (a + 7) := by
  intro Q sl hl sh h hq S
  have n0 := S.1
  rw [c_X4_init, e_X4_init_0, if_pos ⟨by decide, by decide⟩]
  have S1 := (S.row (t := 30) (len := 12) (z := fun _ => 0) (by omega) l1 r1 (fun _ _ _ _ => rfl)).cast (show _ = a + 2 by omega)
  rw [n0]
  generalize q_ms sh 30 12 = sh1 at *
  generalize q_mh sh h (fun _ => 0) = h1 at *
  rw [e_X4_init_9, if_pos (by omega), if_pos ⟨by decide, by decide⟩]
  have n1 := S1.1
  rw [n1]
  have T1 := S1.store (a := a) a0 v1
  have S2 := (T1.row (t := 30) (len := 12) (z := fun _ => 0) (by omega) l2 r2 (fun _ _ _ _ => rfl)).cast (show _ = a + 3 by omega)
  generalize q_ms sh1 30 12 = sh2 at *
  generalize q_mh sh1 (q_up h1 a 1 (a + 1)) (fun _ => 0) = h2 at *
  rw [e_X4_init_17, if_pos (by omega), if_pos ⟨by decide, by decide⟩]
  have n2 := S2.1
  rw [n2]
  have T2 := S2.store (a := a) a0 v2
  have S3 := (T2.row (t := 30) (len := 12) (z := fun _ => 0) (by omega) l3 r3 (fun _ _ _ _ => rfl)).cast (show _ = a + 4 by omega)
  generalize q_ms sh2 30 12 = sh3 at *
  generalize q_mh sh2 (q_up h2 a 2 (a + 2)) (fun _ => 0) = h3 at *
  rw [e_X4_init_25, if_pos (by omega), if_pos ⟨by decide, by decide⟩]
  have n3 := S3.1
  rw [n3]
  have T3 := S3.store (a := a) a0 v3
  have S4 := (T3.row (t := 30) (len := 12) (z := fun _ => 0) (by omega) l4 r4 (fun _ _ _ _ => rfl)).cast (show _ = a + 5 by omega)
  generalize q_ms sh3 30 12 = sh4 at *
  generalize q_mh sh3 (q_up h3 a 3 (a + 3)) (fun _ => 0) = h4 at *
  rw [e_X4_init_33, if_pos (by omega), if_pos ⟨by decide, by decide⟩]
  have n4 := S4.1
  rw [n4]
  have T4 := S4.store (a := a) a0 v4
  have S5 := (T4.row (t := 30) (len := 12) (z := fun _ => 0) (by omega) l5 r5 (fun _ _ _ _ => rfl)).cast (show _ = a + 6 by omega)
  generalize q_ms sh4 30 12 = sh5 at *
  generalize q_mh sh4 (q_up h4 a 4 (a + 4)) (fun _ => 0) = h5 at *
  rw [e_X4_init_41, if_pos (by omega), if_pos ⟨by decide, by decide⟩]
  have n5 := S5.1
  rw [n5]
  have T5 := S5.store (a := a) a0 v5
  have S6 := (T5.row (t := 30) (len := 12) (z := fun _ => 0) (by omega) l6 r6 (fun _ _ _ _ => rfl)).cast (show _ = a + 7 by omega)
  generalize q_ms sh5 30 12 = sh6 at *
  generalize q_mh sh5 (q_up h5 a 5 (a + 5)) (fun _ => 0) = h6 at *
  rw [e_X4_init_49, if_pos (by omega)]
  have T6 := S6.store (a := a) a0 v6
  refine ⟨_, _, rfl, T6.mono (fun k j v _ _ hv q => ?_)⟩
  by_cases e : k = a
  · exfalso
    rw [e, vo j (fun z => by simp [e, z] at q) (fun z => by simp [e, z] at q) (fun z => by simp [e, z] at q) (fun z => by simp [e, z] at q) (fun z => by simp [e, z] at q) (fun z => by simp [e, z] at q)] at hv
    cases hv
  · have : Q k j := by simpa [e] using q
    exact this
theorem kon_X6_init {a : Int} (a0 : 0 ≤ a) (v0 : VP0 a 0 = some (a + 1)) (vo : ∀ j, j ≠ 0 → VP0 a j = none) (r1 : ∀ j, VP0 (a + 1) j = none) (l1 : LT0 (a + 1) = (30, 64)) : KON 55 16 a (a + 2) := by
  intro Q sl hl sh h hq S
  have n0 := S.1
  rw [c_X6_init, e_X6_init_0, if_pos ⟨by decide, by decide⟩]
  have S1 := (S.row (t := 30) (len := 64) (z := fun _ => 0) (by omega) l1 r1 (fun _ _ _ _ => rfl)).cast (show _ = a + 2 by omega)
  rw [n0]
  generalize q_ms sh 30 64 = sh1 at *
  generalize q_mh sh h (fun _ => 0) = h1 at *
  rw [e_X6_init_9, if_pos (by omega)]
  have T1 := S1.store (a := a) a0 v0
  refine ⟨_, _, rfl, T1.mono (fun k j v _ _ hv q => ?_)⟩
  by_cases e : k = a
  · exfalso
    rw [e, vo j (fun z => by simp [e, z] at q)] at hv
    cases hv
  · have : Q k j := by simpa [e] using q
    exact this
theorem kon_X7_init {a : Int} (a0 : 0 ≤ a) (v2 : VP0 a 2 = some (a + 1)) (vo : ∀ j, j ≠ 2 → VP0 a j = none) (r1 : ∀ j, VP0 (a + 1) j = none) (l1 : LT0 (a + 1) = (30, 24)) : KON 64 17 a (a + 2) := by
  intro Q sl hl sh h hq S
  have n0 := S.1
  rw [c_X7_init, e_X7_init_0, if_pos ⟨by decide, by decide⟩]
  have S1 := (S.row (t := 30) (len := 24) (z := fun _ => 0) (by omega) l1 r1 (fun _ _ _ _ => rfl)).cast (show _ = a + 2 by omega)
  rw [n0]
  generalize q_ms sh 30 24 = sh1 at *
  generalize q_mh sh h (fun _ => 0) = h1 at *
  rw [e_X7_init_9, if_pos (by omega)]
  have T1 := S1.store (a := a) a0 v2
  refine ⟨_, _, rfl, T1.mono (fun k j v _ _ hv q => ?_)⟩
  by_cases e : k = a
  · exfalso
    rw [e, vo j (fun z => by simp [e, z] at q)] at hv
    cases hv
  · have : Q k j := by simpa [e] using q
    exact this
theorem kon_X8_init {a : Int} (a0 : 0 ≤ a) (v0 : VP0 a 0 = some (a + 1)) (vo : ∀ j, j ≠ 0 → VP0 a j = none) (r1 : ∀ j, VP0 (a + 1) j = none) (l1 : LT0 (a + 1) = (30, 8)) : KON 69 18 a (a + 2) := by
  intro Q sl hl sh h hq S
  have n0 := S.1
  rw [c_X8_init, e_X8_init_0, if_pos ⟨by decide, by decide⟩]
  have S1 := (S.row (t := 30) (len := 8) (z := fun _ => 0) (by omega) l1 r1 (fun _ _ _ _ => rfl)).cast (show _ = a + 2 by omega)
  rw [n0]
  generalize q_ms sh 30 8 = sh1 at *
  generalize q_mh sh h (fun _ => 0) = h1 at *
  rw [e_X8_init_9, if_pos (by omega)]
  have T1 := S1.store (a := a) a0 v0
  refine ⟨_, _, rfl, T1.mono (fun k j v _ _ hv q => ?_)⟩
  by_cases e : k = a
  · exfalso
    rw [e, vo j (fun z => by simp [e, z] at q)] at hv
    cases hv
  · have : Q k j := by simpa [e] using q
    exact this
theorem kon_X5_init {a : Int} (a0 : 0 ≤ a) (v3 : VP0 a 3 = some (a + 1)) (v4 : VP0 a 4 = some (a + 2)) (v5 : VP0 a 5 = some (a + 3)) (v6 : VP0 a 6 = some (a + 4)) (v7 : VP0 a 7 = some (a + 5)) (v8 : VP0 a 8 = some (a + 6)) (v9 : VP0 a 9 = some (a + 7)) (v10 : VP0 a 10 = some (a + 8)) (v11 : VP0 a 11 = some (a + 9)) (vo : ∀ j, j ≠ 3 → j ≠ 4 → j ≠ 5 → j ≠ 6 → j ≠ 7 → j ≠ 8 → j ≠ 9 → j ≠ 10 → j ≠ 11 → VP0 a j = none) (r1 : ∀ j, VP0 (a + 1) j = none) (l1 : LT0 (a + 1) = (30, 5)) (r2 : ∀ j, VP0 (a + 2) j = none) (l2 : LT0 (a + 2) = (30, 5)) (r3 : ∀ j, VP0 (a + 3) j = none) (l3 : LT0 (a + 3) = (30, 5)) (r4 : ∀ j, VP0 (a + 4) j = none) (l4 : LT0 (a + 4) = (30, 5)) (r5 : ∀ j, VP0 (a + 5) j = none) (l5 : LT0 (a + 5) = (30, 5)) (r6 : ∀ j, VP0 (a + 6) j = none) (l6 : LT0 (a + 6) = (30, 5)) (r7 : ∀ j, VP0 (a + 7) j = none) (l7 : LT0 (a + 7) = (30, 6)) (r8 : ∀ j, VP0 (a + 8) j = none) (l8 : LT0 (a + 8) = (30, 6)) (r9 : ∀ j, VP0 (a + 9) j = none) (l9 : LT0 (a + 9) = (30, 6)) : KON 35 15 a (a + 10) := by
  intro Q sl hl sh h hq S
  have n0 := S.1
  rw [c_X5_init, e_X5_init_0, if_pos ⟨by decide, by decide⟩]
  have S1 := (S.row (t := 30) (len := 5) (z := fun _ => 0) (by omega) l1 r1 (fun _ _ _ _ => rfl)).cast (show _ = a + 2 by omega)
  rw [n0]
  generalize q_ms sh 30 5 = sh1 at *
  generalize q_mh sh h (fun _ => 0) = h1 at *
  rw [e_X5_init_8, if_pos (by omega), if_pos ⟨by decide, by decide⟩]
  have n1 := S1.1
  rw [n1]
  have T1 := S1.store (a := a) a0 v3
  have S2 := (T1.row (t := 30) (len := 5) (z := fun _ => 0) (by omega) l2 r2 (fun _ _ _ _ => rfl)).cast (show _ = a + 3 by omega)
  generalize q_ms sh1 30 5 = sh2 at *
  generalize q_mh sh1 (q_up h1 a 3 (a + 1)) (fun _ => 0) = h2 at *
  rw [e_X5_init_15, if_pos (by omega), if_pos ⟨by decide, by decide⟩]
  have n2 := S2.1
  rw [n2]
  have T2 := S2.store (a := a) a0 v4
  have S3 := (T2.row (t := 30) (len := 5) (z := fun _ => 0) (by omega) l3 r3 (fun _ _ _ _ => rfl)).cast (show _ = a + 4 by omega)
  generalize q_ms sh2 30 5 = sh3 at *
  generalize q_mh sh2 (q_up h2 a 4 (a + 2)) (fun _ => 0) = h3 at *
  rw [e_X5_init_22, if_pos (by omega), if_pos ⟨by decide, by decide⟩]
  have n3 := S3.1
  rw [n3]
  have T3 := S3.store (a := a) a0 v5
  have S4 := (T3.row (t := 30) (len := 5) (z := fun _ => 0) (by omega) l4 r4 (fun _ _ _ _ => rfl)).cast (show _ = a + 5 by omega)
  generalize q_ms sh3 30 5 = sh4 at *
  generalize q_mh sh3 (q_up h3 a 5 (a + 3)) (fun _ => 0) = h4 at *
  rw [e_X5_init_29, if_pos (by omega), if_pos ⟨by decide, by decide⟩]
  have n4 := S4.1
  rw [n4]
  have T4 := S4.store (a := a) a0 v6
  have S5 := (T4.row (t := 30) (len := 5) (z := fun _ => 0) (by omega) l5 r5 (fun _ _ _ _ => rfl)).cast (show _ = a + 6 by omega)
  generalize q_ms sh4 30 5 = sh5 at *
  generalize q_mh sh4 (q_up h4 a 6 (a + 4)) (fun _ => 0) = h5 at *
  rw [e_X5_init_36, if_pos (by omega), if_pos ⟨by decide, by decide⟩]
  have n5 := S5.1
  rw [n5]
  have T5 := S5.store (a := a) a0 v7
  have S6 := (T5.row (t := 30) (len := 5) (z := fun _ => 0) (by omega) l6 r6 (fun _ _ _ _ => rfl)).cast (show _ = a + 7 by omega)
  generalize q_ms sh5 30 5 = sh6 at *
  generalize q_mh sh5 (q_up h5 a 7 (a + 5)) (fun _ => 0) = h6 at *
  rw [e_X5_init_43, if_pos (by omega), if_pos ⟨by decide, by decide⟩]
  have n6 := S6.1
  rw [n6]
  have T6 := S6.store (a := a) a0 v8
  have S7 := (T6.row (t := 30) (len := 6) (z := fun _ => 0) (by omega) l7 r7 (fun _ _ _ _ => rfl)).cast (show _ = a + 8 by omega)
  generalize q_ms sh6 30 6 = sh7 at *
  generalize q_mh sh6 (q_up h6 a 8 (a + 6)) (fun _ => 0) = h7 at *
  rw [e_X5_init_51, if_pos (by omega), if_pos ⟨by decide, by decide⟩]
  have n7 := S7.1
  rw [n7]
  have T7 := S7.store (a := a) a0 v9
  have S8 := (T7.row (t := 30) (len := 6) (z := fun _ => 0) (by omega) l8 r8 (fun _ _ _ _ => rfl)).cast (show _ = a + 9 by omega)
  generalize q_ms sh7 30 6 = sh8 at *
  generalize q_mh sh7 (q_up h7 a 9 (a + 7)) (fun _ => 0) = h8 at *
  rw [e_X5_init_59, if_pos (by omega), if_pos ⟨by decide, by decide⟩]
  have n8 := S8.1
  rw [n8]
  have T8 := S8.store (a := a) a0 v10
  have S9 := (T8.row (t := 30) (len := 6) (z := fun _ => 0) (by omega) l9 r9 (fun _ _ _ _ => rfl)).cast (show _ = a + 10 by omega)
  generalize q_ms sh8 30 6 = sh9 at *
  generalize q_mh sh8 (q_up h8 a 10 (a + 8)) (fun _ => 0) = h9 at *
  rw [e_X5_init_67, if_pos (by omega)]
  have T9 := S9.store (a := a) a0 v11
  refine ⟨_, _, rfl, T9.mono (fun k j v _ _ hv q => ?_)⟩
  by_cases e : k = a
  · exfalso
    rw [e, vo j (fun z => by simp [e, z] at q) (fun z => by simp [e, z] at q) (fun z => by simp [e, z] at q) (fun z => by simp [e, z] at q) (fun z => by simp [e, z] at q) (fun z => by simp [e, z] at q) (fun z => by simp [e, z] at q) (fun z => by simp [e, z] at q) (fun z => by simp [e, z] at q)] at hv
    cases hv
  · have : Q k j := by simpa [e] using q
    exact this
